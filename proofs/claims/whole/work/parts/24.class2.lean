
theorem zFX_t {h h1 h2 : zH} (a : zFX h h1) (b : zFX h1 h2) : zFX h h2 := fun x j hx => (b x j hx).trans (a x j hx)
theorem zWd_sv {p : Int} {c : Nat → Nat → Int} {hs : List (Int × (Nat → Nat → Int))} {tx : Nat → Int} {L : Nat} {h h' : zH} (W : zWd p c hs tx L h) (f : zFr zFSv h h') (a : zRk p c h') (b : h' 78 14 = 1) (d : zSv p c h') : zWd p c hs tx L h' ∧ zFX h h' := by
  obtain ⟨h1, h2, h3, h4, c1, c2, c3, c4, c5, c6⟩ := id W
  exact ⟨zWd_q W ⟨zRo_fr h1.p.2 c1 (fun a j ha => f _ _ (by unfold zFSv; omega)), zMx_fr c2 (fun a j ha => f _ _ (by unfold zFSv; omega)), a, Or.inr ⟨b, d⟩, zEx_fr c5 (fun a j ha => f _ _ (by unfold zFSv; omega)), zRx_fr c6 (fun a j ha => f _ _ (by unfold zFSv; omega))⟩ (fun a j ha => f _ _ (by unfold zFq at ha; unfold zFSv; omega)), fun a j ha => f _ _ (by unfold zFSv; omega)⟩
theorem zWd_ex {p : Int} {c : Nat → Nat → Int} {hs : List (Int × (Nat → Nat → Int))} {tx : Nat → Int} {L : Nat} {t : Nat} {h h' : zH} (W : zWd p c hs tx L h) (f : zFr (zFRk t) h h') (a : zRk p c h') : zWd p c hs tx L h' ∧ zFX h h' := by
  obtain ⟨h1, h2, h3, h4, c1, c2, c3, c4, c5, c6⟩ := id W
  exact ⟨zWd_q W ⟨zRo_fr h1.p.2 c1 (fun a j ha => f _ _ (by unfold zFRk; omega)), zMx_fr c2 (fun a j ha => f _ _ (by unfold zFRk; omega)), a, zSx_fr c4 (fun a j ha => f _ _ (by unfold zFRk; omega)), zEx_fr c5 (fun a j ha => f _ _ (by unfold zFRk; omega)), zRx_fr c6 (fun a j ha => f _ _ (by unfold zFRk; omega))⟩ (fun a j ha => f _ _ (by unfold zFq at ha; unfold zFRk; omega)), fun a j ha => f _ _ (by unfold zFRk; omega)⟩
theorem zWd_ro {p : Int} {c : Nat → Nat → Int} {hs : List (Int × (Nat → Nat → Int))} {tx : Nat → Int} {L : Nat} {h h' : zH} (W : zWd p c hs tx L h) (f : zFr zFRo h h') (a : zRo p c h') : zWd p c hs tx L h' ∧ zFX h h' := by
  obtain ⟨h1, h2, h3, h4, c1, c2, c3, c4, c5, c6⟩ := id W
  exact ⟨zWd_q W ⟨a, zMx_fr c2 (fun a j ha => f _ _ (by unfold zFRo; omega)), zRk_fr c3 (fun a j ha => f _ _ (by unfold zFRo; omega)), zSx_fr c4 (fun a j ha => f _ _ (by unfold zFRo; omega)), zEx_fr c5 (fun a j ha => f _ _ (by unfold zFRo; omega)), zRx_fr c6 (fun a j ha => f _ _ (by unfold zFRo; omega))⟩ (fun a j ha => f _ _ (by unfold zFq at ha; unfold zFRo; omega)), fun a j ha => f _ _ (by unfold zFRo; omega)⟩
theorem zWd_mu {p : Int} {c : Nat → Nat → Int} {hs : List (Int × (Nat → Nat → Int))} {tx : Nat → Int} {L : Nat} {h h' : zH} (W : zWd p c hs tx L h) (f : zFr (fun a _ => a = 185) h h') : zWd p c hs tx L h' ∧ zFX h h' := by
  obtain ⟨h1, h2, h3, h4, c1, c2, c3, c4, c5, c6⟩ := id W
  exact ⟨zWd_q W ⟨zRo_fr h1.p.2 c1 (fun a j ha => f _ _ (by omega)), zMx_fr c2 (fun a j ha => f _ _ (by omega)), zRk_fr c3 (fun a j ha => f _ _ (by omega)), zSx_fr c4 (fun a j ha => f _ _ (by omega)), zEx_fr c5 (fun a j ha => f _ _ (by omega)), zRx_fr c6 (fun a j ha => f _ _ (by omega))⟩ (fun a j ha => f _ _ (by unfold zFq at ha; omega)), fun a j ha => f _ _ (by omega)⟩
theorem zmon_in {p : Int} (hp : 0 < p) {f : Nat → Int} {e : Nat} : 0 ≤ zmon p f e ∧ zmon p f e < p := z_mod hp _
theorem zform_in {p : Int} (hp : 1 < p) {c : Nat → Nat → Int} {b : Int} (e : Nat) : 0 ≤ zform p c b e ∧ zform p c b e < p := by
  unfold zform
  split
  · exact zWp_in hp e
  · exact zmon_in (by omega)
theorem z_is34 {r : Nat} {b : Int} (h : r = if b = 0 then 183 else 184) : zIs zN r (10, 49) := by
  rw [h]
  split
  · exact is_183
  · exact is_184
theorem zRtI_lt {p : Int} {c : Nat → Nat → Int} {t : Int} {x x' y : Nat} (hy : (y : Int) < p) (hR : zRt p c t (x : Int) y) (hx : x < x') : zsumN (zcx p c t) x + zct (zRt p c t (x : Int)) y < zsumN (zcx p c t) x' := by
  have h1 : zsumN (zcx p c t) (x + 1) ≤ zsumN (zcx p c t) x' := zsumN_mono x' hx
  have h2 : zct (zRt p c t (x : Int)) (y + 1) ≤ zct (zRt p c t (x : Int)) p.toNat := zct_mono _ (by omega)
  rw [zct_y (P := zRt p c t (x : Int)) hR] at h2
  have h3 : zsumN (zcx p c t) (x + 1) = zsumN (zcx p c t) x + zct (zRt p c t (x : Int)) p.toNat := rfl
  omega
theorem zRtI_u {p : Int} {c : Nat → Nat → Int} {t : Int} {i : Nat} {r r' : Int} (h : zRtI p c t i r) (h' : zRtI p c t i r') : r = r' := by
  rcases h with ⟨x, y, a1, a2, a3, a4, a5⟩ | ⟨a1, a2⟩
  · rcases h' with ⟨x', y', b1, b2, b3, b4, b5⟩ | ⟨b1, b2⟩
    · have e1 : x = x' := by
        rcases Nat.lt_trichotomy x x' with q | q | q
        · have := zRtI_lt a2 a3 q
          omega
        · exact q
        · have := zRtI_lt b2 b3 q
          omega
      subst e1
      have e2 : y = y' := by
        rcases Nat.lt_trichotomy y y' with q | q | q
        · have h2 : zct (zRt p c t (x : Int)) (y + 1) ≤ zct (zRt p c t (x : Int)) y' := zct_mono _ q
          rw [zct_y (P := zRt p c t (x : Int)) a3] at h2
          omega
        · exact q
        · have h2 : zct (zRt p c t (x : Int)) (y' + 1) ≤ zct (zRt p c t (x : Int)) y := zct_mono _ q
          rw [zct_y (P := zRt p c t (x : Int)) b3] at h2
          omega
      subst e2
      rw [a5, b5]
    · have := zRtI_lt (x' := p.toNat) a2 a3 (by omega)
      unfold zcn at b1
      omega
  · rcases h' with ⟨x', y', b1, b2, b3, b4, b5⟩ | ⟨b1, b2⟩
    · have := zRtI_lt (x' := p.toNat) b2 b3 (by omega)
      unfold zcn at a1
      omega
    · rw [a2, b2]
theorem zrtF_eq {p : Int} {c : Nat → Nat → Int} {t : Int} {i : Nat} {r : Int} (h : zRtI p c t i r) : r = zrtF p c t i := zRtI_u h (Classical.epsilon_spec ⟨r, h⟩)
theorem zrat_in {p : Int} (hp : 0 < p) {R : Nat → Int} {n : Nat} : zrat p R n = -9 ∨ (0 ≤ zrat p R n ∧ zrat p R n < p) := by
  unfold zrat
  split
  · exact Or.inl rfl
  · exact Or.inr (z_mod hp _)
theorem zabs_in {p : Int} (hp : 0 < p) {c : Nat → Nat → Int} {t : Nat} : zabs p c t = -9 ∨ (0 ≤ zabs p c t ∧ zabs p c t < p) := by
  unfold zabs
  split
  · exact zrat_in hp
  · exact Or.inl rfl
theorem zord_in {p : Int} (hp : 0 < p) {c : Nat → Nat → Int} {t : Nat} : zord p c t = -9 ∨ (0 ≤ zord p c t ∧ zord p c t < p) := by
  unfold zord
  split
  · exact zrat_in hp
  · exact Or.inl rfl
theorem zif_2 {s t : zS} {P : Prop} {a b : Int × zS} (ha : a.2 = t) (hb : b.2 = t) : (zif P a b).2 = t := by
  by_cases h : P
  · rw [zif_y h]; exact ha
  · rw [zif_n h]; exact hb
theorem sp_m_2 {s : zS} {v : Int} : (sp_m s v).2 = s := zif_2 (s := s) rfl rfl
theorem sp_mt_2 {s : zS} {t v : Int} : (sp_mt s t v).2 = s := zif_2 (s := s) (zif_2 (s := s) rfl rfl) rfl
theorem sp_size_2 {s : zS} : (sp_size s).2 = s := zif_2 (s := s) rfl rfl
theorem sp_eliminant_2 {s : zS} {b e : Int} : (sp_eliminant s b e).2 = s := zif_2 (s := s) sp_m_2 rfl
/-! ===== bounds of answers ===== -/
theorem zin_sm {v : Int} (h : -100000 ≤ v ∧ v ≤ 100000) : zin v := ⟨by omega, by omega⟩
theorem zin_if {P : Prop} {s t : zS} {a b : Int × zS} (ha : zin a.1) (hb : zin b.1) : zin (zif P a b).1 := by
  by_cases h : P
  · rw [zif_y h]; exact ha
  · rw [zif_n h]; exact hb
theorem zin_m {s : zS} {v : Int} (h : zin v) : zin (sp_m s v).1 := zin_if (s := s) (t := s) ⟨by show -2147483648 ≤ (-2 : Int); decide, by show (-2 : Int) < 2147483648; decide⟩ h
theorem zin_mt {s : zS} {t v : Int} (h : zin v) : zin (sp_mt s t v).1 := zin_if (s := s) (t := s) (zin_m (s := s) h) ⟨by show -2147483648 ≤ (-1 : Int); decide, by show (-1 : Int) < 2147483648; decide⟩
theorem zmk_zin {P : Nat → Prop} {n : Nat} (h : n ≤ 31) : zin (zmk P n : Int) := by
  have := zmk_b8 (P := P) h
  exact ⟨by omega, by omega⟩
theorem ztot_in (c : Nat → Nat → Int) : 0 ≤ ztot c ∧ ztot c ≤ 81 := by
  have h0 := zcnt_in (c 0) 27
  have h1 := zcnt_in (c 1) 27
  have h2 := zcnt_in (c 2) 27
  unfold ztot
  omega
theorem zpairs_in {p : Int} (hp : p ≤ 31) {c : Nat → Nat → Int} : zpairs p c ≤ 29791 := by
  unfold zpairs
  have h1 := zsumN_le (f := fun t => zcn p c (t : Int)) (M := 961) p.toNat (fun i _ => zcn_le hp)
  omega
theorem zcount_in {p : Int} {c : Nat → Nat → Int} {hs : List (Int × (Nat → Nat → Int))} {tx : Nat → Int} {L : Nat} {h : zH} (W : zWd p c hs tx L h) (w : Int) : zin (zcount (p, c, hs, tx, L) w) := by
  have h1 := W.1.p
  have h2 := zgd_le c 0
  have h3 := zgd_le c 1
  have h4 := W.2.2.2.1.2.1
  obtain ⟨nx, -, -, -, h5, -⟩ := W.2.2.1.1
  have h6 := ztot_in c
  have h7 := zpairs_in (c := c) h1.2
  refine zin_sm ?_
  unfold zcount
  dsimp only
  (repeat' split) <;> omega
theorem zdrops_in {p : Int} {c : Nat → Nat → Int} (hs : zSt p c) {h : List (Int × (Nat → Nat → Int))} {tx : Nat → Int} {L : Nat} : zin (sp_degreeDrops (p, c, h, tx, L)).1 := zmk_zin (by have := hs.p; show p.toNat ≤ 31; omega)
theorem zsolv_in {p : Int} {c : Nat → Nat → Int} (hs : zSt p c) {h : List (Int × (Nat → Nat → Int))} {tx : Nat → Int} {L : Nat} : zin (sp_solvable (p, c, h, tx, L)).1 := zmk_zin (by have := hs.p; show p.toNat ≤ 31; omega)
theorem zsize_in {s : zS} : zin (sp_size s).1 := by
  have := zsd_le s.2.1
  exact zin_if (s := s) (t := s) ⟨by show -2147483648 ≤ (-2 : Int); decide, by show (-2 : Int) < 2147483648; decide⟩ ⟨by show -2147483648 ≤ ((zsd s.2.1 : Nat) : Int); omega, by show ((zsd s.2.1 : Nat) : Int) < 2147483648; omega⟩
theorem zrank_in {s : zS} : zin (sp_rank s).1 := zin_m (zin_sm (by
  have h1 := zsd_le s.2.1
  have h2 := zgt_le (p := s.1) (c := s.2.1) s.1.toNat
  unfold zgP
  omega))
theorem zpivot_in {p : Int} {c : Nat → Nat → Int} (hs : zSt p c) {h : List (Int × (Nat → Nat → Int))} {tx : Nat → Int} {L : Nat} : zin (sp_pivotPoint (p, c, h, tx, L)).1 := zin_m (zin_sm (by
  have h1 := hs.p
  have h2 := zpv_lt (p := p) (c := c) p.toNat (by omega)
  show -100000 ≤ ((zpv p c p.toNat : Nat) : Int) ∧ ((zpv p c p.toNat : Nat) : Int) ≤ 100000
  omega))
theorem zsel_in {s : zS} {b : Int} : zin (sp_selected s b).1 := zin_m (by
  have h1 := zsd_le s.2.1
  split
  · exact zmk_zin (by omega)
  · exact zmk_zin (by omega))
theorem zrdr_in {p : Int} {c : Nat → Nat → Int} (hs : zSt p c) {h : List (Int × (Nat → Nat → Int))} {tx : Nat → Int} {L : Nat} : zin (sp_rankDrops (p, c, h, tx, L)).1 := zin_m (zmk_zin (by have := hs.p; show p.toNat ≤ 31; omega))
theorem zcond_in {s : zS} : zin (sp_condition s).1 := zin_m (by split <;> exact ⟨by decide, by decide⟩)
theorem zextr_in {p : Int} {c : Nat → Nat → Int} (hs : zSt p c) {h : List (Int × (Nat → Nat → Int))} {tx : Nat → Int} {L : Nat} : zin (sp_extraneous (p, c, h, tx, L)).1 := zin_m (zmk_zin (by have := hs.p; show p.toNat ≤ 31; omega))
theorem zedeg_in {s : zS} {b : Int} : zin (sp_eliminantDegree s b).1 := zin_m (zin_sm (by
  have := ztop_lt (f := zform s.1 s.2.1 b) 49 (by decide)
  omega))
theorem zelim_in {p : Int} {c : Nat → Nat → Int} (hs : zSt p c) {h : List (Int × (Nat → Nat → Int))} {tx : Nat → Int} {L : Nat} {b e : Int} : zin (sp_eliminant (p, c, h, tx, L) b e).1 := zin_if (s := (p, c, h, tx, L)) (t := (p, c, h, tx, L)) (zin_m (zin_sm (by
  have h1 := hs.p
  have h2 := zform_in (p := p) (by omega) (c := c) (b := b) e.toNat
  show -100000 ≤ zform p c b e.toNat ∧ zform p c b e.toNat ≤ 100000
  omega))) ⟨by show -2147483648 ≤ (-1 : Int); decide, by show (-1 : Int) < 2147483648; decide⟩
theorem zconf_in {s : zS} {t : Int} : zin (sp_confirmed s t).1 := zin_mt (zin_sm (by
  unfold zcfv
  by_cases h : zcfm s.1 s.2.1 t
  · rw [zif_y h]; decide
  · rw [zif_n h]; decide))

noncomputable def sp_pairs (s : zS) : Int × zS := ((zpairs s.1 s.2.1 : Int), s)

set_option maxRecDepth 100000 in
set_option maxHeartbeats 4000000 in
theorem t_X9_size {h : zH} {p : Int} {c : Nat → Nat → Int} {hs : List (Int × (Nat → Nat → Int))} {tx : Nat → Int} {L : Nat} (H : zWd p c hs tx L h) : CI yX9_size mX9_size [vR 1] h (fun r h' => zPX (sp_size (p, c, hs, tx, L)) h r h') := by
  refine inV [some (vR 1)] mvX9_size rfl (Nat.le_of_ble_eq_true rfl) rfl ?_
  obtain ⟨hs1, hP, hH, hT, hC⟩ := id H
  have hp := hs1.p
  have hp0 : h 2 0 = p := hP.1
  have hpp : 0 < p := by omega
  have L19 : ∀ (h' : zH) (v : Int), (zWd p c hs tx L h') → (zFX h h') → (v = if zsd c = 0 then -2 else (zsd c : Int)) → WP mX9_size (zMQ mX9_size (zKI (fun r h' => zPX (sp_size (p, c, hs, tx, L)) h r h'))) 19 [none] [vI v] zN zGR h' := by
    intro h' v hW hX hv
    refine r_i dX9_size_19 rfl meX9_size ?_
    by_cases e : zsd c = 0
    · rw [if_pos e] at hv
      exact zPX_q hW hX (zif_y e) hv
    · rw [if_neg e] at hv
      exact zPX_q hW hX (zif_n e) hv
  refine w_aload0 dX9_size_0 ?_
  apply v_i0 (M := mX9_size) dX9_size_1 lk_RX9_159 mvX9_noMatrix (by decide) meX9_size is_1 (Nat.le_of_ble_eq_true rfl)
  · exact t_X9_noMatrix H
  intro x1 h1 hP1
  obtain ⟨Xn, Wn, r73, Dn, bn, iN⟩ := hP1
  obtain ⟨sn, Pn, Hn, Tn, cn1, cn2, cn3, cn4, cn5, cn6⟩ := id Wn
  refine wp_if_eq 12 dX9_size_4 rfl ⟨by omega, by omega⟩ (fun c4 => ?_) (fun c4 => ?_)
  · skip
    refine w_aload0 dX9_size_12 (wp_getr 7 dX9_size_13 fl_RX9_47 is_1 rfl (wp_geti dX9_size_16 fl_RX9_163 is_7 ?_))
    refine w_forget0 ?_
    first | exact L19 _ _ Wn Xn (by rw [if_pos (by omega)]) | exact L19 _ _ Wn Xn (by rw [if_neg (by omega)]; exact Dn.2.2.1)
  · skip
    refine wp_bipush dX9_size_7 (by decide) (wp_goto 19 dX9_size_9 rfl ?_)
    refine w_forget0 ?_
    first | exact L19 _ _ Wn Xn (by rw [if_pos (by omega)]) | exact L19 _ _ Wn Xn (by rw [if_neg (by omega)]; exact Dn.2.2.1)
set_option maxRecDepth 100000 in
set_option maxHeartbeats 4000000 in
theorem t_X9_entry {h : zH} {p : Int} {c : Nat → Nat → Int} {hs : List (Int × (Nat → Nat → Int))} {tx : Nat → Int} {L : Nat} (H : zWd p c hs tx L h) {r q e : Int} (zr : zin r) (zq : zin q) (ze : zin e) : CI yX9_entry mX9_entry [vR 1, vI r, vI q, vI e] h (fun r h' => zPX (sp_entry (p, c, hs, tx, L) r q e) h r h') := by
  refine inV [some (vR 1), some (vI r), some (vI q), some (vI e)] mvX9_entry rfl (Nat.le_of_ble_eq_true rfl) rfl ?_
  obtain ⟨hs1, hP, hH, hT, hC⟩ := id H
  have hp := hs1.p
  have hp0 : h 2 0 = p := hP.1
  have hpp : 0 < p := by omega
  have zr1 := zr.1
  have zr2 := zr.2
  have zq1 := zq.1
  have zq2 := zq.2
  have ze1 := ze.1
  have ze2 := ze.2
  refine w_iload3 dX9_entry_0 (wp_bipush dX9_entry_1 (by decide) ?_)
  apply s_i2 (M := mX9_entry) dX9_entry_3 lk_RX9_84 mvX9_outside (by decide) meX9_entry (Nat.le_of_ble_eq_true rfl)
  · exact t_X9_outside ze ⟨by omega, by omega⟩
  intro x3 h3 hP3
  obtain ⟨eh3, hP3⟩ := hP3
  replace eh3 := eh3.symm
  subst eh3
  refine wp_if_eq 11 dX9_entry_6 rfl ⟨by omega, by omega⟩ (fun c6 => ?_) (fun c6 => ?_)
  · skip
    refine w_aload0 dX9_entry_11 ?_
    apply v_i0 (M := mX9_entry) dX9_entry_12 lk_RX9_159 mvX9_noMatrix (by decide) meX9_entry is_1 (Nat.le_of_ble_eq_true rfl)
    · exact t_X9_noMatrix H
    intro x12 h12 hP12
    obtain ⟨Xn, Wn, r73, Dn, bn, iN⟩ := hP12
    obtain ⟨sn, Pn, Hn, Tn, cn1, cn2, cn3, cn4, cn5, cn6⟩ := id Wn
    refine wp_if_eq 21 dX9_entry_15 rfl ⟨by omega, by omega⟩ (fun c15 => ?_) (fun c15 => ?_)
    · skip
      refine w_iload1 dX9_entry_21 (w_aload0 dX9_entry_22 (wp_getr 7 dX9_entry_23 fl_RX9_47 is_1 rfl (wp_geti dX9_entry_26 fl_RX9_163 is_7 (wp_iconst dX9_entry_29 (wp_isub dX9_entry_30 ?_)))))
      rw [Dn.2.2.1]
      have hsl := zsd_le c
      apply s_i2 (M := mX9_entry) dX9_entry_31 lk_RX9_84 mvX9_outside (by decide) meX9_entry (Nat.le_of_ble_eq_true rfl)
      · exact t_X9_outside zr ⟨by omega, by omega⟩
      intro x31 h31 hP31
      obtain ⟨eh31, hP31⟩ := hP31
      replace eh31 := eh31.symm
      subst eh31
      refine wp_if_ne 53 dX9_entry_34 rfl ⟨by omega, by omega⟩ (fun c34 => ?_) (fun c34 => ?_)
      · skip
        refine wp_iconst dX9_entry_53 ?_
        refine r_i dX9_entry_54 rfl meX9_entry ?_
        exact zPX_q Wn Xn ((zif_y (by omega)).trans ((zif_n (by omega)).trans (zif_n (by unfold zoS; omega)))) rfl
      · skip
        refine w_iload2 dX9_entry_37 (w_aload0 dX9_entry_38 (wp_getr 7 dX9_entry_39 fl_RX9_47 is_1 rfl (wp_geti dX9_entry_42 fl_RX9_163 is_7 (wp_iconst dX9_entry_45 (wp_isub dX9_entry_46 ?_)))))
        rw [Dn.2.2.1]
        apply s_i2 (M := mX9_entry) dX9_entry_47 lk_RX9_84 mvX9_outside (by decide) meX9_entry (Nat.le_of_ble_eq_true rfl)
        · exact t_X9_outside zq ⟨by omega, by omega⟩
        intro x47 h47 hP47
        obtain ⟨eh47, hP47⟩ := hP47
        replace eh47 := eh47.symm
        subst eh47
        refine wp_if_eq 55 dX9_entry_50 rfl ⟨by omega, by omega⟩ (fun c50 => ?_) (fun c50 => ?_)
        · skip
          refine w_aload0 dX9_entry_55 (wp_getr 7 dX9_entry_56 fl_RX9_47 is_1 rfl (w_iload1 dX9_entry_59 (w_iload2 dX9_entry_60 (w_iload3 dX9_entry_61 ?_))))
          apply v_i3 (M := mX9_entry) dX9_entry_62 lk_RX9_166 mvX0_termAt (by decide) meX9_entry is_7 (Nat.le_of_ble_eq_true rfl)
          · exact t_X0_termAt (q := 8 * r.toNat + q.toNat) (e := e.toNat) (by omega) (by omega) (by omega) (by omega) (by omega) (by omega)
          intro x62 h62 hP62
          obtain ⟨eh62, ex62⟩ := hP62
          replace eh62 := eh62.symm
          subst eh62
          replace ex62 := ex62.symm
          subst ex62
          refine r_i dX9_entry_65 rfl meX9_entry ?_
          exact zPX_q Wn Xn ((zif_y (by omega)).trans ((zif_n (by omega)).trans (zif_y (by unfold zoS; omega)))) (by rw [if_pos (by omega)]; exact Dn.2.2.2 _ (by omega) _ (by omega))
        · skip
          refine wp_iconst dX9_entry_53 ?_
          refine r_i dX9_entry_54 rfl meX9_entry ?_
          exact zPX_q Wn Xn ((zif_y (by omega)).trans ((zif_n (by omega)).trans (zif_n (by unfold zoS; omega)))) rfl
    · skip
      refine wp_bipush dX9_entry_18 (by decide) ?_
      refine r_i dX9_entry_20 rfl meX9_entry ?_
      exact zPX_q Wn Xn ((zif_y (by omega)).trans (zif_y (by omega))) rfl
  · skip
    refine wp_iconst dX9_entry_9 ?_
    refine r_i dX9_entry_10 rfl meX9_entry ?_
    exact zPX_q H zFX_r (zif_n (by omega)) rfl
set_option maxRecDepth 100000 in
set_option maxHeartbeats 4000000 in
theorem t_X9_entryAt {h : zH} {p : Int} {c : Nat → Nat → Int} {hs : List (Int × (Nat → Nat → Int))} {tx : Nat → Int} {L : Nat} (H : zWd p c hs tx L h) {r q t : Int} (zr : zin r) (zq : zin q) (zt : zin t) : CI yX9_entryAt mX9_entryAt [vR 1, vI r, vI q, vI t] h (fun r h' => zPX (sp_entryAt (p, c, hs, tx, L) r q t) h r h') := by
  refine inV [some (vR 1), some (vI r), some (vI q), some (vI t)] mvX9_entryAt rfl (Nat.le_of_ble_eq_true rfl) rfl ?_
  obtain ⟨hs1, hP, hH, hT, hC⟩ := id H
  have hp := hs1.p
  have hp0 : h 2 0 = p := hP.1
  have hpp : 0 < p := by omega
  have zr1 := zr.1
  have zr2 := zr.2
  have zq1 := zq.1
  have zq2 := zq.2
  have zt1 := zt.1
  have zt2 := zt.2
  refine w_iload3 dX9_entryAt_0 (w_aload0 dX9_entryAt_1 (wp_getr 2 dX9_entryAt_2 fl_RX9_20 is_1 rfl (wp_geti dX9_entryAt_5 fl_RX9_68 is_2 (wp_iconst dX9_entryAt_8 (wp_isub dX9_entryAt_9 ?_)))))
  rw [hp0]
  apply s_i2 (M := mX9_entryAt) dX9_entryAt_10 lk_RX9_84 mvX9_outside (by decide) meX9_entryAt (Nat.le_of_ble_eq_true rfl)
  · exact t_X9_outside zt ⟨by omega, by omega⟩
  intro x10 h10 hP10
  obtain ⟨eh10, hP10⟩ := hP10
  replace eh10 := eh10.symm
  subst eh10
  refine wp_if_eq 18 dX9_entryAt_13 rfl ⟨by omega, by omega⟩ (fun c13 => ?_) (fun c13 => ?_)
  · skip
    refine w_aload0 dX9_entryAt_18 ?_
    apply v_i0 (M := mX9_entryAt) dX9_entryAt_19 lk_RX9_159 mvX9_noMatrix (by decide) meX9_entryAt is_1 (Nat.le_of_ble_eq_true rfl)
    · exact t_X9_noMatrix H
    intro x19 h19 hP19
    obtain ⟨Xn, Wn, r73, Dn, bn, iN⟩ := hP19
    obtain ⟨sn, Pn, Hn, Tn, cn1, cn2, cn3, cn4, cn5, cn6⟩ := id Wn
    refine wp_if_eq 28 dX9_entryAt_22 rfl ⟨by omega, by omega⟩ (fun c22 => ?_) (fun c22 => ?_)
    · skip
      refine w_iload1 dX9_entryAt_28 (w_aload0 dX9_entryAt_29 (wp_getr 7 dX9_entryAt_30 fl_RX9_47 is_1 rfl (wp_geti dX9_entryAt_33 fl_RX9_163 is_7 (wp_iconst dX9_entryAt_36 (wp_isub dX9_entryAt_37 ?_)))))
      rw [Dn.2.2.1]
      have hsl := zsd_le c
      apply s_i2 (M := mX9_entryAt) dX9_entryAt_38 lk_RX9_84 mvX9_outside (by decide) meX9_entryAt (Nat.le_of_ble_eq_true rfl)
      · exact t_X9_outside zr ⟨by omega, by omega⟩
      intro x38 h38 hP38
      obtain ⟨eh38, hP38⟩ := hP38
      replace eh38 := eh38.symm
      subst eh38
      refine wp_if_ne 60 dX9_entryAt_41 rfl ⟨by omega, by omega⟩ (fun c41 => ?_) (fun c41 => ?_)
      · skip
        refine wp_iconst dX9_entryAt_60 ?_
        refine r_i dX9_entryAt_61 rfl meX9_entryAt ?_
        exact zPX_q Wn Xn ((zif_y (by omega)).trans ((zif_n (by omega)).trans (zif_n (by unfold zoS; omega)))) rfl
      · skip
        refine w_iload2 dX9_entryAt_44 (w_aload0 dX9_entryAt_45 (wp_getr 7 dX9_entryAt_46 fl_RX9_47 is_1 rfl (wp_geti dX9_entryAt_49 fl_RX9_163 is_7 (wp_iconst dX9_entryAt_52 (wp_isub dX9_entryAt_53 ?_)))))
        rw [Dn.2.2.1]
        apply s_i2 (M := mX9_entryAt) dX9_entryAt_54 lk_RX9_84 mvX9_outside (by decide) meX9_entryAt (Nat.le_of_ble_eq_true rfl)
        · exact t_X9_outside zq ⟨by omega, by omega⟩
        intro x54 h54 hP54
        obtain ⟨eh54, hP54⟩ := hP54
        replace eh54 := eh54.symm
        subst eh54
        refine wp_if_eq 62 dX9_entryAt_57 rfl ⟨by omega, by omega⟩ (fun c57 => ?_) (fun c57 => ?_)
        · skip
          refine w_aload0 dX9_entryAt_62 (wp_getr 7 dX9_entryAt_63 fl_RX9_47 is_1 rfl (w_iload1 dX9_entryAt_66 (w_iload2 dX9_entryAt_67 ?_)))
          apply v_r2 (M := mX9_entryAt) dX9_entryAt_68 lk_RX9_169 mvX0_at (by decide) meX9_entryAt is_7 (Nat.le_of_ble_eq_true rfl)
          · exact t_X0_at (q := 8 * r.toNat + q.toNat) (by omega) (by omega) (by omega) (by omega)
          intro x68 h68 hP68
          obtain ⟨eh68, ex68⟩ := hP68
          replace eh68 := eh68.symm
          subst eh68
          replace ex68 := ex68.symm
          subst ex68
          refine w_iload3 dX9_entryAt_71 (w_aload0 dX9_entryAt_72 (wp_getr 2 dX9_entryAt_73 fl_RX9_20 is_1 rfl (wp_geti dX9_entryAt_76 fl_RX9_68 is_2 ?_)))
          rw [Pn.1]
          apply s_i3 (M := mX9_entryAt) dX9_entryAt_79 lk_RX9_173 mvX3_horner (by decide) meX9_entryAt (Nat.le_of_ble_eq_true rfl)
          · exact t_X3_horner (z_is9 (by omega)) (by omega) (by omega) (fun j hj => (by have := zDx_E hpp Dn (8 * r.toNat + q.toNat) (by omega) j hj; omega))
          intro x79 h79 hP79
          obtain ⟨eh79, ex79⟩ := hP79
          replace eh79 := eh79.symm
          subst eh79
          replace ex79 := ex79.symm
          subst ex79
          refine r_i dX9_entryAt_82 rfl meX9_entryAt ?_
          exact zPX_q Wn Xn ((zif_y (by omega)).trans ((zif_n (by omega)).trans (zif_y (by unfold zoS; omega)))) (zhor_congr 7 _ _ (fun j hj => Dn.2.2.2 _ (by omega) j hj))
        · skip
          refine wp_iconst dX9_entryAt_60 ?_
          refine r_i dX9_entryAt_61 rfl meX9_entryAt ?_
          exact zPX_q Wn Xn ((zif_y (by omega)).trans ((zif_n (by omega)).trans (zif_n (by unfold zoS; omega)))) rfl
    · skip
      refine wp_bipush dX9_entryAt_25 (by decide) ?_
      refine r_i dX9_entryAt_27 rfl meX9_entryAt ?_
      exact zPX_q Wn Xn ((zif_y (by omega)).trans (zif_y (by omega))) rfl
  · skip
    refine wp_iconst dX9_entryAt_16 ?_
    refine r_i dX9_entryAt_17 rfl meX9_entryAt ?_
    exact zPX_q H zFX_r (zif_n (by omega)) rfl
set_option maxRecDepth 100000 in
set_option maxHeartbeats 4000000 in
theorem t_X9_rankAt {h : zH} {p : Int} {c : Nat → Nat → Int} {hs : List (Int × (Nat → Nat → Int))} {tx : Nat → Int} {L : Nat} (H : zWd p c hs tx L h) {t : Int} (zt : zin t) : CI yX9_rankAt mX9_rankAt [vR 1, vI t] h (fun r h' => zPX (sp_rankAt (p, c, hs, tx, L) t) h r h') := by
  refine inV [some (vR 1), some (vI t)] mvX9_rankAt rfl (Nat.le_of_ble_eq_true rfl) rfl ?_
  obtain ⟨hs1, hP, hH, hT, hC⟩ := id H
  have hp := hs1.p
  have hp0 : h 2 0 = p := hP.1
  have hpp : 0 < p := by omega
  have zt1 := zt.1
  have zt2 := zt.2
  refine w_iload1 dX9_rankAt_0 (w_aload0 dX9_rankAt_1 (wp_getr 2 dX9_rankAt_2 fl_RX9_20 is_1 rfl (wp_geti dX9_rankAt_5 fl_RX9_68 is_2 (wp_iconst dX9_rankAt_8 (wp_isub dX9_rankAt_9 ?_)))))
  rw [hp0]
  apply s_i2 (M := mX9_rankAt) dX9_rankAt_10 lk_RX9_84 mvX9_outside (by decide) meX9_rankAt (Nat.le_of_ble_eq_true rfl)
  · exact t_X9_outside zt ⟨by omega, by omega⟩
  intro x10 h10 hP10
  obtain ⟨eh10, hP10⟩ := hP10
  replace eh10 := eh10.symm
  subst eh10
  refine wp_if_eq 18 dX9_rankAt_13 rfl ⟨by omega, by omega⟩ (fun c13 => ?_) (fun c13 => ?_)
  · skip
    refine w_aload0 dX9_rankAt_18 ?_
    apply v_i0 (M := mX9_rankAt) dX9_rankAt_19 lk_RX9_159 mvX9_noMatrix (by decide) meX9_rankAt is_1 (Nat.le_of_ble_eq_true rfl)
    · exact t_X9_noMatrix H
    intro x19 h19 hP19
    obtain ⟨Xn, Wn, r73, Dn, bn, iN⟩ := hP19
    obtain ⟨sn, Pn, Hn, Tn, cn1, cn2, cn3, cn4, cn5, cn6⟩ := id Wn
    refine wp_if_eq 28 dX9_rankAt_22 rfl ⟨by omega, by omega⟩ (fun c22 => ?_) (fun c22 => ?_)
    · skip
      refine w_aload0 dX9_rankAt_28 (wp_getr 78 dX9_rankAt_29 fl_RX9_51 is_1 rfl (w_iload1 dX9_rankAt_32 ?_))
      apply v_v1 (M := mX9_rankAt) dX9_rankAt_33 lk_RX9_177 mvX5_examine (by decide) meX9_rankAt is_78 (Nat.le_of_ble_eq_true rfl)
      · exact t_X5_examine (t := t.toNat) (by omega) hs1 (by omega) Pn Dn (zsd_2 (by omega)) cn3
      intro h33 hP33
      obtain ⟨fx, ax, bx⟩ := hP33
      obtain ⟨Wx, Xx⟩ := zWd_ex Wn fx ax
      have Xx2 := zFX_t Xn Xx
      obtain ⟨k1, k2, k3, k4⟩ := id bx
      refine w_aload0 dX9_rankAt_36 (wp_getr 78 dX9_rankAt_37 fl_RX9_51 is_1 rfl (w_iload1 dX9_rankAt_40 ?_))
      apply v_i1 (M := mX9_rankAt) dX9_rankAt_41 lk_RX9_180 mvX5_rankOf (by decide) meX9_rankAt is_78 (Nat.le_of_ble_eq_true rfl)
      · exact t_X5_rankOf (t := t.toNat) (by omega) (by omega)
      intro x41 h41 hP41
      obtain ⟨eh41, ex41⟩ := hP41
      replace eh41 := eh41.symm
      subst eh41
      replace ex41 := ex41.symm
      subst ex41
      refine r_i dX9_rankAt_44 rfl meX9_rankAt ?_
      exact zPX_q Wx Xx2 ((zif_y (by omega)).trans (zif_n (by omega))) k1
    · skip
      refine wp_bipush dX9_rankAt_25 (by decide) ?_
      refine r_i dX9_rankAt_27 rfl meX9_rankAt ?_
      exact zPX_q Wn Xn ((zif_y (by omega)).trans (zif_y (by omega))) rfl
  · skip
    refine wp_iconst dX9_rankAt_16 ?_
    refine r_i dX9_rankAt_17 rfl meX9_rankAt ?_
    exact zPX_q H zFX_r (zif_n (by omega)) rfl
set_option maxRecDepth 100000 in
set_option maxHeartbeats 4000000 in
theorem t_X9_rank {h : zH} {p : Int} {c : Nat → Nat → Int} {hs : List (Int × (Nat → Nat → Int))} {tx : Nat → Int} {L : Nat} (H : zWd p c hs tx L h) : CI yX9_rank mX9_rank [vR 1] h (fun r h' => zPX (sp_rank (p, c, hs, tx, L)) h r h') := by
  refine inV [some (vR 1)] mvX9_rank rfl (Nat.le_of_ble_eq_true rfl) rfl ?_
  obtain ⟨hs1, hP, hH, hT, hC⟩ := id H
  have hp := hs1.p
  have hp0 : h 2 0 = p := hP.1
  have hpp : 0 < p := by omega
  refine w_aload0 dX9_rank_0 ?_
  apply v_i0 (M := mX9_rank) dX9_rank_1 lk_RX9_159 mvX9_noMatrix (by decide) meX9_rank is_1 (Nat.le_of_ble_eq_true rfl)
  · exact t_X9_noMatrix H
  intro x1 h1 hP1
  obtain ⟨Xn, Wn, r73, Dn, bn, iN⟩ := hP1
  obtain ⟨sn, Pn, Hn, Tn, cn1, cn2, cn3, cn4, cn5, cn6⟩ := id Wn
  refine wp_if_eq 10 dX9_rank_4 rfl ⟨by omega, by omega⟩ (fun c4 => ?_) (fun c4 => ?_)
  · skip
    refine w_aload0 dX9_rank_10 (wp_getr 78 dX9_rank_11 fl_RX9_51 is_1 rfl ?_)
    apply v_v0 (M := mX9_rank) dX9_rank_14 lk_RX9_183 mvX5_survey (by decide) meX9_rank is_78 (Nat.le_of_ble_eq_true rfl)
    · exact t_X5_survey hs1 Pn Dn (zsd_2 (by omega)) cn3 cn4
    intro h14 hP14
    obtain ⟨fs, as, bs, ds⟩ := hP14
    obtain ⟨Ws, Xs⟩ := zWd_sv Wn fs as bs ds
    have Xs2 := zFX_t Xn Xs
    obtain ⟨d0, d1, d2, d3, d4, d5⟩ := id ds
    refine w_aload0 dX9_rank_17 (wp_getr 78 dX9_rank_18 fl_RX9_51 is_1 rfl (wp_geti dX9_rank_21 fl_RX9_186 is_78 ?_))
    refine r_i dX9_rank_24 rfl meX9_rank ?_
    exact zPX_q Ws Xs2 (zif_n (by omega)) d0
  · skip
    refine wp_bipush dX9_rank_7 (by decide) ?_
    refine r_i dX9_rank_9 rfl meX9_rank ?_
    exact zPX_q Wn Xn (zif_y (by omega)) rfl
set_option maxRecDepth 100000 in
set_option maxHeartbeats 4000000 in
theorem t_X9_pivotPoint {h : zH} {p : Int} {c : Nat → Nat → Int} {hs : List (Int × (Nat → Nat → Int))} {tx : Nat → Int} {L : Nat} (H : zWd p c hs tx L h) : CI yX9_pivotPoint mX9_pivotPoint [vR 1] h (fun r h' => zPX (sp_pivotPoint (p, c, hs, tx, L)) h r h') := by
  refine inV [some (vR 1)] mvX9_pivotPoint rfl (Nat.le_of_ble_eq_true rfl) rfl ?_
  obtain ⟨hs1, hP, hH, hT, hC⟩ := id H
  have hp := hs1.p
  have hp0 : h 2 0 = p := hP.1
  have hpp : 0 < p := by omega
  refine w_aload0 dX9_pivotPoint_0 ?_
  apply v_i0 (M := mX9_pivotPoint) dX9_pivotPoint_1 lk_RX9_159 mvX9_noMatrix (by decide) meX9_pivotPoint is_1 (Nat.le_of_ble_eq_true rfl)
  · exact t_X9_noMatrix H
  intro x1 h1 hP1
  obtain ⟨Xn, Wn, r73, Dn, bn, iN⟩ := hP1
  obtain ⟨sn, Pn, Hn, Tn, cn1, cn2, cn3, cn4, cn5, cn6⟩ := id Wn
  refine wp_if_eq 10 dX9_pivotPoint_4 rfl ⟨by omega, by omega⟩ (fun c4 => ?_) (fun c4 => ?_)
  · skip
    refine w_aload0 dX9_pivotPoint_10 (wp_getr 78 dX9_pivotPoint_11 fl_RX9_51 is_1 rfl ?_)
    apply v_v0 (M := mX9_pivotPoint) dX9_pivotPoint_14 lk_RX9_183 mvX5_survey (by decide) meX9_pivotPoint is_78 (Nat.le_of_ble_eq_true rfl)
    · exact t_X5_survey hs1 Pn Dn (zsd_2 (by omega)) cn3 cn4
    intro h14 hP14
    obtain ⟨fs, as, bs, ds⟩ := hP14
    obtain ⟨Ws, Xs⟩ := zWd_sv Wn fs as bs ds
    have Xs2 := zFX_t Xn Xs
    obtain ⟨d0, d1, d2, d3, d4, d5⟩ := id ds
    refine w_aload0 dX9_pivotPoint_17 (wp_getr 78 dX9_pivotPoint_18 fl_RX9_51 is_1 rfl (wp_geti dX9_pivotPoint_21 fl_RX9_189 is_78 ?_))
    refine r_i dX9_pivotPoint_24 rfl meX9_pivotPoint ?_
    exact zPX_q Ws Xs2 (zif_n (by omega)) d2
  · skip
    refine wp_bipush dX9_pivotPoint_7 (by decide) ?_
    refine r_i dX9_pivotPoint_9 rfl meX9_pivotPoint ?_
    exact zPX_q Wn Xn (zif_y (by omega)) rfl
set_option maxRecDepth 100000 in
set_option maxHeartbeats 4000000 in
theorem t_X9_selected {h : zH} {p : Int} {c : Nat → Nat → Int} {hs : List (Int × (Nat → Nat → Int))} {tx : Nat → Int} {L : Nat} (H : zWd p c hs tx L h) {b : Int} (zb : b = 0 ∨ b = 1) : CI yX9_selected mX9_selected [vR 1, vI b] h (fun r h' => zPX (sp_selected (p, c, hs, tx, L) b) h r h') := by
  refine inV [some (vR 1), some (vI b)] mvX9_selected rfl (Nat.le_of_ble_eq_true rfl) rfl ?_
  obtain ⟨hs1, hP, hH, hT, hC⟩ := id H
  have hp := hs1.p
  have hp0 : h 2 0 = p := hP.1
  have hpp : 0 < p := by omega
  refine w_aload0 dX9_selected_0 ?_
  apply v_i0 (M := mX9_selected) dX9_selected_1 lk_RX9_159 mvX9_noMatrix (by decide) meX9_selected is_1 (Nat.le_of_ble_eq_true rfl)
  · exact t_X9_noMatrix H
  intro x1 h1 hP1
  obtain ⟨Xn, Wn, r73, Dn, bn, iN⟩ := hP1
  obtain ⟨sn, Pn, Hn, Tn, cn1, cn2, cn3, cn4, cn5, cn6⟩ := id Wn
  refine wp_if_eq 10 dX9_selected_4 rfl ⟨by omega, by omega⟩ (fun c4 => ?_) (fun c4 => ?_)
  · skip
    refine w_aload0 dX9_selected_10 (wp_getr 78 dX9_selected_11 fl_RX9_51 is_1 rfl ?_)
    apply v_v0 (M := mX9_selected) dX9_selected_14 lk_RX9_183 mvX5_survey (by decide) meX9_selected is_78 (Nat.le_of_ble_eq_true rfl)
    · exact t_X5_survey hs1 Pn Dn (zsd_2 (by omega)) cn3 cn4
    intro h14 hP14
    obtain ⟨fs, as, bs, ds⟩ := hP14
    obtain ⟨Ws, Xs⟩ := zWd_sv Wn fs as bs ds
    have Xs2 := zFX_t Xn Xs
    obtain ⟨d0, d1, d2, d3, d4, d5⟩ := id ds
    refine w_iload1 dX9_selected_17 ?_
    refine wp_if_eq 31 dX9_selected_18 rfl ⟨by omega, by omega⟩ (fun c18 => ?_) (fun c18 => ?_)
    · skip
      refine w_aload0 dX9_selected_31 (wp_getr 78 dX9_selected_32 fl_RX9_51 is_1 rfl (wp_geti dX9_selected_35 fl_RX9_195 is_78 ?_))
      refine r_i dX9_selected_38 rfl meX9_selected ?_
      exact zPX_q Ws Xs2 (zif_n (by omega)) (by first | (rw [if_pos (by omega)]; exact d4) | (rw [if_neg (by omega)]; exact d3))
    · skip
      refine w_aload0 dX9_selected_21 (wp_getr 78 dX9_selected_22 fl_RX9_51 is_1 rfl (wp_geti dX9_selected_25 fl_RX9_192 is_78 (wp_goto 38 dX9_selected_28 rfl ?_)))
      refine r_i dX9_selected_38 rfl meX9_selected ?_
      exact zPX_q Ws Xs2 (zif_n (by omega)) (by first | (rw [if_pos (by omega)]; exact d4) | (rw [if_neg (by omega)]; exact d3))
  · skip
    refine wp_bipush dX9_selected_7 (by decide) ?_
    refine r_i dX9_selected_9 rfl meX9_selected ?_
    exact zPX_q Wn Xn (zif_y (by omega)) rfl
set_option maxRecDepth 100000 in
set_option maxHeartbeats 4000000 in
theorem t_X9_rankDrops {h : zH} {p : Int} {c : Nat → Nat → Int} {hs : List (Int × (Nat → Nat → Int))} {tx : Nat → Int} {L : Nat} (H : zWd p c hs tx L h) : CI yX9_rankDrops mX9_rankDrops [vR 1] h (fun r h' => zPX (sp_rankDrops (p, c, hs, tx, L)) h r h') := by
  refine inV [some (vR 1)] mvX9_rankDrops rfl (Nat.le_of_ble_eq_true rfl) rfl ?_
  obtain ⟨hs1, hP, hH, hT, hC⟩ := id H
  have hp := hs1.p
  have hp0 : h 2 0 = p := hP.1
  have hpp : 0 < p := by omega
  refine w_aload0 dX9_rankDrops_0 ?_
  apply v_i0 (M := mX9_rankDrops) dX9_rankDrops_1 lk_RX9_159 mvX9_noMatrix (by decide) meX9_rankDrops is_1 (Nat.le_of_ble_eq_true rfl)
  · exact t_X9_noMatrix H
  intro x1 h1 hP1
  obtain ⟨Xn, Wn, r73, Dn, bn, iN⟩ := hP1
  obtain ⟨sn, Pn, Hn, Tn, cn1, cn2, cn3, cn4, cn5, cn6⟩ := id Wn
  refine wp_if_eq 10 dX9_rankDrops_4 rfl ⟨by omega, by omega⟩ (fun c4 => ?_) (fun c4 => ?_)
  · skip
    refine w_aload0 dX9_rankDrops_10 (wp_getr 78 dX9_rankDrops_11 fl_RX9_51 is_1 rfl ?_)
    apply v_v0 (M := mX9_rankDrops) dX9_rankDrops_14 lk_RX9_183 mvX5_survey (by decide) meX9_rankDrops is_78 (Nat.le_of_ble_eq_true rfl)
    · exact t_X5_survey hs1 Pn Dn (zsd_2 (by omega)) cn3 cn4
    intro h14 hP14
    obtain ⟨fs, as, bs, ds⟩ := hP14
    obtain ⟨Ws, Xs⟩ := zWd_sv Wn fs as bs ds
    have Xs2 := zFX_t Xn Xs
    obtain ⟨d0, d1, d2, d3, d4, d5⟩ := id ds
    refine w_aload0 dX9_rankDrops_17 (wp_getr 78 dX9_rankDrops_18 fl_RX9_51 is_1 rfl (wp_geti dX9_rankDrops_21 fl_RX9_198 is_78 ?_))
    refine r_i dX9_rankDrops_24 rfl meX9_rankDrops ?_
    exact zPX_q Ws Xs2 (zif_n (by omega)) d5
  · skip
    refine wp_bipush dX9_rankDrops_7 (by decide) ?_
    refine r_i dX9_rankDrops_9 rfl meX9_rankDrops ?_
    exact zPX_q Wn Xn (zif_y (by omega)) rfl
set_option maxRecDepth 100000 in
set_option maxHeartbeats 4000000 in
theorem t_X9_condition {h : zH} {p : Int} {c : Nat → Nat → Int} {hs : List (Int × (Nat → Nat → Int))} {tx : Nat → Int} {L : Nat} (H : zWd p c hs tx L h) : CI yX9_condition mX9_condition [vR 1] h (fun r h' => zPX (sp_condition (p, c, hs, tx, L)) h r h') := by
  refine inV [some (vR 1)] mvX9_condition rfl (Nat.le_of_ble_eq_true rfl) rfl ?_
  obtain ⟨hs1, hP, hH, hT, hC⟩ := id H
  have hp := hs1.p
  have hp0 : h 2 0 = p := hP.1
  have hpp : 0 < p := by omega
  refine w_aload0 dX9_condition_0 ?_
  apply v_i0 (M := mX9_condition) dX9_condition_1 lk_RX9_159 mvX9_noMatrix (by decide) meX9_condition is_1 (Nat.le_of_ble_eq_true rfl)
  · exact t_X9_noMatrix H
  intro x1 h1 hP1
  obtain ⟨Xn, Wn, r73, Dn, bn, iN⟩ := hP1
  obtain ⟨sn, Pn, Hn, Tn, cn1, cn2, cn3, cn4, cn5, cn6⟩ := id Wn
  refine wp_if_eq 10 dX9_condition_4 rfl ⟨by omega, by omega⟩ (fun c4 => ?_) (fun c4 => ?_)
  · skip
    refine w_aload0 dX9_condition_10 (wp_getr 78 dX9_condition_11 fl_RX9_51 is_1 rfl ?_)
    apply v_v0 (M := mX9_condition) dX9_condition_14 lk_RX9_183 mvX5_survey (by decide) meX9_condition is_78 (Nat.le_of_ble_eq_true rfl)
    · exact t_X5_survey hs1 Pn Dn (zsd_2 (by omega)) cn3 cn4
    intro h14 hP14
    obtain ⟨fs, as, bs, ds⟩ := hP14
    obtain ⟨Ws, Xs⟩ := zWd_sv Wn fs as bs ds
    have Xs2 := zFX_t Xn Xs
    obtain ⟨d0, d1, d2, d3, d4, d5⟩ := id ds
    refine w_aload0 dX9_condition_17 (wp_getr 78 dX9_condition_18 fl_RX9_51 is_1 rfl (wp_geti dX9_condition_21 fl_RX9_201 is_78 (w_aload0 dX9_condition_24 (wp_getr 78 dX9_condition_25 fl_RX9_51 is_1 rfl (wp_geti dX9_condition_28 fl_RX9_186 is_78 ?_)))))
    rw [d0, d1]
    have y1 := zgt_le (p := p) (c := c) p.toNat
    have y2 := zgw_le (p := p) (c := c) p.toNat
    have y3 := zsd_le c
    have y4 : zgP p c = zgt p c p.toNat := rfl
    refine wp_icmp_ge 38 dX9_condition_31 rfl ⟨by omega, by omega⟩ ⟨by omega, by omega⟩ (fun c31 => ?_) (fun c31 => ?_)
    · skip
      refine wp_iconst dX9_condition_38 ?_
      refine r_i dX9_condition_39 rfl meX9_condition ?_
      exact zPX_q Ws Xs2 (zif_n (by omega)) (by first | (rw [if_pos (by show zgw p c p.toNat < zgP p c; omega)]) | (rw [if_neg (by show ¬ zgw p c p.toNat < zgP p c; omega)]))
    · skip
      refine wp_iconst dX9_condition_34 (wp_goto 39 dX9_condition_35 rfl ?_)
      refine r_i dX9_condition_39 rfl meX9_condition ?_
      exact zPX_q Ws Xs2 (zif_n (by omega)) (by first | (rw [if_pos (by show zgw p c p.toNat < zgP p c; omega)]) | (rw [if_neg (by show ¬ zgw p c p.toNat < zgP p c; omega)]))
  · skip
    refine wp_bipush dX9_condition_7 (by decide) ?_
    refine r_i dX9_condition_9 rfl meX9_condition ?_
    exact zPX_q Wn Xn (zif_y (by omega)) rfl
set_option maxRecDepth 100000 in
set_option maxHeartbeats 4000000 in
theorem t_X9_eliminantDegree {h : zH} {p : Int} {c : Nat → Nat → Int} {hs : List (Int × (Nat → Nat → Int))} {tx : Nat → Int} {L : Nat} (H : zWd p c hs tx L h) {b : Int} (zb : b = 0 ∨ b = 1) : CI yX9_eliminantDegree mX9_eliminantDegree [vR 1, vI b] h (fun r h' => zPX (sp_eliminantDegree (p, c, hs, tx, L) b) h r h') := by
  refine inV [some (vR 1), some (vI b)] mvX9_eliminantDegree rfl (Nat.le_of_ble_eq_true rfl) rfl ?_
  obtain ⟨hs1, hP, hH, hT, hC⟩ := id H
  have hp := hs1.p
  have hp0 : h 2 0 = p := hP.1
  have hpp : 0 < p := by omega
  refine w_aload0 dX9_eliminantDegree_0 ?_
  apply v_i0 (M := mX9_eliminantDegree) dX9_eliminantDegree_1 lk_RX9_159 mvX9_noMatrix (by decide) meX9_eliminantDegree is_1 (Nat.le_of_ble_eq_true rfl)
  · exact t_X9_noMatrix H
  intro x1 h1 hP1
  obtain ⟨Xn, Wn, r73, Dn, bn, iN⟩ := hP1
  obtain ⟨sn, Pn, Hn, Tn, cn1, cn2, cn3, cn4, cn5, cn6⟩ := id Wn
  refine wp_if_eq 10 dX9_eliminantDegree_4 rfl ⟨by omega, by omega⟩ (fun c4 => ?_) (fun c4 => ?_)
  · skip
    refine w_aload0 dX9_eliminantDegree_10 (w_iload1 dX9_eliminantDegree_11 ?_)
    apply v_r1 (M := mX9_eliminantDegree) dX9_eliminantDegree_12 lk_RX9_204 mvX9_form (by decide) meX9_eliminantDegree is_1 (Nat.le_of_ble_eq_true rfl)
    · exact t_X9_form Wn r73 Dn (by omega) zb
    intro x12 h12 hP12
    obtain ⟨Xf, Wf, f73, Df, rf, ff, ef, df⟩ := hP12
    have hz12 := z_is34 rf
    have Xf2 := zFX_t Xn Xf
    have ffb : ∀ e, e < 49 → 0 ≤ h12 x12 e ∧ h12 x12 e < p := fun e he => by rw [ff e he]; exact zform_in (by omega) e
    apply s_i1 (M := mX9_eliminantDegree) dX9_eliminantDegree_15 lk_RX9_208 mvX3_topOf (by decide) meX9_eliminantDegree (Nat.le_of_ble_eq_true rfl)
    · exact t_X3_topOf hz12 (by decide) (fun e he => (by have := ffb e he; exact ⟨by omega, by omega⟩))
    intro x15 h15 hP15
    obtain ⟨eh15, ex15⟩ := hP15
    replace eh15 := eh15.symm
    subst eh15
    replace ex15 := ex15.symm
    subst ex15
    refine r_i dX9_eliminantDegree_18 rfl meX9_eliminantDegree ?_
    exact zPX_q Wf Xf2 (zif_n (by omega)) (by rw [ztop_congr 49 ff])
  · skip
    refine wp_bipush dX9_eliminantDegree_7 (by decide) ?_
    refine r_i dX9_eliminantDegree_9 rfl meX9_eliminantDegree ?_
    exact zPX_q Wn Xn (zif_y (by omega)) rfl
set_option maxRecDepth 100000 in
set_option maxHeartbeats 4000000 in
theorem t_X9_eliminant {h : zH} {p : Int} {c : Nat → Nat → Int} {hs : List (Int × (Nat → Nat → Int))} {tx : Nat → Int} {L : Nat} (H : zWd p c hs tx L h) {b e : Int} (zb : b = 0 ∨ b = 1) (ze : zin e) : CI yX9_eliminant mX9_eliminant [vR 1, vI b, vI e] h (fun r h' => zPX (sp_eliminant (p, c, hs, tx, L) b e) h r h') := by
  refine inV [some (vR 1), some (vI b), some (vI e), none] mvX9_eliminant rfl (Nat.le_of_ble_eq_true rfl) rfl ?_
  obtain ⟨hs1, hP, hH, hT, hC⟩ := id H
  have hp := hs1.p
  have hp0 : h 2 0 = p := hP.1
  have hpp : 0 < p := by omega
  have ze1 := ze.1
  have ze2 := ze.2
  refine w_iload2 dX9_eliminant_0 (wp_bipush dX9_eliminant_1 (by decide) ?_)
  apply s_i2 (M := mX9_eliminant) dX9_eliminant_3 lk_RX9_84 mvX9_outside (by decide) meX9_eliminant (Nat.le_of_ble_eq_true rfl)
  · exact t_X9_outside ze ⟨by omega, by omega⟩
  intro x3 h3 hP3
  obtain ⟨eh3, hP3⟩ := hP3
  replace eh3 := eh3.symm
  subst eh3
  refine wp_if_eq 11 dX9_eliminant_6 rfl ⟨by omega, by omega⟩ (fun c6 => ?_) (fun c6 => ?_)
  · skip
    refine w_aload0 dX9_eliminant_11 ?_
    apply v_i0 (M := mX9_eliminant) dX9_eliminant_12 lk_RX9_159 mvX9_noMatrix (by decide) meX9_eliminant is_1 (Nat.le_of_ble_eq_true rfl)
    · exact t_X9_noMatrix H
    intro x12 h12 hP12
    obtain ⟨Xn, Wn, r73, Dn, bn, iN⟩ := hP12
    obtain ⟨sn, Pn, Hn, Tn, cn1, cn2, cn3, cn4, cn5, cn6⟩ := id Wn
    refine wp_if_eq 21 dX9_eliminant_15 rfl ⟨by omega, by omega⟩ (fun c15 => ?_) (fun c15 => ?_)
    · skip
      refine w_aload0 dX9_eliminant_21 (w_iload1 dX9_eliminant_22 ?_)
      apply v_r1 (M := mX9_eliminant) dX9_eliminant_23 lk_RX9_204 mvX9_form (by decide) meX9_eliminant is_1 (Nat.le_of_ble_eq_true rfl)
      · exact t_X9_form Wn r73 Dn (by omega) zb
      intro x23 h23 hP23
      obtain ⟨Xf, Wf, f73, Df, rf, ff, ef, df⟩ := hP23
      have hz23 := z_is34 rf
      have Xf2 := zFX_t Xn Xf
      have ffb : ∀ e, e < 49 → 0 ≤ h23 x23 e ∧ h23 x23 e < p := fun e he => by rw [ff e he]; exact zform_in (by omega) e
      refine w_astore3 dX9_eliminant_26 rfl (by decide) (w_iload2 dX9_eliminant_27 (w_aload3 dX9_eliminant_28 (wp_alen dX9_eliminant_29 hz23 (by decide) ?_)))
      refine wp_icmp_ge 39 dX9_eliminant_30 rfl ⟨by omega, by omega⟩ ⟨by omega, by omega⟩ (fun c30 => absurd c30 (by omega)) (fun c30 => ?_)
      refine w_aload3 dX9_eliminant_33 (w_iload2 dX9_eliminant_34 (x_iald e.toNat dX9_eliminant_35 hz23 (by omega) (by omega) (wp_goto 40 dX9_eliminant_36 rfl ?_)))
      refine r_i dX9_eliminant_40 rfl meX9_eliminant ?_
      exact zPX_q Wf Xf2 ((zif_y (by omega)).trans (zif_n (by omega))) (ff _ (by omega))
    · skip
      refine wp_bipush dX9_eliminant_18 (by decide) ?_
      refine r_i dX9_eliminant_20 rfl meX9_eliminant ?_
      exact zPX_q Wn Xn ((zif_y (by omega)).trans (zif_y (by omega))) rfl
  · skip
    refine wp_iconst dX9_eliminant_9 ?_
    refine r_i dX9_eliminant_10 rfl meX9_eliminant ?_
    exact zPX_q H zFX_r (zif_n (by omega)) rfl
set_option maxRecDepth 100000 in
set_option maxHeartbeats 4000000 in
theorem t_X9_eliminantAt {h : zH} {p : Int} {c : Nat → Nat → Int} {hs : List (Int × (Nat → Nat → Int))} {tx : Nat → Int} {L : Nat} (H : zWd p c hs tx L h) {b t : Int} (zb : b = 0 ∨ b = 1) (zt : zin t) : CI yX9_eliminantAt mX9_eliminantAt [vR 1, vI b, vI t] h (fun r h' => zPX (sp_eliminantAt (p, c, hs, tx, L) b t) h r h') := by
  refine inV [some (vR 1), some (vI b), some (vI t)] mvX9_eliminantAt rfl (Nat.le_of_ble_eq_true rfl) rfl ?_
  obtain ⟨hs1, hP, hH, hT, hC⟩ := id H
  have hp := hs1.p
  have hp0 : h 2 0 = p := hP.1
  have hpp : 0 < p := by omega
  have zt1 := zt.1
  have zt2 := zt.2
  refine w_iload2 dX9_eliminantAt_0 (w_aload0 dX9_eliminantAt_1 (wp_getr 2 dX9_eliminantAt_2 fl_RX9_20 is_1 rfl (wp_geti dX9_eliminantAt_5 fl_RX9_68 is_2 (wp_iconst dX9_eliminantAt_8 (wp_isub dX9_eliminantAt_9 ?_)))))
  rw [hp0]
  apply s_i2 (M := mX9_eliminantAt) dX9_eliminantAt_10 lk_RX9_84 mvX9_outside (by decide) meX9_eliminantAt (Nat.le_of_ble_eq_true rfl)
  · exact t_X9_outside zt ⟨by omega, by omega⟩
  intro x10 h10 hP10
  obtain ⟨eh10, hP10⟩ := hP10
  replace eh10 := eh10.symm
  subst eh10
  refine wp_if_eq 18 dX9_eliminantAt_13 rfl ⟨by omega, by omega⟩ (fun c13 => ?_) (fun c13 => ?_)
  · skip
    refine w_aload0 dX9_eliminantAt_18 ?_
    apply v_i0 (M := mX9_eliminantAt) dX9_eliminantAt_19 lk_RX9_159 mvX9_noMatrix (by decide) meX9_eliminantAt is_1 (Nat.le_of_ble_eq_true rfl)
    · exact t_X9_noMatrix H
    intro x19 h19 hP19
    obtain ⟨Xn, Wn, r73, Dn, bn, iN⟩ := hP19
    obtain ⟨sn, Pn, Hn, Tn, cn1, cn2, cn3, cn4, cn5, cn6⟩ := id Wn
    refine wp_if_eq 28 dX9_eliminantAt_22 rfl ⟨by omega, by omega⟩ (fun c22 => ?_) (fun c22 => ?_)
    · skip
      refine w_aload0 dX9_eliminantAt_28 (w_iload1 dX9_eliminantAt_29 ?_)
      apply v_r1 (M := mX9_eliminantAt) dX9_eliminantAt_30 lk_RX9_204 mvX9_form (by decide) meX9_eliminantAt is_1 (Nat.le_of_ble_eq_true rfl)
      · exact t_X9_form Wn r73 Dn (by omega) zb
      intro x30 h30 hP30
      obtain ⟨Xf, Wf, f73, Df, rf, ff, ef, df⟩ := hP30
      have hz30 := z_is34 rf
      have Xf2 := zFX_t Xn Xf
      have ffb : ∀ e, e < 49 → 0 ≤ h30 x30 e ∧ h30 x30 e < p := fun e he => by rw [ff e he]; exact zform_in (by omega) e
      refine w_iload2 dX9_eliminantAt_33 (w_aload0 dX9_eliminantAt_34 (wp_getr 2 dX9_eliminantAt_35 fl_RX9_20 is_1 rfl (wp_geti dX9_eliminantAt_38 fl_RX9_68 is_2 ?_)))
      rw [Wf.2.1.1]
      apply s_i3 (M := mX9_eliminantAt) dX9_eliminantAt_41 lk_RX9_173 mvX3_horner (by decide) meX9_eliminantAt (Nat.le_of_ble_eq_true rfl)
      · exact t_X3_horner hz30 (by omega) (by omega) ffb
      intro x41 h41 hP41
      obtain ⟨eh41, ex41⟩ := hP41
      replace eh41 := eh41.symm
      subst eh41
      replace ex41 := ex41.symm
      subst ex41
      refine r_i dX9_eliminantAt_44 rfl meX9_eliminantAt ?_
      exact zPX_q Wf Xf2 ((zif_y (by omega)).trans (zif_n (by omega))) (zhor_congr 49 _ _ ff)
    · skip
      refine wp_bipush dX9_eliminantAt_25 (by decide) ?_
      refine r_i dX9_eliminantAt_27 rfl meX9_eliminantAt ?_
      exact zPX_q Wn Xn ((zif_y (by omega)).trans (zif_y (by omega))) rfl
  · skip
    refine wp_iconst dX9_eliminantAt_16 ?_
    refine r_i dX9_eliminantAt_17 rfl meX9_eliminantAt ?_
    exact zPX_q H zFX_r (zif_n (by omega)) rfl
set_option maxRecDepth 100000 in
set_option maxHeartbeats 4000000 in
theorem t_X9_multiplicity {h : zH} {p : Int} {c : Nat → Nat → Int} {hs : List (Int × (Nat → Nat → Int))} {tx : Nat → Int} {L : Nat} (H : zWd p c hs tx L h) {t : Int} (zt : zin t) : CI yX9_multiplicity mX9_multiplicity [vR 1, vI t] h (fun r h' => zPX (sp_multiplicity (p, c, hs, tx, L) t) h r h') := by
  refine inV [some (vR 1), some (vI t)] mvX9_multiplicity rfl (Nat.le_of_ble_eq_true rfl) rfl ?_
  obtain ⟨hs1, hP, hH, hT, hC⟩ := id H
  have hp := hs1.p
  have hp0 : h 2 0 = p := hP.1
  have hpp : 0 < p := by omega
  have zt1 := zt.1
  have zt2 := zt.2
  refine w_iload1 dX9_multiplicity_0 (w_aload0 dX9_multiplicity_1 (wp_getr 2 dX9_multiplicity_2 fl_RX9_20 is_1 rfl (wp_geti dX9_multiplicity_5 fl_RX9_68 is_2 (wp_iconst dX9_multiplicity_8 (wp_isub dX9_multiplicity_9 ?_)))))
  rw [hp0]
  apply s_i2 (M := mX9_multiplicity) dX9_multiplicity_10 lk_RX9_84 mvX9_outside (by decide) meX9_multiplicity (Nat.le_of_ble_eq_true rfl)
  · exact t_X9_outside zt ⟨by omega, by omega⟩
  intro x10 h10 hP10
  obtain ⟨eh10, hP10⟩ := hP10
  replace eh10 := eh10.symm
  subst eh10
  refine wp_if_eq 18 dX9_multiplicity_13 rfl ⟨by omega, by omega⟩ (fun c13 => ?_) (fun c13 => ?_)
  · skip
    refine w_aload0 dX9_multiplicity_18 ?_
    apply v_i0 (M := mX9_multiplicity) dX9_multiplicity_19 lk_RX9_159 mvX9_noMatrix (by decide) meX9_multiplicity is_1 (Nat.le_of_ble_eq_true rfl)
    · exact t_X9_noMatrix H
    intro x19 h19 hP19
    obtain ⟨Xn, Wn, r73, Dn, bn, iN⟩ := hP19
    obtain ⟨sn, Pn, Hn, Tn, cn1, cn2, cn3, cn4, cn5, cn6⟩ := id Wn
    refine wp_if_eq 28 dX9_multiplicity_22 rfl ⟨by omega, by omega⟩ (fun c22 => ?_) (fun c22 => ?_)
    · skip
      refine w_aload0 dX9_multiplicity_28 (wp_iconst dX9_multiplicity_29 ?_)
      apply v_r1 (M := mX9_multiplicity) dX9_multiplicity_30 lk_RX9_204 mvX9_form (by decide) meX9_multiplicity is_1 (Nat.le_of_ble_eq_true rfl)
      · exact t_X9_form Wn r73 Dn (by omega) (Or.inl rfl)
      intro x30 h30 hP30
      obtain ⟨Xf, Wf, f73, Df, rf, ff, ef, df⟩ := hP30
      have hz30 := z_is34 rf
      have Xf2 := zFX_t Xn Xf
      have ffb : ∀ e, e < 49 → 0 ≤ h30 x30 e ∧ h30 x30 e < p := fun e he => by rw [ff e he]; exact zform_in (by omega) e
      refine wp_pop dX9_multiplicity_33 rfl (w_aload0 dX9_multiplicity_34 (wp_getr 182 dX9_multiplicity_35 fl_RX9_60 is_1 rfl (w_iload1 dX9_multiplicity_38 ?_)))
      apply v_i1 (M := mX9_multiplicity) dX9_multiplicity_39 lk_RX9_212 mvX1_multiplicityOf (by decide) meX9_multiplicity is_182 (Nat.le_of_ble_eq_true rfl)
      · exact t_X1_multiplicityOf (by omega) (by omega) Wf.2.1.1 (fun j hj => (by rw [ef j hj]; exact zWp_in (by omega) j))
      intro x39 h39 hP39
      obtain ⟨f39, r39⟩ := hP39
      obtain ⟨Wm, Xm⟩ := zWd_mu Wf f39
      refine r_i dX9_multiplicity_42 rfl meX9_multiplicity ?_
      exact zPX_q Wm (zFX_t Xf2 Xm) ((zif_y (by omega)).trans (zif_n (by omega))) (by rw [r39, (zstr_congr 49 _ _ ef).1])
    · skip
      refine wp_bipush dX9_multiplicity_25 (by decide) ?_
      refine r_i dX9_multiplicity_27 rfl meX9_multiplicity ?_
      exact zPX_q Wn Xn ((zif_y (by omega)).trans (zif_y (by omega))) rfl
  · skip
    refine wp_iconst dX9_multiplicity_16 ?_
    refine r_i dX9_multiplicity_17 rfl meX9_multiplicity ?_
    exact zPX_q H zFX_r (zif_n (by omega)) rfl
set_option maxRecDepth 100000 in
set_option maxHeartbeats 4000000 in
theorem t_X9_extraneous {h : zH} {p : Int} {c : Nat → Nat → Int} {hs : List (Int × (Nat → Nat → Int))} {tx : Nat → Int} {L : Nat} (H : zWd p c hs tx L h) : CI yX9_extraneous mX9_extraneous [vR 1] h (fun r h' => zPX (sp_extraneous (p, c, hs, tx, L)) h r h') := by
  refine inV [some (vR 1)] mvX9_extraneous rfl (Nat.le_of_ble_eq_true rfl) rfl ?_
  obtain ⟨hs1, hP, hH, hT, hC⟩ := id H
  have hp := hs1.p
  have hp0 : h 2 0 = p := hP.1
  have hpp : 0 < p := by omega
  refine w_aload0 dX9_extraneous_0 ?_
  apply v_i0 (M := mX9_extraneous) dX9_extraneous_1 lk_RX9_159 mvX9_noMatrix (by decide) meX9_extraneous is_1 (Nat.le_of_ble_eq_true rfl)
  · exact t_X9_noMatrix H
  intro x1 h1 hP1
  obtain ⟨Xn, Wn, r73, Dn, bn, iN⟩ := hP1
  obtain ⟨sn, Pn, Hn, Tn, cn1, cn2, cn3, cn4, cn5, cn6⟩ := id Wn
  refine wp_if_eq 10 dX9_extraneous_4 rfl ⟨by omega, by omega⟩ (fun c4 => ?_) (fun c4 => ?_)
  · skip
    refine w_aload0 dX9_extraneous_10 (wp_iconst dX9_extraneous_11 ?_)
    apply v_r1 (M := mX9_extraneous) dX9_extraneous_12 lk_RX9_204 mvX9_form (by decide) meX9_extraneous is_1 (Nat.le_of_ble_eq_true rfl)
    · exact t_X9_form Wn r73 Dn (by omega) (Or.inr rfl)
    intro x12 h12 hP12
    obtain ⟨Xf, Wf, f73, Df, rf, ff, ef, df⟩ := hP12
    have hz12 := z_is34 rf
    have Xf2 := zFX_t Xn Xf
    have ffb : ∀ e, e < 49 → 0 ≤ h12 x12 e ∧ h12 x12 e < p := fun e he => by rw [ff e he]; exact zform_in (by omega) e
    refine wp_pop dX9_extraneous_15 rfl (w_aload0 dX9_extraneous_16 (wp_getr 182 dX9_extraneous_17 fl_RX9_60 is_1 rfl (wp_geti dX9_extraneous_20 fl_RX9_215 is_182 ?_)))
    refine r_i dX9_extraneous_23 rfl meX9_extraneous ?_
    exact zPX_q Wf Xf2 (zif_n (by omega)) (df rfl).1
  · skip
    refine wp_bipush dX9_extraneous_7 (by decide) ?_
    refine r_i dX9_extraneous_9 rfl meX9_extraneous ?_
    exact zPX_q Wn Xn (zif_y (by omega)) rfl
set_option maxRecDepth 100000 in
set_option maxHeartbeats 4000000 in
theorem t_X9_commonRoots {h : zH} {p : Int} {c : Nat → Nat → Int} {hs : List (Int × (Nat → Nat → Int))} {tx : Nat → Int} {L : Nat} (H : zWd p c hs tx L h) {t : Int} (zt : zin t) : CI yX9_commonRoots mX9_commonRoots [vR 1, vI t] h (fun r h' => zPX (sp_commonRoots (p, c, hs, tx, L) t) h r h') := by
  refine inV [some (vR 1), some (vI t)] mvX9_commonRoots rfl (Nat.le_of_ble_eq_true rfl) rfl ?_
  obtain ⟨hs1, hP, hH, hT, hC⟩ := id H
  have hp := hs1.p
  have hp0 : h 2 0 = p := hP.1
  have hpp : 0 < p := by omega
  have zt1 := zt.1
  have zt2 := zt.2
  refine w_iload1 dX9_commonRoots_0 (w_aload0 dX9_commonRoots_1 (wp_getr 2 dX9_commonRoots_2 fl_RX9_20 is_1 rfl (wp_geti dX9_commonRoots_5 fl_RX9_68 is_2 (wp_iconst dX9_commonRoots_8 (wp_isub dX9_commonRoots_9 ?_)))))
  rw [hp0]
  apply s_i2 (M := mX9_commonRoots) dX9_commonRoots_10 lk_RX9_84 mvX9_outside (by decide) meX9_commonRoots (Nat.le_of_ble_eq_true rfl)
  · exact t_X9_outside zt ⟨by omega, by omega⟩
  intro x10 h10 hP10
  obtain ⟨eh10, hP10⟩ := hP10
  replace eh10 := eh10.symm
  subst eh10
  refine wp_if_eq 18 dX9_commonRoots_13 rfl ⟨by omega, by omega⟩ (fun c13 => ?_) (fun c13 => ?_)
  · skip
    refine w_aload0 dX9_commonRoots_18 (wp_getr 141 dX9_commonRoots_19 fl_RX9_43 is_1 rfl (w_iload1 dX9_commonRoots_22 ?_))
    apply v_v1 (M := mX9_commonRoots) dX9_commonRoots_23 lk_RX9_218 mvX6_search (by decide) meX9_commonRoots is_141 (Nat.le_of_ble_eq_true rfl)
    · exact t_X6_search (t := t.toNat) (by omega) hs1 (by omega) hP hC.1
    intro h23 hP23
    obtain ⟨fo, ao, bo⟩ := hP23
    obtain ⟨Wo, Xo⟩ := zWd_ro H fo ao
    refine w_aload0 dX9_commonRoots_26 (wp_getr 141 dX9_commonRoots_27 fl_RX9_43 is_1 rfl (w_iload1 dX9_commonRoots_30 ?_))
    apply v_i1 (M := mX9_commonRoots) dX9_commonRoots_31 lk_RX9_221 mvX6_countAt (by decide) meX9_commonRoots is_141 (Nat.le_of_ble_eq_true rfl)
    · exact t_X6_countAt (t := t.toNat) (by omega) hp (by omega) bo
    intro x31 h31 hP31
    obtain ⟨eh31, ex31⟩ := hP31
    replace eh31 := eh31.symm
    subst eh31
    replace ex31 := ex31.symm
    subst ex31
    refine r_i dX9_commonRoots_34 rfl meX9_commonRoots ?_
    exact zPX_q Wo Xo (zif_y (by omega)) (by rw [show ((t.toNat : Nat) : Int) = t by omega])
  · skip
    refine wp_iconst dX9_commonRoots_16 ?_
    refine r_i dX9_commonRoots_17 rfl meX9_commonRoots ?_
    exact zPX_q H zFX_r (zif_n (by omega)) rfl
set_option maxRecDepth 100000 in
set_option maxHeartbeats 4000000 in
theorem t_X9_commonRoot {h : zH} {p : Int} {c : Nat → Nat → Int} {hs : List (Int × (Nat → Nat → Int))} {tx : Nat → Int} {L : Nat} (H : zWd p c hs tx L h) {t i : Int} (zt : zin t) (zi : zin i) : CI yX9_commonRoot mX9_commonRoot [vR 1, vI t, vI i] h (fun r h' => zPX (sp_commonRoot (p, c, hs, tx, L) t i) h r h') := by
  refine inV [some (vR 1), some (vI t), some (vI i)] mvX9_commonRoot rfl (Nat.le_of_ble_eq_true rfl) rfl ?_
  obtain ⟨hs1, hP, hH, hT, hC⟩ := id H
  have hp := hs1.p
  have hp0 : h 2 0 = p := hP.1
  have hpp : 0 < p := by omega
  have zt1 := zt.1
  have zt2 := zt.2
  have zi1 := zi.1
  have zi2 := zi.2
  refine w_iload1 dX9_commonRoot_0 (w_aload0 dX9_commonRoot_1 (wp_getr 2 dX9_commonRoot_2 fl_RX9_20 is_1 rfl (wp_geti dX9_commonRoot_5 fl_RX9_68 is_2 (wp_iconst dX9_commonRoot_8 (wp_isub dX9_commonRoot_9 ?_)))))
  rw [hp0]
  apply s_i2 (M := mX9_commonRoot) dX9_commonRoot_10 lk_RX9_84 mvX9_outside (by decide) meX9_commonRoot (Nat.le_of_ble_eq_true rfl)
  · exact t_X9_outside zt ⟨by omega, by omega⟩
  intro x10 h10 hP10
  obtain ⟨eh10, hP10⟩ := hP10
  replace eh10 := eh10.symm
  subst eh10
  refine wp_if_ne 20 dX9_commonRoot_13 rfl ⟨by omega, by omega⟩ (fun c13 => ?_) (fun c13 => ?_)
  · skip
    refine wp_iconst dX9_commonRoot_20 ?_
    refine r_i dX9_commonRoot_21 rfl meX9_commonRoot ?_
    exact zPX_q H zFX_r (zif_n (by omega)) rfl
  · skip
    refine w_iload2 dX9_commonRoot_16 ?_
    refine wp_if_ge 22 dX9_commonRoot_17 rfl ⟨by omega, by omega⟩ (fun c17 => ?_) (fun c17 => ?_)
    · skip
      refine w_aload0 dX9_commonRoot_22 (wp_getr 141 dX9_commonRoot_23 fl_RX9_43 is_1 rfl (w_iload1 dX9_commonRoot_26 ?_))
      apply v_v1 (M := mX9_commonRoot) dX9_commonRoot_27 lk_RX9_218 mvX6_search (by decide) meX9_commonRoot is_141 (Nat.le_of_ble_eq_true rfl)
      · exact t_X6_search (t := t.toNat) (by omega) hs1 (by omega) hP hC.1
      intro h27 hP27
      obtain ⟨fo, ao, bo⟩ := hP27
      obtain ⟨Wo, Xo⟩ := zWd_ro H fo ao
      refine w_aload0 dX9_commonRoot_30 (wp_getr 141 dX9_commonRoot_31 fl_RX9_43 is_1 rfl (w_iload1 dX9_commonRoot_34 (w_iload2 dX9_commonRoot_35 ?_)))
      apply v_i2 (M := mX9_commonRoot) dX9_commonRoot_36 lk_RX9_224 mvX6_rootAt (by decide) meX9_commonRoot is_141 (Nat.le_of_ble_eq_true rfl)
      · exact t_X6_rootAt (t := t.toNat) (idx := i.toNat) (by omega) (by omega) (by omega) hp (by omega) bo
      intro x36 h36 hP36
      obtain ⟨eh36, hP36⟩ := hP36
      replace eh36 := eh36.symm
      subst eh36
      refine r_i dX9_commonRoot_39 rfl meX9_commonRoot ?_
      exact zPX_q Wo Xo (zif_y (by omega)) (by rw [show ((t.toNat : Nat) : Int) = t by omega] at hP36; exact zrtF_eq hP36)
    · skip
      refine wp_iconst dX9_commonRoot_20 ?_
      refine r_i dX9_commonRoot_21 rfl meX9_commonRoot ?_
      exact zPX_q H zFX_r (zif_n (by omega)) rfl
set_option maxRecDepth 100000 in
set_option maxHeartbeats 4000000 in
theorem t_X9_solvable {h : zH} {p : Int} {c : Nat → Nat → Int} {hs : List (Int × (Nat → Nat → Int))} {tx : Nat → Int} {L : Nat} (H : zWd p c hs tx L h) : CI yX9_solvable mX9_solvable [vR 1] h (fun r h' => zPX (sp_solvable (p, c, hs, tx, L)) h r h') := by
  refine inV [some (vR 1), none, none] mvX9_solvable rfl (Nat.le_of_ble_eq_true rfl) rfl ?_
  obtain ⟨hs1, hP, hH, hT, hC⟩ := id H
  have hp := hs1.p
  have hp0 : h 2 0 = p := hP.1
  have hpp : 0 < p := by omega
  have L4 : ∀ (zm4 : Nat) (i : Nat) (h' : zH) (vs vi : Int), p.toNat - i = zm4 → ((i : Int) ≤ p) → (vi = (i : Int)) → (vs = (zmk (fun t => 0 < zcn p c (t : Int)) i : Int)) → (zWd p c hs tx L h') → (zFX h h') → WP mX9_solvable (zMQ mX9_solvable (zKI (fun r h' => zPX (sp_solvable (p, c, hs, tx, L)) h r h'))) 4 [some (vR 1), some (vI vs), some (vI vi)] [] zN zGR h' := by
    intro zm4
    induction zm4 using Nat.strongRecOn with | _ zm4 ih4 => ?_
    intro i h' vs vi hzm4 hi hvi hvs hW hX
    subst hzm4
    have hmb := zmk_b8 (P := fun t => 0 < zcn p c (t : Int)) (i := i) (by omega)
    obtain ⟨s', P', H', T', C'⟩ := id hW
    have hq0 : h' 2 0 = p := P'.1
    refine w_iload2 dX9_solvable_4 (w_aload0 dX9_solvable_5 (wp_getr 2 dX9_solvable_6 fl_RX9_20 is_1 rfl (wp_geti dX9_solvable_9 fl_RX9_68 is_2 ?_)))
    rw [hq0]
    refine wp_icmp_ge 46 dX9_solvable_12 rfl ⟨by omega, by omega⟩ ⟨by omega, by omega⟩ (fun c12 => ?_) (fun c12 => ?_)
    · skip
      refine w_iload1 dX9_solvable_46 ?_
      refine r_i dX9_solvable_47 rfl meX9_solvable ?_
      rw [show i = p.toNat by omega] at hvs
      exact zPX_q hW hX rfl hvs
    · skip
      refine w_aload0 dX9_solvable_15 (wp_getr 141 dX9_solvable_16 fl_RX9_43 is_1 rfl (w_iload2 dX9_solvable_19 ?_))
      apply v_v1 (M := mX9_solvable) dX9_solvable_20 lk_RX9_218 mvX6_search (by decide) meX9_solvable is_141 (Nat.le_of_ble_eq_true rfl)
      · exact t_X6_search hvi s' (by omega) P' C'.1
      intro h20 hP20
      obtain ⟨fo, ao, bo⟩ := hP20
      obtain ⟨Wo, Xo⟩ := zWd_ro hW fo ao
      refine w_aload0 dX9_solvable_23 (wp_getr 141 dX9_solvable_24 fl_RX9_43 is_1 rfl (w_iload2 dX9_solvable_27 ?_))
      apply v_i1 (M := mX9_solvable) dX9_solvable_28 lk_RX9_221 mvX6_countAt (by decide) meX9_solvable is_141 (Nat.le_of_ble_eq_true rfl)
      · exact t_X6_countAt hvi hp (by omega) bo
      intro x28 h28 hP28
      obtain ⟨eh28, ex28⟩ := hP28
      replace eh28 := eh28.symm
      subst eh28
      replace ex28 := ex28.symm
      subst ex28
      refine wp_if_le 40 dX9_solvable_31 rfl (by have := zcn_le hp.2 (c := c) (t := (i : Int)); exact ⟨by omega, by omega⟩) (fun c31 => ?_) (fun c31 => ?_)
      · skip
        refine w_iinc2 dX9_solvable_40 rfl (by decide) (wp_goto 4 dX9_solvable_43 rfl ?_)
        first
        | (have c9 : ¬ 0 < zcn p c (i : Int) := by omega
           refine ih4 _ (by omega) (i + 1) _ _ _ rfl (by omega) (by omega) ?_ Wo (zFX_t hX Xo)
           rw [hvs, zmk_n (P := fun t => 0 < zcn p c (t : Int)) c9])
        | (have c9 : 0 < zcn p c (i : Int) := by omega
           refine ih4 _ (by omega) (i + 1) _ _ _ rfl (by omega) (by omega) ?_ Wo (zFX_t hX Xo)
           rw [hvs, hvi, z_or1, zmk_or, zmk_y (P := fun t => 0 < zcn p c (t : Int)) c9])
      · skip
        refine w_iload1 dX9_solvable_34 (wp_iconst dX9_solvable_35 (w_iload2 dX9_solvable_36 (wp_ishl dX9_solvable_37 (by omega) (wp_ior dX9_solvable_38 ⟨by omega, by omega⟩ (by rw [hvi]; exact z_1s i (by omega)) (w_istore1 dX9_solvable_39 rfl (by decide) (w_iinc2 dX9_solvable_40 rfl (by decide) (wp_goto 4 dX9_solvable_43 rfl ?_)))))))
        first
        | (have c9 : ¬ 0 < zcn p c (i : Int) := by omega
           refine ih4 _ (by omega) (i + 1) _ _ _ rfl (by omega) (by omega) ?_ Wo (zFX_t hX Xo)
           rw [hvs, zmk_n (P := fun t => 0 < zcn p c (t : Int)) c9])
        | (have c9 : 0 < zcn p c (i : Int) := by omega
           refine ih4 _ (by omega) (i + 1) _ _ _ rfl (by omega) (by omega) ?_ Wo (zFX_t hX Xo)
           rw [hvs, hvi, z_or1, zmk_or, zmk_y (P := fun t => 0 < zcn p c (t : Int)) c9])
  refine wp_iconst dX9_solvable_0 (w_istore1 dX9_solvable_1 rfl (by decide) (wp_iconst dX9_solvable_2 (w_istore2 dX9_solvable_3 rfl (by decide) ?_)))
  exact L4 _ 0 _ _ _ rfl (by omega) rfl rfl H zFX_r
set_option maxRecDepth 100000 in
set_option maxHeartbeats 4000000 in
theorem t_X9_countPairs {h : zH} {p : Int} {c : Nat → Nat → Int} {hs : List (Int × (Nat → Nat → Int))} {tx : Nat → Int} {L : Nat} (H : zWd p c hs tx L h) : CI yX9_countPairs mX9_countPairs [vR 1] h (fun r h' => zPX (sp_pairs (p, c, hs, tx, L)) h r h') := by
  refine inV [some (vR 1), none, none] mvX9_countPairs rfl (Nat.le_of_ble_eq_true rfl) rfl ?_
  obtain ⟨hs1, hP, hH, hT, hC⟩ := id H
  have hp := hs1.p
  have hp0 : h 2 0 = p := hP.1
  have hpp : 0 < p := by omega
  have L4 : ∀ (zm4 : Nat) (i : Nat) (h' : zH) (vs vi : Int), p.toNat - i = zm4 → ((i : Int) ≤ p) → (vi = (i : Int)) → (vs = (zsumN (fun t => zcn p c (t : Int)) i : Int)) → (zWd p c hs tx L h') → (zFX h h') → WP mX9_countPairs (zMQ mX9_countPairs (zKI (fun r h' => zPX (sp_pairs (p, c, hs, tx, L)) h r h'))) 4 [some (vR 1), some (vI vs), some (vI vi)] [] zN zGR h' := by
    intro zm4
    induction zm4 using Nat.strongRecOn with | _ zm4 ih4 => ?_
    intro i h' vs vi hzm4 hi hvi hvs hW hX
    subst hzm4
    obtain ⟨s', P', H', T', C'⟩ := id hW
    have hq0 : h' 2 0 = p := P'.1
    refine w_iload2 dX9_countPairs_4 (w_aload0 dX9_countPairs_5 (wp_getr 2 dX9_countPairs_6 fl_RX9_20 is_1 rfl (wp_geti dX9_countPairs_9 fl_RX9_68 is_2 ?_)))
    rw [hq0]
    refine wp_icmp_ge 40 dX9_countPairs_12 rfl ⟨by omega, by omega⟩ ⟨by omega, by omega⟩ (fun c12 => ?_) (fun c12 => ?_)
    · skip
      refine w_iload1 dX9_countPairs_40 ?_
      refine r_i dX9_countPairs_41 rfl meX9_countPairs ?_
      rw [show i = p.toNat by omega] at hvs
      exact zPX_q hW hX rfl hvs
    · skip
      refine w_aload0 dX9_countPairs_15 (wp_getr 141 dX9_countPairs_16 fl_RX9_43 is_1 rfl (w_iload2 dX9_countPairs_19 ?_))
      apply v_v1 (M := mX9_countPairs) dX9_countPairs_20 lk_RX9_218 mvX6_search (by decide) meX9_countPairs is_141 (Nat.le_of_ble_eq_true rfl)
      · exact t_X6_search hvi s' (by omega) P' C'.1
      intro h20 hP20
      obtain ⟨fo, ao, bo⟩ := hP20
      obtain ⟨Wo, Xo⟩ := zWd_ro hW fo ao
      refine w_iload1 dX9_countPairs_23 (w_aload0 dX9_countPairs_24 (wp_getr 141 dX9_countPairs_25 fl_RX9_43 is_1 rfl (w_iload2 dX9_countPairs_28 ?_)))
      apply v_i1 (M := mX9_countPairs) dX9_countPairs_29 lk_RX9_221 mvX6_countAt (by decide) meX9_countPairs is_141 (Nat.le_of_ble_eq_true rfl)
      · exact t_X6_countAt hvi hp (by omega) bo
      intro x29 h29 hP29
      obtain ⟨eh29, ex29⟩ := hP29
      replace eh29 := eh29.symm
      subst eh29
      replace ex29 := ex29.symm
      subst ex29
      refine wp_iadd dX9_countPairs_32 (w_istore1 dX9_countPairs_33 rfl (by decide) (w_iinc2 dX9_countPairs_34 rfl (by decide) (wp_goto 4 dX9_countPairs_37 rfl ?_)))
      refine ih4 _ (by omega) (i + 1) _ _ _ rfl (by omega) (by omega) ?_ Wo (zFX_t hX Xo)
      show _ = ((zsumN (fun t => zcn p c (t : Int)) i + zcn p c (i : Int) : Nat) : Int)
      omega
  refine wp_iconst dX9_countPairs_0 (w_istore1 dX9_countPairs_1 rfl (by decide) (wp_iconst dX9_countPairs_2 (w_istore2 dX9_countPairs_3 rfl (by decide) ?_)))
  exact L4 _ 0 _ _ _ rfl (by omega) rfl rfl H zFX_r
set_option maxRecDepth 100000 in
set_option maxHeartbeats 4000000 in
theorem t_X9_kernel {h : zH} {p : Int} {c : Nat → Nat → Int} {hs : List (Int × (Nat → Nat → Int))} {tx : Nat → Int} {L : Nat} (H : zWd p c hs tx L h) {t : Int} (zt : zin t) : CI yX9_kernel mX9_kernel [vR 1, vI t] h (fun r h' => zPX (sp_kernel (p, c, hs, tx, L) t) h r h') := by
  refine inV [some (vR 1), some (vI t)] mvX9_kernel rfl (Nat.le_of_ble_eq_true rfl) rfl ?_
  obtain ⟨hs1, hP, hH, hT, hC⟩ := id H
  have hp := hs1.p
  have hp0 : h 2 0 = p := hP.1
  have hpp : 0 < p := by omega
  have zt1 := zt.1
  have zt2 := zt.2
  refine w_iload1 dX9_kernel_0 (w_aload0 dX9_kernel_1 (wp_getr 2 dX9_kernel_2 fl_RX9_20 is_1 rfl (wp_geti dX9_kernel_5 fl_RX9_68 is_2 (wp_iconst dX9_kernel_8 (wp_isub dX9_kernel_9 ?_)))))
  rw [hp0]
  apply s_i2 (M := mX9_kernel) dX9_kernel_10 lk_RX9_84 mvX9_outside (by decide) meX9_kernel (Nat.le_of_ble_eq_true rfl)
  · exact t_X9_outside zt ⟨by omega, by omega⟩
  intro x10 h10 hP10
  obtain ⟨eh10, hP10⟩ := hP10
  replace eh10 := eh10.symm
  subst eh10
  refine wp_if_eq 18 dX9_kernel_13 rfl ⟨by omega, by omega⟩ (fun c13 => ?_) (fun c13 => ?_)
  · skip
    refine w_aload0 dX9_kernel_18 ?_
    apply v_i0 (M := mX9_kernel) dX9_kernel_19 lk_RX9_159 mvX9_noMatrix (by decide) meX9_kernel is_1 (Nat.le_of_ble_eq_true rfl)
    · exact t_X9_noMatrix H
    intro x19 h19 hP19
    obtain ⟨Xn, Wn, r73, Dn, bn, iN⟩ := hP19
    obtain ⟨sn, Pn, Hn, Tn, cn1, cn2, cn3, cn4, cn5, cn6⟩ := id Wn
    refine wp_if_eq 28 dX9_kernel_22 rfl ⟨by omega, by omega⟩ (fun c22 => ?_) (fun c22 => ?_)
    · skip
      refine w_aload0 dX9_kernel_28 (wp_getr 78 dX9_kernel_29 fl_RX9_51 is_1 rfl (w_iload1 dX9_kernel_32 ?_))
      apply v_v1 (M := mX9_kernel) dX9_kernel_33 lk_RX9_177 mvX5_examine (by decide) meX9_kernel is_78 (Nat.le_of_ble_eq_true rfl)
      · exact t_X5_examine (t := t.toNat) (by omega) hs1 (by omega) Pn Dn (zsd_2 (by omega)) cn3
      intro h33 hP33
      obtain ⟨fx, ax, bx⟩ := hP33
      obtain ⟨Wx, Xx⟩ := zWd_ex Wn fx ax
      have Xx2 := zFX_t Xn Xx
      obtain ⟨k1, k2, k3, k4⟩ := id bx
      refine w_aload0 dX9_kernel_36 (wp_getr 7 dX9_kernel_37 fl_RX9_47 is_1 rfl (wp_geti dX9_kernel_40 fl_RX9_163 is_7 ?_))
      rw [show h33 7 2 = (zsd c : Int) by rw [fx _ _ (by unfold zFRk; omega)]; exact Dn.2.2.1]
      refine w_aload0 dX9_kernel_43 (wp_getr 78 dX9_kernel_44 fl_RX9_51 is_1 rfl (w_iload1 dX9_kernel_47 ?_))
      apply v_i1 (M := mX9_kernel) dX9_kernel_48 lk_RX9_180 mvX5_rankOf (by decide) meX9_kernel is_78 (Nat.le_of_ble_eq_true rfl)
      · exact t_X5_rankOf (t := t.toNat) (by omega) (by omega)
      intro x48 h48 hP48
      obtain ⟨eh48, ex48⟩ := hP48
      replace eh48 := eh48.symm
      subst eh48
      replace ex48 := ex48.symm
      subst ex48
      refine wp_isub dX9_kernel_51 ?_
      refine r_i dX9_kernel_52 rfl meX9_kernel ?_
      exact zPX_q Wx Xx2 ((zif_y (by omega)).trans (zif_n (by omega))) (by rw [k1])
    · skip
      refine wp_bipush dX9_kernel_25 (by decide) ?_
      refine r_i dX9_kernel_27 rfl meX9_kernel ?_
      exact zPX_q Wn Xn ((zif_y (by omega)).trans (zif_y (by omega))) rfl
  · skip
    refine wp_iconst dX9_kernel_16 ?_
    refine r_i dX9_kernel_17 rfl meX9_kernel ?_
    exact zPX_q H zFX_r (zif_n (by omega)) rfl
set_option maxRecDepth 100000 in
set_option maxHeartbeats 4000000 in
theorem t_X9_recovered {h : zH} {p : Int} {c : Nat → Nat → Int} {hs : List (Int × (Nat → Nat → Int))} {tx : Nat → Int} {L : Nat} (H : zWd p c hs tx L h) {t b : Int} (zt : zin t) (zb : b = 0 ∨ b = 1) : CI yX9_recovered mX9_recovered [vR 1, vI t, vI b] h (fun r h' => zPX (sp_recovered (p, c, hs, tx, L) t b) h r h') := by
  refine inV [some (vR 1), some (vI t), some (vI b)] mvX9_recovered rfl (Nat.le_of_ble_eq_true rfl) rfl ?_
  obtain ⟨hs1, hP, hH, hT, hC⟩ := id H
  have hp := hs1.p
  have hp0 : h 2 0 = p := hP.1
  have hpp : 0 < p := by omega
  have zt1 := zt.1
  have zt2 := zt.2
  refine w_iload1 dX9_recovered_0 (w_aload0 dX9_recovered_1 (wp_getr 2 dX9_recovered_2 fl_RX9_20 is_1 rfl (wp_geti dX9_recovered_5 fl_RX9_68 is_2 (wp_iconst dX9_recovered_8 (wp_isub dX9_recovered_9 ?_)))))
  rw [hp0]
  apply s_i2 (M := mX9_recovered) dX9_recovered_10 lk_RX9_84 mvX9_outside (by decide) meX9_recovered (Nat.le_of_ble_eq_true rfl)
  · exact t_X9_outside zt ⟨by omega, by omega⟩
  intro x10 h10 hP10
  obtain ⟨eh10, hP10⟩ := hP10
  replace eh10 := eh10.symm
  subst eh10
  refine wp_if_eq 18 dX9_recovered_13 rfl ⟨by omega, by omega⟩ (fun c13 => ?_) (fun c13 => ?_)
  · skip
    refine w_aload0 dX9_recovered_18 ?_
    apply v_i0 (M := mX9_recovered) dX9_recovered_19 lk_RX9_159 mvX9_noMatrix (by decide) meX9_recovered is_1 (Nat.le_of_ble_eq_true rfl)
    · exact t_X9_noMatrix H
    intro x19 h19 hP19
    obtain ⟨Xn, Wn, r73, Dn, bn, iN⟩ := hP19
    obtain ⟨sn, Pn, Hn, Tn, cn1, cn2, cn3, cn4, cn5, cn6⟩ := id Wn
    refine wp_if_eq 28 dX9_recovered_22 rfl ⟨by omega, by omega⟩ (fun c22 => ?_) (fun c22 => ?_)
    · skip
      refine w_aload0 dX9_recovered_28 (wp_getr 78 dX9_recovered_29 fl_RX9_51 is_1 rfl (w_iload1 dX9_recovered_32 ?_))
      apply v_v1 (M := mX9_recovered) dX9_recovered_33 lk_RX9_177 mvX5_examine (by decide) meX9_recovered is_78 (Nat.le_of_ble_eq_true rfl)
      · exact t_X5_examine (t := t.toNat) (by omega) hs1 (by omega) Pn Dn (zsd_2 (by omega)) cn3
      intro h33 hP33
      obtain ⟨fx, ax, bx⟩ := hP33
      obtain ⟨Wx, Xx⟩ := zWd_ex Wn fx ax
      have Xx2 := zFX_t Xn Xx
      obtain ⟨k1, k2, k3, k4⟩ := id bx
      refine w_aload0 dX9_recovered_36 (wp_getr 78 dX9_recovered_37 fl_RX9_51 is_1 rfl (w_iload1 dX9_recovered_40 (w_iload2 dX9_recovered_41 ?_)))
      apply v_i2 (M := mX9_recovered) dX9_recovered_42 lk_RX9_227 mvX5_coordinate (by decide) meX9_recovered is_78 (Nat.le_of_ble_eq_true rfl)
      · exact t_X5_coordinate (t := t.toNat) (by omega) (by omega) zb
      intro x42 h42 hP42
      obtain ⟨eh42, ex42⟩ := hP42
      replace eh42 := eh42.symm
      subst eh42
      replace ex42 := ex42.symm
      subst ex42
      refine r_i dX9_recovered_45 rfl meX9_recovered ?_
      exact zPX_q Wx Xx2 ((zif_y (by omega)).trans (zif_n (by omega))) (by rw [k3, k4])
    · skip
      refine wp_bipush dX9_recovered_25 (by decide) ?_
      refine r_i dX9_recovered_27 rfl meX9_recovered ?_
      exact zPX_q Wn Xn ((zif_y (by omega)).trans (zif_y (by omega))) rfl
  · skip
    refine wp_iconst dX9_recovered_16 ?_
    refine r_i dX9_recovered_17 rfl meX9_recovered ?_
    exact zPX_q H zFX_r (zif_n (by omega)) rfl
set_option maxRecDepth 100000 in
set_option maxHeartbeats 4000000 in
theorem t_X9_confirmed {h : zH} {p : Int} {c : Nat → Nat → Int} {hs : List (Int × (Nat → Nat → Int))} {tx : Nat → Int} {L : Nat} (H : zWd p c hs tx L h) {t : Int} (zt : zin t) : CI yX9_confirmed mX9_confirmed [vR 1, vI t] h (fun r h' => zPX (sp_confirmed (p, c, hs, tx, L) t) h r h') := by
  refine inV [some (vR 1), some (vI t), none, none, none] mvX9_confirmed rfl (Nat.le_of_ble_eq_true rfl) rfl ?_
  obtain ⟨hs1, hP, hH, hT, hC⟩ := id H
  have hp := hs1.p
  have hp0 : h 2 0 = p := hP.1
  have hpp : 0 < p := by omega
  have zt1 := zt.1
  have zt2 := zt.2
  have L117 : ∀ (h' : zH) (v : Int), (zWd p c hs tx L h') → (zFX h h') → ((0 ≤ t ∧ t < p) ∧ ¬ zsd c = 0) → (v = zcfv p c t) → (v = 0 ∨ v = 1) → WP mX9_confirmed (zMQ mX9_confirmed (zKI (fun r h' => zPX (sp_confirmed (p, c, hs, tx, L) t) h r h'))) 117 [none, none, none, none, none] [vI v] zN zGR h' := by
    intro h' v hW hX ho hv hv2
    refine w_istore4 dX9_confirmed_117 rfl (by decide) (w_iload4 dX9_confirmed_119 ?_)
    refine wp_if_eq 128 dX9_confirmed_121 rfl ⟨by omega, by omega⟩ (fun c121 => ?_) (fun c121 => ?_)
    · skip
      refine wp_iconst dX9_confirmed_128 ?_
      refine r_i dX9_confirmed_129 rfl meX9_confirmed ?_
      exact zPX_q hW hX ((zif_y ho.1).trans (zif_n ho.2)) (by omega)
    · skip
      refine wp_iconst dX9_confirmed_124 (wp_goto 129 dX9_confirmed_125 rfl ?_)
      refine r_i dX9_confirmed_129 rfl meX9_confirmed ?_
      exact zPX_q hW hX ((zif_y ho.1).trans (zif_n ho.2)) (by omega)
  refine w_iload1 dX9_confirmed_0 (w_aload0 dX9_confirmed_1 (wp_getr 2 dX9_confirmed_2 fl_RX9_20 is_1 rfl (wp_geti dX9_confirmed_5 fl_RX9_68 is_2 (wp_iconst dX9_confirmed_8 (wp_isub dX9_confirmed_9 ?_)))))
  rw [hp0]
  apply s_i2 (M := mX9_confirmed) dX9_confirmed_10 lk_RX9_84 mvX9_outside (by decide) meX9_confirmed (Nat.le_of_ble_eq_true rfl)
  · exact t_X9_outside zt ⟨by omega, by omega⟩
  intro x10 h10 hP10
  obtain ⟨eh10, hP10⟩ := hP10
  replace eh10 := eh10.symm
  subst eh10
  refine wp_if_eq 18 dX9_confirmed_13 rfl ⟨by omega, by omega⟩ (fun c13 => ?_) (fun c13 => ?_)
  · skip
    refine w_aload0 dX9_confirmed_18 ?_
    apply v_i0 (M := mX9_confirmed) dX9_confirmed_19 lk_RX9_159 mvX9_noMatrix (by decide) meX9_confirmed is_1 (Nat.le_of_ble_eq_true rfl)
    · exact t_X9_noMatrix H
    intro x19 h19 hP19
    obtain ⟨Xn, Wn, r73, Dn, bn, iN⟩ := hP19
    obtain ⟨sn, Pn, Hn, Tn, cn1, cn2, cn3, cn4, cn5, cn6⟩ := id Wn
    refine wp_if_eq 28 dX9_confirmed_22 rfl ⟨by omega, by omega⟩ (fun c22 => ?_) (fun c22 => ?_)
    · skip
      refine w_aload0 dX9_confirmed_28 (wp_getr 78 dX9_confirmed_29 fl_RX9_51 is_1 rfl (w_iload1 dX9_confirmed_32 ?_))
      apply v_v1 (M := mX9_confirmed) dX9_confirmed_33 lk_RX9_177 mvX5_examine (by decide) meX9_confirmed is_78 (Nat.le_of_ble_eq_true rfl)
      · exact t_X5_examine (t := t.toNat) (by omega) hs1 (by omega) Pn Dn (zsd_2 (by omega)) cn3
      intro h33 hP33
      obtain ⟨fx, ax, bx⟩ := hP33
      obtain ⟨Wx, Xx⟩ := zWd_ex Wn fx ax
      have Xx2 := zFX_t Xn Xx
      obtain ⟨k1, k2, k3, k4⟩ := id bx
      refine w_aload0 dX9_confirmed_36 (wp_getr 78 dX9_confirmed_37 fl_RX9_51 is_1 rfl (w_iload1 dX9_confirmed_40 (wp_iconst dX9_confirmed_41 ?_)))
      apply v_i2 (M := mX9_confirmed) dX9_confirmed_42 lk_RX9_227 mvX5_coordinate (by decide) meX9_confirmed is_78 (Nat.le_of_ble_eq_true rfl)
      · exact t_X5_coordinate (t := t.toNat) (by omega) (by omega) (Or.inl rfl)
      intro x42 h42 hP42
      obtain ⟨eh42, ex42⟩ := hP42
      replace eh42 := eh42.symm
      subst eh42
      replace ex42 := ex42.symm
      subst ex42
      rw [if_pos rfl, k3]
      have a1 := zabs_in hpp (c := c) (t := t.toNat)
      have a2 := zord_in hpp (c := c) (t := t.toNat)
      refine w_istore2 dX9_confirmed_45 rfl (by decide) (w_aload0 dX9_confirmed_46 (wp_getr 78 dX9_confirmed_47 fl_RX9_51 is_1 rfl (w_iload1 dX9_confirmed_50 (wp_iconst dX9_confirmed_51 ?_))))
      apply v_i2 (M := mX9_confirmed) dX9_confirmed_52 lk_RX9_227 mvX5_coordinate (by decide) meX9_confirmed is_78 (Nat.le_of_ble_eq_true rfl)
      · exact t_X5_coordinate (t := t.toNat) (by omega) (by omega) (Or.inr rfl)
      intro x52 h52 hP52
      obtain ⟨eh52, ex52⟩ := hP52
      replace eh52 := eh52.symm
      subst eh52
      replace ex52 := ex52.symm
      subst ex52
      rw [if_neg (by decide), k4]
      refine w_istore3 dX9_confirmed_55 rfl (by decide) (w_iload2 dX9_confirmed_56 (wp_bipush dX9_confirmed_57 (by decide) ?_))
      refine wp_icmp_eq 68 dX9_confirmed_59 rfl ⟨by omega, by omega⟩ ⟨by omega, by omega⟩ (fun c59 => ?_) (fun c59 => ?_)
      · skip
        refine wp_iconst dX9_confirmed_68 ?_
        refine r_i dX9_confirmed_69 rfl meX9_confirmed ?_
        exact zPX_q Wx Xx2 ((zif_y (by omega)).trans (zif_n (by omega))) (zif_n (P := zcfm p c t) (fun q => by unfold zcfm at q; omega)).symm
      · skip
        refine w_iload3 dX9_confirmed_62 (wp_bipush dX9_confirmed_63 (by decide) ?_)
        refine wp_icmp_ne 70 dX9_confirmed_65 rfl ⟨by omega, by omega⟩ ⟨by omega, by omega⟩ (fun c65 => ?_) (fun c65 => ?_)
        · skip
          refine w_aload0 dX9_confirmed_70 (wp_getr 2 dX9_confirmed_71 fl_RX9_20 is_1 rfl (wp_iconst dX9_confirmed_74 (w_iload2 dX9_confirmed_75 (w_iload3 dX9_confirmed_76 (w_iload1 dX9_confirmed_77 ?_)))))
          apply v_i4 (M := mX9_confirmed) dX9_confirmed_78 lk_RX9_127 mvX4_valueOf (by decide) meX9_confirmed is_2 (Nat.le_of_ble_eq_true rfl)
          · exact t_X4_valueOf (k := 0) zPo_2 rfl (by omega) hs1 Wx.2.1 (by omega) (by omega) (by omega)
          intro x78 h78 hP78
          obtain ⟨eh78, ex78⟩ := hP78
          replace eh78 := eh78.symm
          subst eh78
          replace ex78 := ex78.symm
          subst ex78
          have v0 := zval_in hpp (c := c) (k := 0) (x := zabs p c t.toNat) (y := zord p c t.toNat) (t := t)
          have v1 := zval_in hpp (c := c) (k := 1) (x := zabs p c t.toNat) (y := zord p c t.toNat) (t := t)
          have v2 := zval_in hpp (c := c) (k := 2) (x := zabs p c t.toNat) (y := zord p c t.toNat) (t := t)
          refine wp_if_ne 116 dX9_confirmed_81 rfl ⟨by omega, by omega⟩ (fun c81 => ?_) (fun c81 => ?_)
          · skip
            refine wp_iconst dX9_confirmed_116 ?_
            refine w_forget0 ?_
            refine w_forget1 ?_
            refine w_forget2 ?_
            refine w_forget3 ?_
            first
            | exact L117 _ _ Wx Xx2 (by omega) (zif_y (P := zcfm p c t) ⟨by omega, by omega, by omega, by omega, by omega⟩).symm (Or.inr rfl)
            | exact L117 _ _ Wx Xx2 (by omega) (zif_n (P := zcfm p c t) (fun q => by unfold zcfm at q; omega)).symm (Or.inl rfl)
          · skip
            refine w_aload0 dX9_confirmed_84 (wp_getr 2 dX9_confirmed_85 fl_RX9_20 is_1 rfl (wp_iconst dX9_confirmed_88 (w_iload2 dX9_confirmed_89 (w_iload3 dX9_confirmed_90 (w_iload1 dX9_confirmed_91 ?_)))))
            apply v_i4 (M := mX9_confirmed) dX9_confirmed_92 lk_RX9_127 mvX4_valueOf (by decide) meX9_confirmed is_2 (Nat.le_of_ble_eq_true rfl)
            · exact t_X4_valueOf (k := 1) zPo_2 rfl (by omega) hs1 Wx.2.1 (by omega) (by omega) (by omega)
            intro x92 h92 hP92
            obtain ⟨eh92, ex92⟩ := hP92
            replace eh92 := eh92.symm
            subst eh92
            replace ex92 := ex92.symm
            subst ex92
            refine wp_if_ne 116 dX9_confirmed_95 rfl ⟨by omega, by omega⟩ (fun c95 => ?_) (fun c95 => ?_)
            · skip
              refine wp_iconst dX9_confirmed_116 ?_
              refine w_forget0 ?_
              refine w_forget1 ?_
              refine w_forget2 ?_
              refine w_forget3 ?_
              first
              | exact L117 _ _ Wx Xx2 (by omega) (zif_y (P := zcfm p c t) ⟨by omega, by omega, by omega, by omega, by omega⟩).symm (Or.inr rfl)
              | exact L117 _ _ Wx Xx2 (by omega) (zif_n (P := zcfm p c t) (fun q => by unfold zcfm at q; omega)).symm (Or.inl rfl)
            · skip
              refine w_aload0 dX9_confirmed_98 (wp_getr 2 dX9_confirmed_99 fl_RX9_20 is_1 rfl (wp_iconst dX9_confirmed_102 (w_iload2 dX9_confirmed_103 (w_iload3 dX9_confirmed_104 (w_iload1 dX9_confirmed_105 ?_)))))
              apply v_i4 (M := mX9_confirmed) dX9_confirmed_106 lk_RX9_127 mvX4_valueOf (by decide) meX9_confirmed is_2 (Nat.le_of_ble_eq_true rfl)
              · exact t_X4_valueOf (k := 2) zPo_2 rfl (by omega) hs1 Wx.2.1 (by omega) (by omega) (by omega)
              intro x106 h106 hP106
              obtain ⟨eh106, ex106⟩ := hP106
              replace eh106 := eh106.symm
              subst eh106
              replace ex106 := ex106.symm
              subst ex106
              refine wp_if_ne 116 dX9_confirmed_109 rfl ⟨by omega, by omega⟩ (fun c109 => ?_) (fun c109 => ?_)
              · skip
                refine wp_iconst dX9_confirmed_116 ?_
                refine w_forget0 ?_
                refine w_forget1 ?_
                refine w_forget2 ?_
                refine w_forget3 ?_
                first
                | exact L117 _ _ Wx Xx2 (by omega) (zif_y (P := zcfm p c t) ⟨by omega, by omega, by omega, by omega, by omega⟩).symm (Or.inr rfl)
                | exact L117 _ _ Wx Xx2 (by omega) (zif_n (P := zcfm p c t) (fun q => by unfold zcfm at q; omega)).symm (Or.inl rfl)
              · skip
                refine wp_iconst dX9_confirmed_112 (wp_goto 117 dX9_confirmed_113 rfl ?_)
                refine w_forget0 ?_
                refine w_forget1 ?_
                refine w_forget2 ?_
                refine w_forget3 ?_
                first
                | exact L117 _ _ Wx Xx2 (by omega) (zif_y (P := zcfm p c t) ⟨by omega, by omega, by omega, by omega, by omega⟩).symm (Or.inr rfl)
                | exact L117 _ _ Wx Xx2 (by omega) (zif_n (P := zcfm p c t) (fun q => by unfold zcfm at q; omega)).symm (Or.inl rfl)
        · skip
          refine wp_iconst dX9_confirmed_68 ?_
          refine r_i dX9_confirmed_69 rfl meX9_confirmed ?_
          exact zPX_q Wx Xx2 ((zif_y (by omega)).trans (zif_n (by omega))) (zif_n (P := zcfm p c t) (fun q => by unfold zcfm at q; omega)).symm
    · skip
      refine wp_bipush dX9_confirmed_25 (by decide) ?_
      refine r_i dX9_confirmed_27 rfl meX9_confirmed ?_
      exact zPX_q Wn Xn ((zif_y (by omega)).trans (zif_y (by omega))) rfl
  · skip
    refine wp_iconst dX9_confirmed_16 ?_
    refine r_i dX9_confirmed_17 rfl meX9_confirmed ?_
    exact zPX_q H zFX_r (zif_n (by omega)) rfl
set_option maxRecDepth 100000 in
set_option maxHeartbeats 4000000 in
theorem t_X9_undo {h : zH} {p : Int} {c : Nat → Nat → Int} {hs : List (Int × (Nat → Nat → Int))} {tx : Nat → Int} {L : Nat} (H : zWd p c hs tx L h) : CI yX9_undo mX9_undo [vR 1] h (fun r h' => zPX (sp_undo (p, c, hs, tx, L)) h r h') := by
  refine inV [some (vR 1)] mvX9_undo rfl (Nat.le_of_ble_eq_true rfl) rfl ?_
  obtain ⟨hs1, hP, hH, hT, hC⟩ := id H
  have hp := hs1.p
  have hp0 : h 2 0 = p := hP.1
  have hpp : 0 < p := by omega
  obtain ⟨nx, n1, n2, n3, n4, n5⟩ := id hH.1
  refine w_aload0 dX9_undo_0 (wp_getr 96 dX9_undo_1 fl_RX9_29 is_1 rfl (wp_geti dX9_undo_4 fl_RX9_231 is_96 ?_))
  rw [n3]
  refine wp_if_ne 13 dX9_undo_7 rfl ⟨by omega, by omega⟩ (fun c7 => ?_) (fun c7 => ?_)
  · skip
    refine w_aload0 dX9_undo_13 ?_
    obtain ⟨q, hs', ehs⟩ : ∃ q hs', hs = q :: hs' := by
      cases hs with
      | nil => exact absurd rfl c7
      | cons q hs' => exact ⟨q, hs', rfl⟩
    subst ehs
    refine wp_getr 96 dX9_undo_14 fl_RX9_29 is_1 rfl (w_aload0 dX9_undo_17 (wp_getr 2 dX9_undo_18 fl_RX9_20 is_1 rfl ?_))
    apply v_v1 (M := mX9_undo) dX9_undo_21 lk_RX9_234 mvX2_restore (by decide) meX9_undo is_96 (Nat.le_of_ble_eq_true rfl)
    · exact t_X2_restore hH.1
    intro h21 hP21
    obtain ⟨fr, ar, br⟩ := hP21
    refine w_aload0 dX9_undo_24 ?_
    apply v_v0 (M := mX9_undo) dX9_undo_25 lk_RX9_237 mvX9_forgetResults (by decide) meX9_undo is_1 (Nat.le_of_ble_eq_true rfl)
    · exact t_X9_forgetResults
    intro h25 hP25
    obtain ⟨ff, cf⟩ := hP25
    refine w_aload0 dX9_undo_28 (wp_getr 96 dX9_undo_29 fl_RX9_29 is_1 rfl (wp_geti dX9_undo_32 fl_RX9_231 is_96 ?_))
    refine r_i dX9_undo_35 rfl meX9_undo ?_
    have hHf : zHi hs' h25 := zHi_fr ar (fun a j ha => ff a j (by unfold zFfr; omega))
    have hst : zSt q.1 q.2 := hH.2 q List.mem_cons_self
    refine zPX_i rfl ?_ ⟨hst, zPol_eq br (fun b j hb1 hb2 => ff _ _ (by unfold zFfr; omega)), ⟨hHf, fun w hw => hH.2 w (List.mem_cons_of_mem _ hw)⟩, zTw_fr hT (fun a j ha => (ff _ _ (by unfold zFfr; omega)).trans (fr _ _ (by omega))), cf q.1 q.2⟩ (fun a j ha => (ff _ _ (by unfold zFfr; omega)).trans (fr _ _ (by omega)))
    obtain ⟨m, m1, m2, m3, m4⟩ := hHf
    exact m3
  · skip
    refine wp_bipush dX9_undo_10 (by decide) ?_
    refine r_i dX9_undo_12 rfl meX9_undo ?_
    have e : hs = [] := List.eq_nil_of_length_eq_zero (by omega)
    subst e
    exact zPX_q H zFX_r rfl rfl
set_option maxRecDepth 100000 in
set_option maxHeartbeats 4000000 in
theorem t_X9_count {h : zH} {p : Int} {c : Nat → Nat → Int} {hs : List (Int × (Nat → Nat → Int))} {tx : Nat → Int} {L : Nat} (H : zWd p c hs tx L h) {w : Int} (zw : zin w) : CI yX9_count mX9_count [vR 1, vI w] h (fun r h' => zPX (sp_count (p, c, hs, tx, L) w) h r h') := by
  refine inV [some (vR 1), some (vI w)] mvX9_count rfl (Nat.le_of_ble_eq_true rfl) rfl ?_
  obtain ⟨hs1, hP, hH, hT, hC⟩ := id H
  have hp := hs1.p
  have hp0 : h 2 0 = p := hP.1
  have hpp : 0 < p := by omega
  have zw1 := zw.1
  have zw2 := zw.2
  refine w_iload1 dX9_count_0 ?_
  by_cases co1 : w < 0 ∨ 6 < w
  · refine wp_tswOut 99 dX9_count_1 ⟨by omega, by omega⟩ co1 rfl ?_
    refine wp_iconst dX9_count_99 ?_
    refine r_i dX9_count_100 rfl meX9_count ?_
    refine zPX_q H zFX_r rfl ?_
    show (-1 : Int) = zcount _ w
    unfold zcount
    rw [if_neg (by omega), if_neg (by omega), if_neg (by omega), if_neg (by omega), if_neg (by omega), if_neg (by omega), if_neg (by omega)]
  rcases (show w = 0 ∨ w = 1 ∨ w = 2 ∨ w = 3 ∨ w = 4 ∨ w = 5 ∨ w = 6 by omega) with rfl | rfl | rfl | rfl | rfl | rfl | rfl
  · refine wp_tswIn 44 dX9_count_1 ⟨by decide, by decide⟩ (by decide) (by decide) rfl rfl ?_
    refine w_aload0 dX9_count_44 (wp_getr 2 dX9_count_45 fl_RX9_20 is_1 rfl (wp_geti dX9_count_48 fl_RX9_68 is_2 ?_))
    refine r_i dX9_count_51 rfl meX9_count ?_
    exact zPX_q H zFX_r rfl hp0
  · refine wp_tswIn 52 dX9_count_1 ⟨by decide, by decide⟩ (by decide) (by decide) rfl rfl ?_
    refine w_aload0 dX9_count_52 (wp_getr 2 dX9_count_53 fl_RX9_20 is_1 rfl (wp_iconst dX9_count_56 ?_))
    apply v_i1 (M := mX9_count) dX9_count_57 lk_RX9_240 mvX4_greatestDegree (by decide) meX9_count is_2 (Nat.le_of_ble_eq_true rfl)
    · exact t_X4_greatestDegree (v := 0) zPo_2 rfl (by decide) hs1 hP
    intro x57 h57 hP57
    obtain ⟨eh57, ex57⟩ := hP57
    replace eh57 := eh57.symm
    subst eh57
    replace ex57 := ex57.symm
    subst ex57
    refine r_i dX9_count_60 rfl meX9_count ?_
    exact zPX_q H zFX_r rfl rfl
  · refine wp_tswIn 61 dX9_count_1 ⟨by decide, by decide⟩ (by decide) (by decide) rfl rfl ?_
    refine w_aload0 dX9_count_61 (wp_getr 2 dX9_count_62 fl_RX9_20 is_1 rfl (wp_iconst dX9_count_65 ?_))
    apply v_i1 (M := mX9_count) dX9_count_66 lk_RX9_240 mvX4_greatestDegree (by decide) meX9_count is_2 (Nat.le_of_ble_eq_true rfl)
    · exact t_X4_greatestDegree (v := 1) zPo_2 rfl (by decide) hs1 hP
    intro x66 h66 hP66
    obtain ⟨eh66, ex66⟩ := hP66
    replace eh66 := eh66.symm
    subst eh66
    replace ex66 := ex66.symm
    subst ex66
    refine r_i dX9_count_69 rfl meX9_count ?_
    exact zPX_q H zFX_r rfl rfl
  · refine wp_tswIn 70 dX9_count_1 ⟨by decide, by decide⟩ (by decide) (by decide) rfl rfl ?_
    refine w_aload0 dX9_count_70 (wp_getr 138 dX9_count_71 fl_RX9_36 is_1 rfl (wp_geti dX9_count_74 fl_RX9_81 is_138 ?_))
    refine r_i dX9_count_77 rfl meX9_count ?_
    exact zPX_q H zFX_r rfl hT.1
  · refine wp_tswIn 78 dX9_count_1 ⟨by decide, by decide⟩ (by decide) (by decide) rfl rfl ?_
    refine w_aload0 dX9_count_78 (wp_getr 96 dX9_count_79 fl_RX9_29 is_1 rfl (wp_geti dX9_count_82 fl_RX9_231 is_96 ?_))
    refine r_i dX9_count_85 rfl meX9_count ?_
    obtain ⟨nx, n1, n2, n3, n4, n5⟩ := id hH.1
    exact zPX_q H zFX_r rfl n3
  · refine wp_tswIn 86 dX9_count_1 ⟨by decide, by decide⟩ (by decide) (by decide) rfl rfl ?_
    refine w_aload0 dX9_count_86 (wp_getr 2 dX9_count_87 fl_RX9_20 is_1 rfl ?_)
    apply v_i0 (M := mX9_count) dX9_count_90 lk_RX9_123 mvX4_termCountOfAll (by decide) meX9_count is_2 (Nat.le_of_ble_eq_true rfl)
    · exact t_X4_termCountOfAll zPo_2 hs1 hP
    intro x90 h90 hP90
    obtain ⟨eh90, ex90⟩ := hP90
    replace eh90 := eh90.symm
    subst eh90
    replace ex90 := ex90.symm
    subst ex90
    refine r_i dX9_count_93 rfl meX9_count ?_
    exact zPX_q H zFX_r rfl rfl
  · refine wp_tswIn 94 dX9_count_1 ⟨by decide, by decide⟩ (by decide) (by decide) rfl rfl ?_
    refine w_aload0 dX9_count_94 ?_
    apply v_i0 (M := mX9_count) dX9_count_95 lk_RX9_243 mvX9_countPairs (by decide) meX9_count is_1 (Nat.le_of_ble_eq_true rfl)
    · exact t_X9_countPairs H
    intro x95 h95 hP95
    refine r_i dX9_count_98 rfl meX9_count ?_
    exact hP95
set_option maxRecDepth 100000 in
set_option maxHeartbeats 4000000 in
theorem t_X9_digest {h : zH} {p : Int} {c : Nat → Nat → Int} {hs : List (Int × (Nat → Nat → Int))} {tx : Nat → Int} {L : Nat} (H : zWd p c hs tx L h) : CL yX9_digest mX9_digest [vR 1] h (fun r h' => zPX (sp_digest (p, c, hs, tx, L)) h r h') := by
  refine inV [some (vR 1), none, none, none] mvX9_digest rfl (Nat.le_of_ble_eq_true rfl) rfl ?_
  obtain ⟨hs1, hP, hH, hT, hC⟩ := id H
  have hp := hs1.p
  have hp0 : h 2 0 = p := hP.1
  have hpp : 0 < p := by omega
  have L246 : ∀ (zm246 : Nat) (i : Nat) (h' : zH) (x vi : Int), p.toNat - i = zm246 → ((i : Int) ≤ p) → (vi = (i : Int)) → (zWd p c hs tx L h') → (zFX h h') → (x = zmixN (fun t => (sp_confirmed (p, c, hs, tx, L) (t : Int)).1) i (zmixN (fun e => (sp_eliminant (p, c, hs, tx, L) 1 (e : Int)).1) 49 (zdg3 (p, c, hs, tx, L)))) → (¬ zsd c = 0) → WP mX9_digest (zMQ mX9_digest (zKL (fun r h' => zPX (sp_digest (p, c, hs, tx, L)) h r h'))) 246 [some (vR 1), some (vL x), none, some (vI vi)] [] zN zGR h' := by
    intro zm246
    induction zm246 using Nat.strongRecOn with | _ zm246 ih246 => ?_
    intro i h' x vi hzm246 hi hvi hW hX hx hsd
    subst hzm246
    have hzi : zin vi := ⟨by omega, by omega⟩
    refine w_iload3 dX9_digest_246 (w_aload0 dX9_digest_247 (wp_getr 2 dX9_digest_248 fl_RX9_20 is_1 rfl (wp_geti dX9_digest_251 fl_RX9_68 is_2 ?_)))
    rw [hW.2.1.1]
    refine wp_icmp_ge 276 dX9_digest_254 rfl ⟨by omega, by omega⟩ ⟨by omega, by omega⟩ (fun c254 => ?_) (fun c254 => ?_)
    · skip
      refine wp_lloadn 1 rfl rfl dX9_digest_276 ?_
      refine r_l dX9_digest_277 rfl meX9_digest ?_
      refine zPX_q hW hX (zif_n hsd) ?_
      rw [hx, show i = p.toNat by omega]
      rfl
    · skip
      refine wp_ldc2 dX9_digest_257 kc_RX9_248 (wp_lloadn 1 rfl rfl dX9_digest_260 (wp_lmul dX9_digest_261 (w_aload0 dX9_digest_262 (w_iload3 dX9_digest_263 ?_))))
      apply v_i1 (M := mX9_digest) dX9_digest_264 lk_RX9_288 mvX9_confirmed (by decide) meX9_digest is_1 (Nat.le_of_ble_eq_true rfl)
      · exact t_X9_confirmed hW hzi
      intro x264 h264 hP264
      obtain ⟨er264, W264, X264⟩ := hP264
      subst er264
      rw [show (sp_confirmed (p, c, hs, tx, L) vi).2 = (p, c, hs, tx, L) from sp_mt_2] at W264
      refine wp_i2l dX9_digest_267 zconf_in (wp_ladd dX9_digest_268 ?_)
      refine wp_lstoren 1 rfl rfl rfl (by decide) dX9_digest_269 (w_iinc3 dX9_digest_270 rfl (by decide) (wp_goto 246 dX9_digest_273 rfl ?_))
      refine ih246 _ (by omega) (i + 1) _ _ _ rfl (by omega) (by omega) W264 (zFX_t hX X264) ?_ hsd
      rw [hx, hvi]
      rfl
  have L218 : ∀ (zm218 : Nat) (i : Nat) (h' : zH) (x vi : Int), 49 - i = zm218 → (i ≤ 49) → (vi = (i : Int)) → (zWd p c hs tx L h') → (zFX h h') → (x = zmixN (fun e => (sp_eliminant (p, c, hs, tx, L) 1 (e : Int)).1) i (zdg3 (p, c, hs, tx, L))) → (¬ zsd c = 0) → WP mX9_digest (zMQ mX9_digest (zKL (fun r h' => zPX (sp_digest (p, c, hs, tx, L)) h r h'))) 218 [some (vR 1), some (vL x), none, some (vI vi)] [] zN zGR h' := by
    intro zm218
    induction zm218 using Nat.strongRecOn with | _ zm218 ih218 => ?_
    intro i h' x vi hzm218 hi hvi hW hX hx hsd
    subst hzm218
    have hzi : zin vi := ⟨by omega, by omega⟩
    refine w_iload3 dX9_digest_218 (wp_bipush dX9_digest_219 (by decide) ?_)
    refine wp_icmp_ge 244 dX9_digest_221 rfl ⟨by omega, by omega⟩ ⟨by omega, by omega⟩ (fun c221 => ?_) (fun c221 => ?_)
    · skip
      refine wp_iconst dX9_digest_244 (w_istore3 dX9_digest_245 rfl (by decide) ?_)
      refine L246 _ 0 _ _ _ rfl (by omega) rfl hW hX ?_ hsd
      rw [hx, show i = 49 by omega]
      rfl
    · skip
      refine wp_ldc2 dX9_digest_224 kc_RX9_248 (wp_lloadn 1 rfl rfl dX9_digest_227 (wp_lmul dX9_digest_228 (w_aload0 dX9_digest_229 (wp_iconst dX9_digest_230 (w_iload3 dX9_digest_231 ?_)))))
      apply v_i2 (M := mX9_digest) dX9_digest_232 lk_RX9_284 mvX9_eliminant (by decide) meX9_digest is_1 (Nat.le_of_ble_eq_true rfl)
      · exact t_X9_eliminant hW (Or.inr rfl) hzi
      intro x232 h232 hP232
      obtain ⟨er232, W232, X232⟩ := hP232
      subst er232
      rw [sp_eliminant_2] at W232
      refine wp_i2l dX9_digest_235 (zelim_in hs1) (wp_ladd dX9_digest_236 ?_)
      refine wp_lstoren 1 rfl rfl rfl (by decide) dX9_digest_237 (w_iinc3 dX9_digest_238 rfl (by decide) (wp_goto 218 dX9_digest_241 rfl ?_))
      refine ih218 _ (by omega) (i + 1) _ _ _ rfl (by omega) (by omega) W232 (zFX_t hX X232) ?_ hsd
      rw [hx, hvi]
      rfl
  have L177 : ∀ (zm177 : Nat) (i : Nat) (h' : zH) (x vi : Int), 49 - i = zm177 → (i ≤ 49) → (vi = (i : Int)) → (zWd p c hs tx L h') → (zFX h h') → (x = zmixN (fun e => (sp_eliminant (p, c, hs, tx, L) 0 (e : Int)).1) i (zdg2 (p, c, hs, tx, L))) → (¬ zsd c = 0) → WP mX9_digest (zMQ mX9_digest (zKL (fun r h' => zPX (sp_digest (p, c, hs, tx, L)) h r h'))) 177 [some (vR 1), some (vL x), none, some (vI vi)] [] zN zGR h' := by
    intro zm177
    induction zm177 using Nat.strongRecOn with | _ zm177 ih177 => ?_
    intro i h' x vi hzm177 hi hvi hW hX hx hsd
    subst hzm177
    have hzi : zin vi := ⟨by omega, by omega⟩
    refine w_iload3 dX9_digest_177 (wp_bipush dX9_digest_178 (by decide) ?_)
    refine wp_icmp_ge 203 dX9_digest_180 rfl ⟨by omega, by omega⟩ ⟨by omega, by omega⟩ (fun c180 => ?_) (fun c180 => ?_)
    · skip
      refine wp_ldc2 dX9_digest_203 kc_RX9_248 (wp_lloadn 1 rfl rfl dX9_digest_206 (wp_lmul dX9_digest_207 (w_aload0 dX9_digest_208 (wp_iconst dX9_digest_209 ?_))))
      apply v_i1 (M := mX9_digest) dX9_digest_210 lk_RX9_281 mvX9_eliminantDegree (by decide) meX9_digest is_1 (Nat.le_of_ble_eq_true rfl)
      · exact t_X9_eliminantDegree hW (Or.inr rfl)
      intro x210 h210 hP210
      obtain ⟨er210, W210, X210⟩ := hP210
      subst er210
      rw [show (sp_eliminantDegree (p, c, hs, tx, L) 1).2 = (p, c, hs, tx, L) from sp_m_2] at W210
      refine wp_i2l dX9_digest_213 zedeg_in (wp_ladd dX9_digest_214 ?_)
      refine wp_lstoren 1 rfl rfl rfl (by decide) dX9_digest_215 (wp_iconst dX9_digest_216 (w_istore3 dX9_digest_217 rfl (by decide) ?_))
      refine L218 _ 0 _ _ _ rfl (Nat.zero_le _) rfl W210 (zFX_t hX X210) ?_ hsd
      rw [hx, show i = 49 by omega]
      rfl
    · skip
      refine wp_ldc2 dX9_digest_183 kc_RX9_248 (wp_lloadn 1 rfl rfl dX9_digest_186 (wp_lmul dX9_digest_187 (w_aload0 dX9_digest_188 (wp_iconst dX9_digest_189 (w_iload3 dX9_digest_190 ?_)))))
      apply v_i2 (M := mX9_digest) dX9_digest_191 lk_RX9_284 mvX9_eliminant (by decide) meX9_digest is_1 (Nat.le_of_ble_eq_true rfl)
      · exact t_X9_eliminant hW (Or.inl rfl) hzi
      intro x191 h191 hP191
      obtain ⟨er191, W191, X191⟩ := hP191
      subst er191
      rw [sp_eliminant_2] at W191
      refine wp_i2l dX9_digest_194 (zelim_in hs1) (wp_ladd dX9_digest_195 ?_)
      refine wp_lstoren 1 rfl rfl rfl (by decide) dX9_digest_196 (w_iinc3 dX9_digest_197 rfl (by decide) (wp_goto 177 dX9_digest_200 rfl ?_))
      refine ih177 _ (by omega) (i + 1) _ _ _ rfl (by omega) (by omega) W191 (zFX_t hX X191) ?_ hsd
      rw [hx, hvi]
      rfl
  have L6 : ∀ (zm6 : Nat) (i : Nat) (h' : zH) (x vi : Int), 7 - i = zm6 → (i ≤ 7) → (vi = (i : Int)) → (zWd p c hs tx L h') → (zFX h h') → (x = zmixN (fun w => zcount (p, c, hs, tx, L) (w : Int)) i 18404) → WP mX9_digest (zMQ mX9_digest (zKL (fun r h' => zPX (sp_digest (p, c, hs, tx, L)) h r h'))) 6 [some (vR 1), some (vL x), none, some (vI vi)] [] zN zGR h' := by
    intro zm6
    induction zm6 using Nat.strongRecOn with | _ zm6 ih6 => ?_
    intro i h' x vi hzm6 hi hvi hW hX hx
    subst hzm6
    have hzi : zin vi := ⟨by omega, by omega⟩
    refine w_iload3 dX9_digest_6 (wp_bipush dX9_digest_7 (by decide) ?_)
    refine wp_icmp_gt 31 dX9_digest_9 rfl ⟨by omega, by omega⟩ ⟨by omega, by omega⟩ (fun c9 => ?_) (fun c9 => ?_)
    · skip
      refine wp_ldc2 dX9_digest_31 kc_RX9_248 (wp_lloadn 1 rfl rfl dX9_digest_34 (wp_lmul dX9_digest_35 (w_aload0 dX9_digest_36 ?_)))
      apply v_i0 (M := mX9_digest) dX9_digest_37 lk_RX9_253 mvX9_degreeDrops (by decide) meX9_digest is_1 (Nat.le_of_ble_eq_true rfl)
      · exact t_X9_degreeDrops hW
      intro x37 h37 hP37
      obtain ⟨er37, W37, X37⟩ := hP37
      subst er37
      refine wp_i2l dX9_digest_40 (zdrops_in hs1) (wp_ladd dX9_digest_41 ?_)
      refine wp_lstoren 1 rfl rfl rfl (by decide) dX9_digest_42 (wp_ldc2 dX9_digest_43 kc_RX9_248 (wp_lloadn 1 rfl rfl dX9_digest_46 (wp_lmul dX9_digest_47 (w_aload0 dX9_digest_48 ?_))))
      apply v_i0 (M := mX9_digest) dX9_digest_49 lk_RX9_256 mvX9_solvable (by decide) meX9_digest is_1 (Nat.le_of_ble_eq_true rfl)
      · exact t_X9_solvable W37
      intro x49 h49 hP49
      obtain ⟨er49, W49, X49⟩ := hP49
      subst er49
      refine wp_i2l dX9_digest_52 (zsolv_in hs1) (wp_ladd dX9_digest_53 ?_)
      refine wp_lstoren 1 rfl rfl rfl (by decide) dX9_digest_54 (wp_ldc2 dX9_digest_55 kc_RX9_248 (wp_lloadn 1 rfl rfl dX9_digest_58 (wp_lmul dX9_digest_59 (w_aload0 dX9_digest_60 ?_))))
      apply v_i0 (M := mX9_digest) dX9_digest_61 lk_RX9_259 mvX9_size (by decide) meX9_digest is_1 (Nat.le_of_ble_eq_true rfl)
      · exact t_X9_size W49
      intro x61 h61 hP61
      obtain ⟨er61, W61, X61⟩ := hP61
      subst er61
      rw [sp_size_2] at W61
      refine wp_i2l dX9_digest_64 zsize_in (wp_ladd dX9_digest_65 ?_)
      refine wp_lstoren 1 rfl rfl rfl (by decide) dX9_digest_66 (w_aload0 dX9_digest_67 ?_)
      apply v_i0 (M := mX9_digest) dX9_digest_68 lk_RX9_159 mvX9_noMatrix (by decide) meX9_digest is_1 (Nat.le_of_ble_eq_true rfl)
      · exact t_X9_noMatrix W61
      intro x68 h68 hP68
      obtain ⟨Xn, Wn, r73, Dn, bn, iN⟩ := hP68
      have hXn := zFX_t (zFX_t (zFX_t (zFX_t hX X37) X49) X61) Xn
      refine wp_if_eq 76 dX9_digest_71 rfl ⟨by omega, by omega⟩ (fun c71 => ?_) (fun c71 => ?_)
      · skip
        refine wp_ldc2 dX9_digest_76 kc_RX9_248 (wp_lloadn 1 rfl rfl dX9_digest_79 (wp_lmul dX9_digest_80 (w_aload0 dX9_digest_81 ?_)))
        apply v_i0 (M := mX9_digest) dX9_digest_82 lk_RX9_262 mvX9_rank (by decide) meX9_digest is_1 (Nat.le_of_ble_eq_true rfl)
        · exact t_X9_rank Wn
        intro x82 h82 hP82
        obtain ⟨er82, W82, X82⟩ := hP82
        subst er82
        rw [show (sp_rank (p, c, hs, tx, L)).2 = (p, c, hs, tx, L) from sp_m_2] at W82
        refine wp_i2l dX9_digest_85 zrank_in (wp_ladd dX9_digest_86 ?_)
        refine wp_lstoren 1 rfl rfl rfl (by decide) dX9_digest_87 (wp_ldc2 dX9_digest_88 kc_RX9_248 (wp_lloadn 1 rfl rfl dX9_digest_91 (wp_lmul dX9_digest_92 (w_aload0 dX9_digest_93 ?_))))
        apply v_i0 (M := mX9_digest) dX9_digest_94 lk_RX9_265 mvX9_pivotPoint (by decide) meX9_digest is_1 (Nat.le_of_ble_eq_true rfl)
        · exact t_X9_pivotPoint W82
        intro x94 h94 hP94
        obtain ⟨er94, W94, X94⟩ := hP94
        subst er94
        rw [show (sp_pivotPoint (p, c, hs, tx, L)).2 = (p, c, hs, tx, L) from sp_m_2] at W94
        refine wp_i2l dX9_digest_97 (zpivot_in hs1) (wp_ladd dX9_digest_98 ?_)
        refine wp_lstoren 1 rfl rfl rfl (by decide) dX9_digest_99 (wp_ldc2 dX9_digest_100 kc_RX9_248 (wp_lloadn 1 rfl rfl dX9_digest_103 (wp_lmul dX9_digest_104 (w_aload0 dX9_digest_105 (wp_iconst dX9_digest_106 ?_)))))
        apply v_i1 (M := mX9_digest) dX9_digest_107 lk_RX9_268 mvX9_selected (by decide) meX9_digest is_1 (Nat.le_of_ble_eq_true rfl)
        · exact t_X9_selected W94 (Or.inr rfl)
        intro x107 h107 hP107
        obtain ⟨er107, W107, X107⟩ := hP107
        subst er107
        rw [show (sp_selected (p, c, hs, tx, L) 1).2 = (p, c, hs, tx, L) from sp_m_2] at W107
        refine wp_i2l dX9_digest_110 zsel_in (wp_ladd dX9_digest_111 ?_)
        refine wp_lstoren 1 rfl rfl rfl (by decide) dX9_digest_112 (wp_ldc2 dX9_digest_113 kc_RX9_248 (wp_lloadn 1 rfl rfl dX9_digest_116 (wp_lmul dX9_digest_117 (w_aload0 dX9_digest_118 (wp_iconst dX9_digest_119 ?_)))))
        apply v_i1 (M := mX9_digest) dX9_digest_120 lk_RX9_268 mvX9_selected (by decide) meX9_digest is_1 (Nat.le_of_ble_eq_true rfl)
        · exact t_X9_selected W107 (Or.inl rfl)
        intro x120 h120 hP120
        obtain ⟨er120, W120, X120⟩ := hP120
        subst er120
        rw [show (sp_selected (p, c, hs, tx, L) 0).2 = (p, c, hs, tx, L) from sp_m_2] at W120
        refine wp_i2l dX9_digest_123 zsel_in (wp_ladd dX9_digest_124 ?_)
        refine wp_lstoren 1 rfl rfl rfl (by decide) dX9_digest_125 (wp_ldc2 dX9_digest_126 kc_RX9_248 (wp_lloadn 1 rfl rfl dX9_digest_129 (wp_lmul dX9_digest_130 (w_aload0 dX9_digest_131 ?_))))
        apply v_i0 (M := mX9_digest) dX9_digest_132 lk_RX9_272 mvX9_rankDrops (by decide) meX9_digest is_1 (Nat.le_of_ble_eq_true rfl)
        · exact t_X9_rankDrops W120
        intro x132 h132 hP132
        obtain ⟨er132, W132, X132⟩ := hP132
        subst er132
        rw [show (sp_rankDrops (p, c, hs, tx, L)).2 = (p, c, hs, tx, L) from sp_m_2] at W132
        refine wp_i2l dX9_digest_135 (zrdr_in hs1) (wp_ladd dX9_digest_136 ?_)
        refine wp_lstoren 1 rfl rfl rfl (by decide) dX9_digest_137 (wp_ldc2 dX9_digest_138 kc_RX9_248 (wp_lloadn 1 rfl rfl dX9_digest_141 (wp_lmul dX9_digest_142 (w_aload0 dX9_digest_143 ?_))))
        apply v_i0 (M := mX9_digest) dX9_digest_144 lk_RX9_275 mvX9_condition (by decide) meX9_digest is_1 (Nat.le_of_ble_eq_true rfl)
        · exact t_X9_condition W132
        intro x144 h144 hP144
        obtain ⟨er144, W144, X144⟩ := hP144
        subst er144
        rw [show (sp_condition (p, c, hs, tx, L)).2 = (p, c, hs, tx, L) from sp_m_2] at W144
        refine wp_i2l dX9_digest_147 zcond_in (wp_ladd dX9_digest_148 ?_)
        refine wp_lstoren 1 rfl rfl rfl (by decide) dX9_digest_149 (wp_ldc2 dX9_digest_150 kc_RX9_248 (wp_lloadn 1 rfl rfl dX9_digest_153 (wp_lmul dX9_digest_154 (w_aload0 dX9_digest_155 ?_))))
        apply v_i0 (M := mX9_digest) dX9_digest_156 lk_RX9_278 mvX9_extraneous (by decide) meX9_digest is_1 (Nat.le_of_ble_eq_true rfl)
        · exact t_X9_extraneous W144
        intro x156 h156 hP156
        obtain ⟨er156, W156, X156⟩ := hP156
        subst er156
        rw [show (sp_extraneous (p, c, hs, tx, L)).2 = (p, c, hs, tx, L) from sp_m_2] at W156
        refine wp_i2l dX9_digest_159 (zextr_in hs1) (wp_ladd dX9_digest_160 ?_)
        refine wp_lstoren 1 rfl rfl rfl (by decide) dX9_digest_161 (wp_ldc2 dX9_digest_162 kc_RX9_248 (wp_lloadn 1 rfl rfl dX9_digest_165 (wp_lmul dX9_digest_166 (w_aload0 dX9_digest_167 (wp_iconst dX9_digest_168 ?_)))))
        apply v_i1 (M := mX9_digest) dX9_digest_169 lk_RX9_281 mvX9_eliminantDegree (by decide) meX9_digest is_1 (Nat.le_of_ble_eq_true rfl)
        · exact t_X9_eliminantDegree W156 (Or.inl rfl)
        intro x169 h169 hP169
        obtain ⟨er169, W169, X169⟩ := hP169
        subst er169
        rw [show (sp_eliminantDegree (p, c, hs, tx, L) 0).2 = (p, c, hs, tx, L) from sp_m_2] at W169
        refine wp_i2l dX9_digest_172 zedeg_in (wp_ladd dX9_digest_173 ?_)
        refine wp_lstoren 1 rfl rfl rfl (by decide) dX9_digest_174 (wp_iconst dX9_digest_175 (w_istore3 dX9_digest_176 rfl (by decide) ?_))
        refine L177 _ 0 _ _ _ rfl (Nat.zero_le _) rfl W169 (zFX_t (zFX_t (zFX_t (zFX_t (zFX_t (zFX_t (zFX_t (zFX_t hXn X82) X94) X107) X120) X132) X144) X156) X169) ?_ (by omega)
        rw [hx, show i = 7 by omega]
        rfl
      · skip
        refine wp_lloadn 1 rfl rfl dX9_digest_74 ?_
        refine r_l dX9_digest_75 rfl meX9_digest ?_
        refine zPX_q Wn hXn (zif_y (by omega)) ?_
        rw [hx, show i = 7 by omega]
        rfl
    · skip
      refine wp_ldc2 dX9_digest_12 kc_RX9_248 (wp_lloadn 1 rfl rfl dX9_digest_15 (wp_lmul dX9_digest_16 (w_aload0 dX9_digest_17 (w_iload3 dX9_digest_18 ?_))))
      apply v_i1 (M := mX9_digest) dX9_digest_19 lk_RX9_250 mvX9_count (by decide) meX9_digest is_1 (Nat.le_of_ble_eq_true rfl)
      · exact t_X9_count hW hzi
      intro x19 h19 hP19
      obtain ⟨er19, W19, X19⟩ := hP19
      subst er19
      refine wp_i2l dX9_digest_22 (zcount_in hW vi) (wp_ladd dX9_digest_23 ?_)
      refine wp_lstoren 1 rfl rfl rfl (by decide) dX9_digest_24 (w_iinc3 dX9_digest_25 rfl (by decide) (wp_goto 6 dX9_digest_28 rfl ?_))
      refine ih6 _ (by omega) (i + 1) _ _ _ rfl (by omega) (by omega) W19 (zFX_t hX X19) ?_
      rw [hx, hvi]
      rfl
  refine wp_ldc2 dX9_digest_0 kc_RX9_246 ?_
  refine wp_lstoren 1 rfl rfl rfl (by decide) dX9_digest_3 (wp_iconst dX9_digest_4 (w_istore3 dX9_digest_5 rfl (by decide) ?_))
  exact L6 _ 0 _ _ _ rfl (Nat.zero_le _) rfl H zFX_r rfl
