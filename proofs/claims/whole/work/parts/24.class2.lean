
theorem zFX_t {h h1 h2 : zH} (a : zFX h h1) (b : zFX h1 h2) : zFX h h2 := fun x j hx => (b x j hx).trans (a x j hx)
theorem zWd_sv {p : Int} {c : Nat → Nat → Int} {hs : List (Int × (Nat → Nat → Int))} {tx : Nat → Int} {L : Nat} {h h' : zH} (W : zWd p c hs tx L h) (f : zFr zFSv h h') (a : zRk p c h') (b : h' 78 14 = 1) (d : zSv p c h') : zWd p c hs tx L h' ∧ zFX h h' := by
  obtain ⟨h1, h2, h3, h4, c1, c2, c3, c4, c5, c6⟩ := id W
  exact ⟨zWd_q W ⟨zRo_fr h1.p.2 c1 (fun a j ha => f _ _ (by unfold zFSv; omega)), zMx_fr c2 (fun a j ha => f _ _ (by unfold zFSv; omega)), a, Or.inr ⟨b, d⟩, zEx_fr c5 (fun a j ha => f _ _ (by unfold zFSv; omega)), zRx_fr c6 (fun a j ha => f _ _ (by unfold zFSv; omega))⟩ (fun a j ha => f _ _ (by unfold zFq at ha; unfold zFSv; omega)), fun a j ha => f _ _ (by unfold zFSv; omega)⟩
theorem zWd_ex {p : Int} {c : Nat → Nat → Int} {hs : List (Int × (Nat → Nat → Int))} {tx : Nat → Int} {L : Nat} {t : Nat} {h h' : zH} (W : zWd p c hs tx L h) (f : zFr (zFRk t) h h') (a : zRk p c h') : zWd p c hs tx L h' ∧ zFX h h' := by
  obtain ⟨h1, h2, h3, h4, c1, c2, c3, c4, c5, c6⟩ := id W
  exact ⟨zWd_q W ⟨zRo_fr h1.p.2 c1 (fun a j ha => f _ _ (by unfold zFRk; omega)), zMx_fr c2 (fun a j ha => f _ _ (by unfold zFRk; omega)), a, zSx_fr c4 (fun a j ha => f _ _ (by unfold zFRk; omega)), zEx_fr c5 (fun a j ha => f _ _ (by unfold zFRk; omega)), zRx_fr c6 (fun a j ha => f _ _ (by unfold zFRk; omega))⟩ (fun a j ha => f _ _ (by unfold zFq at ha; unfold zFRk; omega)), fun a j ha => f _ _ (by unfold zFRk; omega)⟩
theorem zWd_ro {p : Int} {c : Nat → Nat → Int} {hs : List (Int × (Nat → Nat → Int))} {tx : Nat → Int} {L : Nat} {h h' : zH} (W : zWd p c hs tx L h) (f : zFr zFRo h h') (a : zRo p c h') : zWd p c hs tx L h' ∧ zFX h h' := by
  obtain ⟨h1, h2, h3, h4, c1, c2, c3, c4, c5, c6⟩ := id W
  exact ⟨zWd_q W ⟨a, zMx_fr c2 (fun a j ha => f _ _ (by unfold zFRo; omega)), zRk_fr c3 (fun a j ha => f _ _ (by unfold zFRo; omega)), zSx_fr c4 (fun a j ha => f _ _ (by unfold zFRo; omega)), zEx_fr c5 (fun a j ha => f _ _ (by unfold zFRo; omega)), zRx_fr c6 (fun a j ha => f _ _ (by unfold zFRo; omega))⟩ (fun a j ha => f _ _ (by unfold zFq at ha; unfold zFRo; omega)), fun a j ha => f _ _ (by unfold zFRo; omega)⟩
theorem zWd_mu {p : Int} {c : Nat → Nat → Int} {hs : List (Int × (Nat → Nat → Int))} {tx : Nat → Int} {L : Nat} {h h' : zH} (W : zWd p c hs tx L h) (f : zFr (fun a _ => a = 185) h h') : zWd p c hs tx L h' ∧ zFX h h' := by
  obtain ⟨h1, h2, h3, h4, c1, c2, c3, c4, c5, c6⟩ := id W
  exact ⟨zWd_q W ⟨zRo_fr h1.p.2 c1 (fun a j ha => f _ _ (by omega)), zMx_fr c2 (fun a j ha => f _ _ (by omega)), zRk_fr c3 (fun a j ha => f _ _ (by omega)), zSx_fr c4 (fun a j ha => f _ _ (by omega)), zEx_fr c5 (fun a j ha => f _ _ (by omega)), zRx_fr c6 (fun a j ha => f _ _ (by omega))⟩ (fun a j ha => f _ _ (by unfold zFq at ha; omega)), fun a j ha => f _ _ (by omega)⟩
theorem zmon_in {p : Int} (hp : 0 < p) {f : Nat → Int} {e : Nat} : 0 ≤ zmon p f e ∧ zmon p f e < p := z_mod hp _
theorem zform_in {p : Int} (hp : 1 < p) {c : Nat → Nat → Int} {b : Int} (e : Nat) : 0 ≤ zform p c b e ∧ zform p c b e < p := by
  unfold zform
  split
  · exact zWp_in hp e
  · exact zmon_in (by omega)
theorem z_is34 {r : Nat} {b : Int} (h : r = if b = 0 then 183 else 184) : zIs zN r (10, 49) := by
  rw [h]
  split
  · exact is_183
  · exact is_184
theorem zRtI_lt {p : Int} {c : Nat → Nat → Int} {t : Int} {x x' y : Nat} (hy : (y : Int) < p) (hR : zRt p c t (x : Int) y) (hx : x < x') : zsumN (zcx p c t) x + zct (zRt p c t (x : Int)) y < zsumN (zcx p c t) x' := by
  have h1 : zsumN (zcx p c t) (x + 1) ≤ zsumN (zcx p c t) x' := zsumN_mono x' hx
  have h2 : zct (zRt p c t (x : Int)) (y + 1) ≤ zct (zRt p c t (x : Int)) p.toNat := zct_mono _ (by omega)
  rw [zct_y (P := zRt p c t (x : Int)) hR] at h2
  have h3 : zsumN (zcx p c t) (x + 1) = zsumN (zcx p c t) x + zct (zRt p c t (x : Int)) p.toNat := rfl
  omega
theorem zRtI_u {p : Int} {c : Nat → Nat → Int} {t : Int} {i : Nat} {r r' : Int} (h : zRtI p c t i r) (h' : zRtI p c t i r') : r = r' := by
  rcases h with ⟨x, y, a1, a2, a3, a4, a5⟩ | ⟨a1, a2⟩
  · rcases h' with ⟨x', y', b1, b2, b3, b4, b5⟩ | ⟨b1, b2⟩
    · have e1 : x = x' := by
        rcases Nat.lt_trichotomy x x' with q | q | q
        · have := zRtI_lt a2 a3 q
          omega
        · exact q
        · have := zRtI_lt b2 b3 q
          omega
      subst e1
      have e2 : y = y' := by
        rcases Nat.lt_trichotomy y y' with q | q | q
        · have h2 : zct (zRt p c t (x : Int)) (y + 1) ≤ zct (zRt p c t (x : Int)) y' := zct_mono _ q
          rw [zct_y (P := zRt p c t (x : Int)) a3] at h2
          omega
        · exact q
        · have h2 : zct (zRt p c t (x : Int)) (y' + 1) ≤ zct (zRt p c t (x : Int)) y := zct_mono _ q
          rw [zct_y (P := zRt p c t (x : Int)) b3] at h2
          omega
      subst e2
      rw [a5, b5]
    · have := zRtI_lt (x' := p.toNat) a2 a3 (by omega)
      unfold zcn at b1
      omega
  · rcases h' with ⟨x', y', b1, b2, b3, b4, b5⟩ | ⟨b1, b2⟩
    · have := zRtI_lt (x' := p.toNat) b2 b3 (by omega)
      unfold zcn at a1
      omega
    · rw [a2, b2]
theorem zrtF_eq {p : Int} {c : Nat → Nat → Int} {t : Int} {i : Nat} {r : Int} (h : zRtI p c t i r) : r = zrtF p c t i := zRtI_u h (Classical.epsilon_spec ⟨r, h⟩)
theorem zrat_in {p : Int} (hp : 0 < p) {R : Nat → Int} {n : Nat} : zrat p R n = -9 ∨ (0 ≤ zrat p R n ∧ zrat p R n < p) := by
  unfold zrat
  split
  · exact Or.inl rfl
  · exact Or.inr (z_mod hp _)
theorem zabs_in {p : Int} (hp : 0 < p) {c : Nat → Nat → Int} {t : Nat} : zabs p c t = -9 ∨ (0 ≤ zabs p c t ∧ zabs p c t < p) := by
  unfold zabs
  split
  · exact zrat_in hp
  · exact Or.inl rfl
theorem zord_in {p : Int} (hp : 0 < p) {c : Nat → Nat → Int} {t : Nat} : zord p c t = -9 ∨ (0 ≤ zord p c t ∧ zord p c t < p) := by
  unfold zord
  split
  · exact zrat_in hp
  · exact Or.inl rfl
theorem zif_2 {s t : zS} {P : Prop} {a b : Int × zS} (ha : a.2 = t) (hb : b.2 = t) : (zif P a b).2 = t := by
  by_cases h : P
  · rw [zif_y h]; exact ha
  · rw [zif_n h]; exact hb
theorem sp_m_2 {s : zS} {v : Int} : (sp_m s v).2 = s := zif_2 (s := s) rfl rfl
theorem sp_mt_2 {s : zS} {t v : Int} : (sp_mt s t v).2 = s := zif_2 (s := s) (zif_2 (s := s) rfl rfl) rfl
theorem sp_size_2 {s : zS} : (sp_size s).2 = s := zif_2 (s := s) rfl rfl
theorem sp_eliminant_2 {s : zS} {b e : Int} : (sp_eliminant s b e).2 = s := zif_2 (s := s) sp_m_2 rfl
/-! ===== bounds of answers ===== -/
theorem zin_sm {v : Int} (h : -100000 ≤ v ∧ v ≤ 100000) : zin v := ⟨by omega, by omega⟩
theorem zin_if {P : Prop} {s t : zS} {a b : Int × zS} (ha : zin a.1) (hb : zin b.1) : zin (zif P a b).1 := by
  by_cases h : P
  · rw [zif_y h]; exact ha
  · rw [zif_n h]; exact hb
theorem zin_m {s : zS} {v : Int} (h : zin v) : zin (sp_m s v).1 := zin_if (s := s) (t := s) ⟨by show -2147483648 ≤ (-2 : Int); decide, by show (-2 : Int) < 2147483648; decide⟩ h
theorem zin_mt {s : zS} {t v : Int} (h : zin v) : zin (sp_mt s t v).1 := zin_if (s := s) (t := s) (zin_m (s := s) h) ⟨by show -2147483648 ≤ (-1 : Int); decide, by show (-1 : Int) < 2147483648; decide⟩
theorem zmk_zin {P : Nat → Prop} {n : Nat} (h : n ≤ 31) : zin (zmk P n : Int) := by
  have := zmk_b8 (P := P) h
  exact ⟨by omega, by omega⟩
theorem ztot_in (c : Nat → Nat → Int) : 0 ≤ ztot c ∧ ztot c ≤ 81 := by
  have h0 := zcnt_in (c 0) 27
  have h1 := zcnt_in (c 1) 27
  have h2 := zcnt_in (c 2) 27
  unfold ztot
  omega
theorem zpairs_in {p : Int} (hp : p ≤ 31) {c : Nat → Nat → Int} : zpairs p c ≤ 29791 := by
  unfold zpairs
  have h1 := zsumN_le (f := fun t => zcn p c (t : Int)) (M := 961) p.toNat (fun i _ => zcn_le hp)
  omega
theorem zcount_in {p : Int} {c : Nat → Nat → Int} {hs : List (Int × (Nat → Nat → Int))} {tx : Nat → Int} {L : Nat} {h : zH} (W : zWd p c hs tx L h) (w : Int) : zin (zcount (p, c, hs, tx, L) w) := by
  have h1 := W.1.p
  have h2 := zgd_le c 0
  have h3 := zgd_le c 1
  have h4 := W.2.2.2.1.2.1
  obtain ⟨nx, -, -, -, h5, -⟩ := W.2.2.1.1
  have h6 := ztot_in c
  have h7 := zpairs_in (c := c) h1.2
  refine zin_sm ?_
  unfold zcount
  dsimp only
  (repeat' split) <;> omega
theorem zdrops_in {p : Int} {c : Nat → Nat → Int} (hs : zSt p c) {h : List (Int × (Nat → Nat → Int))} {tx : Nat → Int} {L : Nat} : zin (sp_degreeDrops (p, c, h, tx, L)).1 := zmk_zin (by have := hs.p; show p.toNat ≤ 31; omega)
theorem zsolv_in {p : Int} {c : Nat → Nat → Int} (hs : zSt p c) {h : List (Int × (Nat → Nat → Int))} {tx : Nat → Int} {L : Nat} : zin (sp_solvable (p, c, h, tx, L)).1 := zmk_zin (by have := hs.p; show p.toNat ≤ 31; omega)
theorem zsize_in {s : zS} : zin (sp_size s).1 := by
  have := zsd_le s.2.1
  exact zin_if (s := s) (t := s) ⟨by show -2147483648 ≤ (-2 : Int); decide, by show (-2 : Int) < 2147483648; decide⟩ ⟨by show -2147483648 ≤ ((zsd s.2.1 : Nat) : Int); omega, by show ((zsd s.2.1 : Nat) : Int) < 2147483648; omega⟩
theorem zrank_in {s : zS} : zin (sp_rank s).1 := zin_m (zin_sm (by
  have h1 := zsd_le s.2.1
  have h2 := zgt_le (p := s.1) (c := s.2.1) s.1.toNat
  unfold zgP
  omega))
theorem zpivot_in {p : Int} {c : Nat → Nat → Int} (hs : zSt p c) {h : List (Int × (Nat → Nat → Int))} {tx : Nat → Int} {L : Nat} : zin (sp_pivotPoint (p, c, h, tx, L)).1 := zin_m (zin_sm (by
  have h1 := hs.p
  have h2 := zpv_lt (p := p) (c := c) p.toNat (by omega)
  show -100000 ≤ ((zpv p c p.toNat : Nat) : Int) ∧ ((zpv p c p.toNat : Nat) : Int) ≤ 100000
  omega))
theorem zsel_in {s : zS} {b : Int} : zin (sp_selected s b).1 := zin_m (by
  have h1 := zsd_le s.2.1
  split
  · exact zmk_zin (by omega)
  · exact zmk_zin (by omega))
theorem zrdr_in {p : Int} {c : Nat → Nat → Int} (hs : zSt p c) {h : List (Int × (Nat → Nat → Int))} {tx : Nat → Int} {L : Nat} : zin (sp_rankDrops (p, c, h, tx, L)).1 := zin_m (zmk_zin (by have := hs.p; show p.toNat ≤ 31; omega))
theorem zcond_in {s : zS} : zin (sp_condition s).1 := zin_m (by split <;> exact ⟨by decide, by decide⟩)
theorem zextr_in {p : Int} {c : Nat → Nat → Int} (hs : zSt p c) {h : List (Int × (Nat → Nat → Int))} {tx : Nat → Int} {L : Nat} : zin (sp_extraneous (p, c, h, tx, L)).1 := zin_m (zmk_zin (by have := hs.p; show p.toNat ≤ 31; omega))
theorem zedeg_in {s : zS} {b : Int} : zin (sp_eliminantDegree s b).1 := zin_m (zin_sm (by
  have := ztop_lt (f := zform s.1 s.2.1 b) 49 (by decide)
  omega))
theorem zelim_in {p : Int} {c : Nat → Nat → Int} (hs : zSt p c) {h : List (Int × (Nat → Nat → Int))} {tx : Nat → Int} {L : Nat} {b e : Int} : zin (sp_eliminant (p, c, h, tx, L) b e).1 := zin_if (s := (p, c, h, tx, L)) (t := (p, c, h, tx, L)) (zin_m (zin_sm (by
  have h1 := hs.p
  have h2 := zform_in (p := p) (by omega) (c := c) (b := b) e.toNat
  show -100000 ≤ zform p c b e.toNat ∧ zform p c b e.toNat ≤ 100000
  omega))) ⟨by show -2147483648 ≤ (-1 : Int); decide, by show (-1 : Int) < 2147483648; decide⟩
theorem zconf_in {s : zS} {t : Int} : zin (sp_confirmed s t).1 := zin_mt (zin_sm (by
  unfold zcfv
  by_cases h : zcfm s.1 s.2.1 t
  · rw [zif_y h]; decide
  · rw [zif_n h]; decide))

set_option maxRecDepth 100000 in
set_option maxHeartbeats 4000000 in
theorem t_X9_size {h : zH} {p : Int} {c : Nat → Nat → Int} {hs : List (Int × (Nat → Nat → Int))} {tx : Nat → Int} {L : Nat} (H : zWd p c hs tx L h) : CI yX9_size mX9_size [vR 1] h (fun r h' => zPX (sp_size (p, c, hs, tx, L)) h r h') := by
  refine inV [some (vR 1)] mvX9_size rfl (Nat.le_of_ble_eq_true rfl) rfl ?_
  obtain ⟨hs1, hP, hH, hT, hC⟩ := id H
  have hp := hs1.p
  have hp0 : h 2 0 = p := hP.1
  have hpp : 0 < p := by omega
  have L19 : ∀ (h' : zH) (v : Int), (zWd p c hs tx L h') → (zFX h h') → (v = if zsd c = 0 then -2 else (zsd c : Int)) → WP mX9_size (zMQ mX9_size (zKI (fun r h' => zPX (sp_size (p, c, hs, tx, L)) h r h'))) 19 [none] [vI v] zN zGR h' := by
    intro h' v hW hX hv
    refine r_i dX9_size_19 rfl meX9_size ?_
    by_cases e : zsd c = 0
    · rw [if_pos e] at hv
      exact zPX_q hW hX (zif_y e) hv
    · rw [if_neg e] at hv
      exact zPX_q hW hX (zif_n e) hv
  refine w_aload0 dX9_size_0 ?_
  apply v_i0 (M := mX9_size) dX9_size_1 lk_RX9_159 mvX9_noMatrix (by decide) meX9_size is_1 (Nat.le_of_ble_eq_true rfl)
  · exact t_X9_noMatrix H
  intro x1 h1 hP1
  obtain ⟨Xn, Wn, r73, Dn, bn, iN⟩ := hP1
  obtain ⟨sn, Pn, Hn, Tn, cn1, cn2, cn3, cn4, cn5, cn6⟩ := id Wn
  refine wp_if_eq 12 dX9_size_4 rfl ⟨by omega, by omega⟩ (fun c4 => ?_) (fun c4 => ?_)
  · skip
    refine w_aload0 dX9_size_12 (wp_getr 7 dX9_size_13 fl_RX9_47 is_1 rfl (wp_geti dX9_size_16 fl_RX9_163 is_7 ?_))
    refine w_forget0 ?_
    first | exact L19 _ _ Wn Xn (by rw [if_pos (by omega)]) | exact L19 _ _ Wn Xn (by rw [if_neg (by omega)]; exact Dn.2.2.1)
  · skip
    refine wp_bipush dX9_size_7 (by decide) (wp_goto 19 dX9_size_9 rfl ?_)
    refine w_forget0 ?_
    first | exact L19 _ _ Wn Xn (by rw [if_pos (by omega)]) | exact L19 _ _ Wn Xn (by rw [if_neg (by omega)]; exact Dn.2.2.1)
set_option maxRecDepth 100000 in
set_option maxHeartbeats 4000000 in
theorem t_X9_entry {h : zH} {p : Int} {c : Nat → Nat → Int} {hs : List (Int × (Nat → Nat → Int))} {tx : Nat → Int} {L : Nat} (H : zWd p c hs tx L h) {ro q e : Int} (zro : zin ro) (zq : zin q) (ze : zin e) : CI yX9_entry mX9_entry [vR 1, vI ro, vI q, vI e] h (fun r h' => zPX (sp_entry (p, c, hs, tx, L) ro q e) h r h') := by
  refine inV [some (vR 1), some (vI ro), some (vI q), some (vI e)] mvX9_entry rfl (Nat.le_of_ble_eq_true rfl) rfl ?_
  obtain ⟨hs1, hP, hH, hT, hC⟩ := id H
  have hp := hs1.p
  have hp0 : h 2 0 = p := hP.1
  have hpp : 0 < p := by omega
  have zro1 := zro.1
  have zro2 := zro.2
  have zq1 := zq.1
  have zq2 := zq.2
  have ze1 := ze.1
  have ze2 := ze.2
  refine w_iload3 dX9_entry_0 (wp_bipush dX9_entry_1 (by decide) ?_)
  apply s_i2 (M := mX9_entry) dX9_entry_3 lk_RX9_84 mvX9_outside (by decide) meX9_entry (Nat.le_of_ble_eq_true rfl)
  · exact t_X9_outside ze ⟨by omega, by omega⟩
  intro x3 h3 hP3
  obtain ⟨eh3, hP3⟩ := hP3
  replace eh3 := eh3.symm
  subst eh3
  refine wp_if_eq 11 dX9_entry_6 rfl ⟨by omega, by omega⟩ (fun c6 => ?_) (fun c6 => ?_)
  · skip
    refine w_aload0 dX9_entry_11 ?_
    apply v_i0 (M := mX9_entry) dX9_entry_12 lk_RX9_159 mvX9_noMatrix (by decide) meX9_entry is_1 (Nat.le_of_ble_eq_true rfl)
    · exact t_X9_noMatrix H
    intro x12 h12 hP12
    obtain ⟨Xn, Wn, r73, Dn, bn, iN⟩ := hP12
    obtain ⟨sn, Pn, Hn, Tn, cn1, cn2, cn3, cn4, cn5, cn6⟩ := id Wn
    refine wp_if_eq 21 dX9_entry_15 rfl ⟨by omega, by omega⟩ (fun c15 => ?_) (fun c15 => ?_)
    · skip
      refine w_iload1 dX9_entry_21 (w_aload0 dX9_entry_22 (wp_getr 7 dX9_entry_23 fl_RX9_47 is_1 rfl (wp_geti dX9_entry_26 fl_RX9_163 is_7 (wp_iconst dX9_entry_29 (wp_isub dX9_entry_30 ?_)))))
      rw [Dn.2.2.1]
      have hsl := zsd_le c
      apply s_i2 (M := mX9_entry) dX9_entry_31 lk_RX9_84 mvX9_outside (by decide) meX9_entry (Nat.le_of_ble_eq_true rfl)
      · exact t_X9_outside zro ⟨by omega, by omega⟩
      intro x31 h31 hP31
      obtain ⟨eh31, hP31⟩ := hP31
      replace eh31 := eh31.symm
      subst eh31
      refine wp_if_ne 53 dX9_entry_34 rfl ⟨by omega, by omega⟩ (fun c34 => ?_) (fun c34 => ?_)
      · skip
        refine wp_iconst dX9_entry_53 ?_
        refine r_i dX9_entry_54 rfl meX9_entry ?_
        exact zPX_q Wn Xn ((zif_y (by first | omega | (dsimp only; omega))).trans ((zif_n (by first | omega | (dsimp only; omega))).trans (zif_n (by unfold zoS; dsimp only; omega)))) rfl
      · skip
        refine w_iload2 dX9_entry_37 (w_aload0 dX9_entry_38 (wp_getr 7 dX9_entry_39 fl_RX9_47 is_1 rfl (wp_geti dX9_entry_42 fl_RX9_163 is_7 (wp_iconst dX9_entry_45 (wp_isub dX9_entry_46 ?_)))))
        rw [Dn.2.2.1]
        apply s_i2 (M := mX9_entry) dX9_entry_47 lk_RX9_84 mvX9_outside (by decide) meX9_entry (Nat.le_of_ble_eq_true rfl)
        · exact t_X9_outside zq ⟨by omega, by omega⟩
        intro x47 h47 hP47
        obtain ⟨eh47, hP47⟩ := hP47
        replace eh47 := eh47.symm
        subst eh47
        refine wp_if_eq 55 dX9_entry_50 rfl ⟨by omega, by omega⟩ (fun c50 => ?_) (fun c50 => ?_)
        · skip
          refine w_aload0 dX9_entry_55 (wp_getr 7 dX9_entry_56 fl_RX9_47 is_1 rfl (w_iload1 dX9_entry_59 (w_iload2 dX9_entry_60 (w_iload3 dX9_entry_61 ?_))))
          apply v_i3 (M := mX9_entry) dX9_entry_62 lk_RX9_166 mvX0_termAt (by decide) meX9_entry is_7 (Nat.le_of_ble_eq_true rfl)
          · exact t_X0_termAt (q := 8 * ro.toNat + q.toNat) (e := e.toNat) (by omega) (by omega) (by omega) (by omega) (by omega) (by omega)
          intro x62 h62 hP62
          obtain ⟨eh62, ex62⟩ := hP62
          replace eh62 := eh62.symm
          subst eh62
          replace ex62 := ex62.symm
          subst ex62
          refine r_i dX9_entry_65 rfl meX9_entry ?_
          exact zPX_q Wn Xn ((zif_y (by first | omega | (dsimp only; omega))).trans ((zif_n (by first | omega | (dsimp only; omega))).trans (zif_y (by unfold zoS; dsimp only; omega)))) (by rw [if_pos (show e.toNat < 7 by omega)]; exact Dn.2.2.2 (8 * ro.toNat + q.toNat) (by omega) e.toNat (by omega))
        · skip
          refine wp_iconst dX9_entry_53 ?_
          refine r_i dX9_entry_54 rfl meX9_entry ?_
          exact zPX_q Wn Xn ((zif_y (by first | omega | (dsimp only; omega))).trans ((zif_n (by first | omega | (dsimp only; omega))).trans (zif_n (by unfold zoS; dsimp only; omega)))) rfl
    · skip
      refine wp_bipush dX9_entry_18 (by decide) ?_
      refine r_i dX9_entry_20 rfl meX9_entry ?_
      exact zPX_q Wn Xn ((zif_y (by first | omega | (dsimp only; omega))).trans (zif_y (by first | omega | (dsimp only; omega)))) rfl
  · skip
    refine wp_iconst dX9_entry_9 ?_
    refine r_i dX9_entry_10 rfl meX9_entry ?_
    exact zPX_q H zFX_r (zif_n (by first | omega | (dsimp only; omega))) rfl
set_option maxRecDepth 100000 in
set_option maxHeartbeats 4000000 in
theorem t_X9_entryAt {h : zH} {p : Int} {c : Nat → Nat → Int} {hs : List (Int × (Nat → Nat → Int))} {tx : Nat → Int} {L : Nat} (H : zWd p c hs tx L h) {ro q t : Int} (zro : zin ro) (zq : zin q) (zt : zin t) : CI yX9_entryAt mX9_entryAt [vR 1, vI ro, vI q, vI t] h (fun r h' => zPX (sp_entryAt (p, c, hs, tx, L) ro q t) h r h') := by
  refine inV [some (vR 1), some (vI ro), some (vI q), some (vI t)] mvX9_entryAt rfl (Nat.le_of_ble_eq_true rfl) rfl ?_
  obtain ⟨hs1, hP, hH, hT, hC⟩ := id H
  have hp := hs1.p
  have hp0 : h 2 0 = p := hP.1
  have hpp : 0 < p := by omega
  have zro1 := zro.1
  have zro2 := zro.2
  have zq1 := zq.1
  have zq2 := zq.2
  have zt1 := zt.1
  have zt2 := zt.2
  refine w_iload3 dX9_entryAt_0 (w_aload0 dX9_entryAt_1 (wp_getr 2 dX9_entryAt_2 fl_RX9_20 is_1 rfl (wp_geti dX9_entryAt_5 fl_RX9_68 is_2 (wp_iconst dX9_entryAt_8 (wp_isub dX9_entryAt_9 ?_)))))
  rw [hp0]
  apply s_i2 (M := mX9_entryAt) dX9_entryAt_10 lk_RX9_84 mvX9_outside (by decide) meX9_entryAt (Nat.le_of_ble_eq_true rfl)
  · exact t_X9_outside zt ⟨by omega, by omega⟩
  intro x10 h10 hP10
  obtain ⟨eh10, hP10⟩ := hP10
  replace eh10 := eh10.symm
  subst eh10
  refine wp_if_eq 18 dX9_entryAt_13 rfl ⟨by omega, by omega⟩ (fun c13 => ?_) (fun c13 => ?_)
  · skip
    refine w_aload0 dX9_entryAt_18 ?_
    apply v_i0 (M := mX9_entryAt) dX9_entryAt_19 lk_RX9_159 mvX9_noMatrix (by decide) meX9_entryAt is_1 (Nat.le_of_ble_eq_true rfl)
    · exact t_X9_noMatrix H
    intro x19 h19 hP19
    obtain ⟨Xn, Wn, r73, Dn, bn, iN⟩ := hP19
    obtain ⟨sn, Pn, Hn, Tn, cn1, cn2, cn3, cn4, cn5, cn6⟩ := id Wn
    refine wp_if_eq 28 dX9_entryAt_22 rfl ⟨by omega, by omega⟩ (fun c22 => ?_) (fun c22 => ?_)
    · skip
      refine w_iload1 dX9_entryAt_28 (w_aload0 dX9_entryAt_29 (wp_getr 7 dX9_entryAt_30 fl_RX9_47 is_1 rfl (wp_geti dX9_entryAt_33 fl_RX9_163 is_7 (wp_iconst dX9_entryAt_36 (wp_isub dX9_entryAt_37 ?_)))))
      rw [Dn.2.2.1]
      have hsl := zsd_le c
      apply s_i2 (M := mX9_entryAt) dX9_entryAt_38 lk_RX9_84 mvX9_outside (by decide) meX9_entryAt (Nat.le_of_ble_eq_true rfl)
      · exact t_X9_outside zro ⟨by omega, by omega⟩
      intro x38 h38 hP38
      obtain ⟨eh38, hP38⟩ := hP38
      replace eh38 := eh38.symm
      subst eh38
      refine wp_if_ne 60 dX9_entryAt_41 rfl ⟨by omega, by omega⟩ (fun c41 => ?_) (fun c41 => ?_)
      · skip
        refine wp_iconst dX9_entryAt_60 ?_
        refine r_i dX9_entryAt_61 rfl meX9_entryAt ?_
        exact zPX_q Wn Xn ((zif_y (by first | omega | (dsimp only; omega))).trans ((zif_n (by first | omega | (dsimp only; omega))).trans (zif_n (by unfold zoS; dsimp only; omega)))) rfl
      · skip
        refine w_iload2 dX9_entryAt_44 (w_aload0 dX9_entryAt_45 (wp_getr 7 dX9_entryAt_46 fl_RX9_47 is_1 rfl (wp_geti dX9_entryAt_49 fl_RX9_163 is_7 (wp_iconst dX9_entryAt_52 (wp_isub dX9_entryAt_53 ?_)))))
        rw [Dn.2.2.1]
        apply s_i2 (M := mX9_entryAt) dX9_entryAt_54 lk_RX9_84 mvX9_outside (by decide) meX9_entryAt (Nat.le_of_ble_eq_true rfl)
        · exact t_X9_outside zq ⟨by omega, by omega⟩
        intro x54 h54 hP54
        obtain ⟨eh54, hP54⟩ := hP54
        replace eh54 := eh54.symm
        subst eh54
        refine wp_if_eq 62 dX9_entryAt_57 rfl ⟨by omega, by omega⟩ (fun c57 => ?_) (fun c57 => ?_)
        · skip
          refine w_aload0 dX9_entryAt_62 (wp_getr 7 dX9_entryAt_63 fl_RX9_47 is_1 rfl (w_iload1 dX9_entryAt_66 (w_iload2 dX9_entryAt_67 ?_)))
          apply v_r2 (M := mX9_entryAt) dX9_entryAt_68 lk_RX9_169 mvX0_at (by decide) meX9_entryAt is_7 (Nat.le_of_ble_eq_true rfl)
          · exact t_X0_at (q := 8 * ro.toNat + q.toNat) (by omega) (by omega) (by omega) (by omega)
          intro x68 h68 hP68
          obtain ⟨eh68, ex68⟩ := hP68
          replace eh68 := eh68.symm
          subst eh68
          replace ex68 := ex68.symm
          subst ex68
          refine w_iload3 dX9_entryAt_71 (w_aload0 dX9_entryAt_72 (wp_getr 2 dX9_entryAt_73 fl_RX9_20 is_1 rfl (wp_geti dX9_entryAt_76 fl_RX9_68 is_2 ?_)))
          rw [Pn.1]
          apply s_i3 (M := mX9_entryAt) dX9_entryAt_79 lk_RX9_173 mvX3_horner (by decide) meX9_entryAt (Nat.le_of_ble_eq_true rfl)
          · exact t_X3_horner (z_is9 (q := 8 * ro.toNat + q.toNat) (by omega)) (by omega) (by omega) (fun j hj => (by have := zDx_E hpp Dn (8 * ro.toNat + q.toNat) (by omega) j hj; omega))
          intro x79 h79 hP79
          obtain ⟨eh79, ex79⟩ := hP79
          replace eh79 := eh79.symm
          subst eh79
          replace ex79 := ex79.symm
          subst ex79
          refine r_i dX9_entryAt_82 rfl meX9_entryAt ?_
          exact zPX_q Wn Xn ((zif_y (by first | omega | (dsimp only; omega))).trans ((zif_n (by first | omega | (dsimp only; omega))).trans (zif_y (by unfold zoS; dsimp only; omega)))) (zhor_congr 7 _ (zEn p c (8 * ro.toNat + q.toNat)) (fun j hj => Dn.2.2.2 (8 * ro.toNat + q.toNat) (by omega) j hj))
        · skip
          refine wp_iconst dX9_entryAt_60 ?_
          refine r_i dX9_entryAt_61 rfl meX9_entryAt ?_
          exact zPX_q Wn Xn ((zif_y (by first | omega | (dsimp only; omega))).trans ((zif_n (by first | omega | (dsimp only; omega))).trans (zif_n (by unfold zoS; dsimp only; omega)))) rfl
    · skip
      refine wp_bipush dX9_entryAt_25 (by decide) ?_
      refine r_i dX9_entryAt_27 rfl meX9_entryAt ?_
      exact zPX_q Wn Xn ((zif_y (by first | omega | (dsimp only; omega))).trans (zif_y (by first | omega | (dsimp only; omega)))) rfl
  · skip
    refine wp_iconst dX9_entryAt_16 ?_
    refine r_i dX9_entryAt_17 rfl meX9_entryAt ?_
    exact zPX_q H zFX_r (zif_n (by first | omega | (dsimp only; omega))) rfl
set_option maxRecDepth 100000 in
set_option maxHeartbeats 4000000 in
theorem t_X9_rankAt {h : zH} {p : Int} {c : Nat → Nat → Int} {hs : List (Int × (Nat → Nat → Int))} {tx : Nat → Int} {L : Nat} (H : zWd p c hs tx L h) {t : Int} (zt : zin t) : CI yX9_rankAt mX9_rankAt [vR 1, vI t] h (fun r h' => zPX (sp_rankAt (p, c, hs, tx, L) t) h r h') := by
  refine inV [some (vR 1), some (vI t)] mvX9_rankAt rfl (Nat.le_of_ble_eq_true rfl) rfl ?_
  obtain ⟨hs1, hP, hH, hT, hC⟩ := id H
  have hp := hs1.p
  have hp0 : h 2 0 = p := hP.1
  have hpp : 0 < p := by omega
  have zt1 := zt.1
  have zt2 := zt.2
  refine w_iload1 dX9_rankAt_0 (w_aload0 dX9_rankAt_1 (wp_getr 2 dX9_rankAt_2 fl_RX9_20 is_1 rfl (wp_geti dX9_rankAt_5 fl_RX9_68 is_2 (wp_iconst dX9_rankAt_8 (wp_isub dX9_rankAt_9 ?_)))))
  rw [hp0]
  apply s_i2 (M := mX9_rankAt) dX9_rankAt_10 lk_RX9_84 mvX9_outside (by decide) meX9_rankAt (Nat.le_of_ble_eq_true rfl)
  · exact t_X9_outside zt ⟨by omega, by omega⟩
  intro x10 h10 hP10
  obtain ⟨eh10, hP10⟩ := hP10
  replace eh10 := eh10.symm
  subst eh10
  refine wp_if_eq 18 dX9_rankAt_13 rfl ⟨by omega, by omega⟩ (fun c13 => ?_) (fun c13 => ?_)
  · skip
    refine w_aload0 dX9_rankAt_18 ?_
    apply v_i0 (M := mX9_rankAt) dX9_rankAt_19 lk_RX9_159 mvX9_noMatrix (by decide) meX9_rankAt is_1 (Nat.le_of_ble_eq_true rfl)
    · exact t_X9_noMatrix H
    intro x19 h19 hP19
    obtain ⟨Xn, Wn, r73, Dn, bn, iN⟩ := hP19
    obtain ⟨sn, Pn, Hn, Tn, cn1, cn2, cn3, cn4, cn5, cn6⟩ := id Wn
    refine wp_if_eq 28 dX9_rankAt_22 rfl ⟨by omega, by omega⟩ (fun c22 => ?_) (fun c22 => ?_)
    · skip
      refine w_aload0 dX9_rankAt_28 (wp_getr 78 dX9_rankAt_29 fl_RX9_51 is_1 rfl (w_iload1 dX9_rankAt_32 ?_))
      apply v_v1 (M := mX9_rankAt) dX9_rankAt_33 lk_RX9_177 mvX5_examine (by decide) meX9_rankAt is_78 (Nat.le_of_ble_eq_true rfl)
      · exact t_X5_examine (t := t.toNat) (by omega) hs1 (by omega) Pn Dn (zsd_2 (by omega)) cn3
      intro h33 hP33
      obtain ⟨fx, ax, bx⟩ := hP33
      obtain ⟨Wx, Xx⟩ := zWd_ex Wn fx ax
      have Xx2 := zFX_t Xn Xx
      obtain ⟨k1, k2, k3, k4⟩ := id bx
      refine w_aload0 dX9_rankAt_36 (wp_getr 78 dX9_rankAt_37 fl_RX9_51 is_1 rfl (w_iload1 dX9_rankAt_40 ?_))
      apply v_i1 (M := mX9_rankAt) dX9_rankAt_41 lk_RX9_180 mvX5_rankOf (by decide) meX9_rankAt is_78 (Nat.le_of_ble_eq_true rfl)
      · exact t_X5_rankOf (t := t.toNat) (by omega) (by omega)
      intro x41 h41 hP41
      obtain ⟨eh41, ex41⟩ := hP41
      replace eh41 := eh41.symm
      subst eh41
      replace ex41 := ex41.symm
      subst ex41
      refine r_i dX9_rankAt_44 rfl meX9_rankAt ?_
      exact zPX_q Wx Xx2 ((zif_y (by first | omega | (dsimp only; omega))).trans (zif_n (by first | omega | (dsimp only; omega)))) k1
    · skip
      refine wp_bipush dX9_rankAt_25 (by decide) ?_
      refine r_i dX9_rankAt_27 rfl meX9_rankAt ?_
      exact zPX_q Wn Xn ((zif_y (by first | omega | (dsimp only; omega))).trans (zif_y (by first | omega | (dsimp only; omega)))) rfl
  · skip
    refine wp_iconst dX9_rankAt_16 ?_
    refine r_i dX9_rankAt_17 rfl meX9_rankAt ?_
    exact zPX_q H zFX_r (zif_n (by first | omega | (dsimp only; omega))) rfl
set_option maxRecDepth 100000 in
set_option maxHeartbeats 4000000 in
theorem t_X9_rank {h : zH} {p : Int} {c : Nat → Nat → Int} {hs : List (Int × (Nat → Nat → Int))} {tx : Nat → Int} {L : Nat} (H : zWd p c hs tx L h) : CI yX9_rank mX9_rank [vR 1] h (fun r h' => zPX (sp_rank (p, c, hs, tx, L)) h r h') := by
  refine inV [some (vR 1)] mvX9_rank rfl (Nat.le_of_ble_eq_true rfl) rfl ?_
  obtain ⟨hs1, hP, hH, hT, hC⟩ := id H
  have hp := hs1.p
  have hp0 : h 2 0 = p := hP.1
  have hpp : 0 < p := by omega
  refine w_aload0 dX9_rank_0 ?_
  apply v_i0 (M := mX9_rank) dX9_rank_1 lk_RX9_159 mvX9_noMatrix (by decide) meX9_rank is_1 (Nat.le_of_ble_eq_true rfl)
  · exact t_X9_noMatrix H
  intro x1 h1 hP1
  obtain ⟨Xn, Wn, r73, Dn, bn, iN⟩ := hP1
  obtain ⟨sn, Pn, Hn, Tn, cn1, cn2, cn3, cn4, cn5, cn6⟩ := id Wn
  refine wp_if_eq 10 dX9_rank_4 rfl ⟨by omega, by omega⟩ (fun c4 => ?_) (fun c4 => ?_)
  · skip
    refine w_aload0 dX9_rank_10 (wp_getr 78 dX9_rank_11 fl_RX9_51 is_1 rfl ?_)
    apply v_v0 (M := mX9_rank) dX9_rank_14 lk_RX9_183 mvX5_survey (by decide) meX9_rank is_78 (Nat.le_of_ble_eq_true rfl)
    · exact t_X5_survey hs1 Pn Dn (zsd_2 (by omega)) cn3 cn4
    intro h14 hP14
    obtain ⟨fs, as, bs, ds⟩ := hP14
    obtain ⟨Ws, Xs⟩ := zWd_sv Wn fs as bs ds
    have Xs2 := zFX_t Xn Xs
    obtain ⟨d0, d1, d2, d3, d4, d5⟩ := id ds
    refine w_aload0 dX9_rank_17 (wp_getr 78 dX9_rank_18 fl_RX9_51 is_1 rfl (wp_geti dX9_rank_21 fl_RX9_186 is_78 ?_))
    refine r_i dX9_rank_24 rfl meX9_rank ?_
    exact zPX_q Ws Xs2 (zif_n (by first | omega | (dsimp only; omega))) d0
  · skip
    refine wp_bipush dX9_rank_7 (by decide) ?_
    refine r_i dX9_rank_9 rfl meX9_rank ?_
    exact zPX_q Wn Xn (zif_y (by first | omega | (dsimp only; omega))) rfl
set_option maxRecDepth 100000 in
set_option maxHeartbeats 4000000 in
theorem t_X9_pivotPoint {h : zH} {p : Int} {c : Nat → Nat → Int} {hs : List (Int × (Nat → Nat → Int))} {tx : Nat → Int} {L : Nat} (H : zWd p c hs tx L h) : CI yX9_pivotPoint mX9_pivotPoint [vR 1] h (fun r h' => zPX (sp_pivotPoint (p, c, hs, tx, L)) h r h') := by
  refine inV [some (vR 1)] mvX9_pivotPoint rfl (Nat.le_of_ble_eq_true rfl) rfl ?_
  obtain ⟨hs1, hP, hH, hT, hC⟩ := id H
  have hp := hs1.p
  have hp0 : h 2 0 = p := hP.1
  have hpp : 0 < p := by omega
  refine w_aload0 dX9_pivotPoint_0 ?_
  apply v_i0 (M := mX9_pivotPoint) dX9_pivotPoint_1 lk_RX9_159 mvX9_noMatrix (by decide) meX9_pivotPoint is_1 (Nat.le_of_ble_eq_true rfl)
  · exact t_X9_noMatrix H
  intro x1 h1 hP1
  obtain ⟨Xn, Wn, r73, Dn, bn, iN⟩ := hP1
  obtain ⟨sn, Pn, Hn, Tn, cn1, cn2, cn3, cn4, cn5, cn6⟩ := id Wn
  refine wp_if_eq 10 dX9_pivotPoint_4 rfl ⟨by omega, by omega⟩ (fun c4 => ?_) (fun c4 => ?_)
  · skip
    refine w_aload0 dX9_pivotPoint_10 (wp_getr 78 dX9_pivotPoint_11 fl_RX9_51 is_1 rfl ?_)
    apply v_v0 (M := mX9_pivotPoint) dX9_pivotPoint_14 lk_RX9_183 mvX5_survey (by decide) meX9_pivotPoint is_78 (Nat.le_of_ble_eq_true rfl)
    · exact t_X5_survey hs1 Pn Dn (zsd_2 (by omega)) cn3 cn4
    intro h14 hP14
    obtain ⟨fs, as, bs, ds⟩ := hP14
    obtain ⟨Ws, Xs⟩ := zWd_sv Wn fs as bs ds
    have Xs2 := zFX_t Xn Xs
    obtain ⟨d0, d1, d2, d3, d4, d5⟩ := id ds
    refine w_aload0 dX9_pivotPoint_17 (wp_getr 78 dX9_pivotPoint_18 fl_RX9_51 is_1 rfl (wp_geti dX9_pivotPoint_21 fl_RX9_189 is_78 ?_))
    refine r_i dX9_pivotPoint_24 rfl meX9_pivotPoint ?_
    exact zPX_q Ws Xs2 (zif_n (by first | omega | (dsimp only; omega))) d2
  · skip
    refine wp_bipush dX9_pivotPoint_7 (by decide) ?_
    refine r_i dX9_pivotPoint_9 rfl meX9_pivotPoint ?_
    exact zPX_q Wn Xn (zif_y (by first | omega | (dsimp only; omega))) rfl
set_option maxRecDepth 100000 in
set_option maxHeartbeats 4000000 in
theorem t_X9_selected {h : zH} {p : Int} {c : Nat → Nat → Int} {hs : List (Int × (Nat → Nat → Int))} {tx : Nat → Int} {L : Nat} (H : zWd p c hs tx L h) {b : Int} (zb : b = 0 ∨ b = 1) : CI yX9_selected mX9_selected [vR 1, vI b] h (fun r h' => zPX (sp_selected (p, c, hs, tx, L) b) h r h') := by
  refine inV [some (vR 1), some (vI b)] mvX9_selected rfl (Nat.le_of_ble_eq_true rfl) rfl ?_
  obtain ⟨hs1, hP, hH, hT, hC⟩ := id H
  have hp := hs1.p
  have hp0 : h 2 0 = p := hP.1
  have hpp : 0 < p := by omega
  refine w_aload0 dX9_selected_0 ?_
  apply v_i0 (M := mX9_selected) dX9_selected_1 lk_RX9_159 mvX9_noMatrix (by decide) meX9_selected is_1 (Nat.le_of_ble_eq_true rfl)
  · exact t_X9_noMatrix H
  intro x1 h1 hP1
  obtain ⟨Xn, Wn, r73, Dn, bn, iN⟩ := hP1
  obtain ⟨sn, Pn, Hn, Tn, cn1, cn2, cn3, cn4, cn5, cn6⟩ := id Wn
  refine wp_if_eq 10 dX9_selected_4 rfl ⟨by omega, by omega⟩ (fun c4 => ?_) (fun c4 => ?_)
  · skip
    refine w_aload0 dX9_selected_10 (wp_getr 78 dX9_selected_11 fl_RX9_51 is_1 rfl ?_)
    apply v_v0 (M := mX9_selected) dX9_selected_14 lk_RX9_183 mvX5_survey (by decide) meX9_selected is_78 (Nat.le_of_ble_eq_true rfl)
    · exact t_X5_survey hs1 Pn Dn (zsd_2 (by omega)) cn3 cn4
    intro h14 hP14
    obtain ⟨fs, as, bs, ds⟩ := hP14
    obtain ⟨Ws, Xs⟩ := zWd_sv Wn fs as bs ds
    have Xs2 := zFX_t Xn Xs
    obtain ⟨d0, d1, d2, d3, d4, d5⟩ := id ds
    refine w_iload1 dX9_selected_17 ?_
    refine wp_if_eq 31 dX9_selected_18 rfl ⟨by omega, by omega⟩ (fun c18 => ?_) (fun c18 => ?_)
    · skip
      refine w_aload0 dX9_selected_31 (wp_getr 78 dX9_selected_32 fl_RX9_51 is_1 rfl (wp_geti dX9_selected_35 fl_RX9_195 is_78 ?_))
      refine r_i dX9_selected_38 rfl meX9_selected ?_
      exact zPX_q Ws Xs2 (zif_n (by first | omega | (dsimp only; omega))) (by first | (rw [if_pos (by omega)]; exact d4) | (rw [if_neg (by omega)]; exact d3))
    · skip
      refine w_aload0 dX9_selected_21 (wp_getr 78 dX9_selected_22 fl_RX9_51 is_1 rfl (wp_geti dX9_selected_25 fl_RX9_192 is_78 (wp_goto 38 dX9_selected_28 rfl ?_)))
      refine r_i dX9_selected_38 rfl meX9_selected ?_
      exact zPX_q Ws Xs2 (zif_n (by first | omega | (dsimp only; omega))) (by first | (rw [if_pos (by omega)]; exact d4) | (rw [if_neg (by omega)]; exact d3))
  · skip
    refine wp_bipush dX9_selected_7 (by decide) ?_
    refine r_i dX9_selected_9 rfl meX9_selected ?_
    exact zPX_q Wn Xn (zif_y (by first | omega | (dsimp only; omega))) rfl
set_option maxRecDepth 100000 in
set_option maxHeartbeats 4000000 in
theorem t_X9_rankDrops {h : zH} {p : Int} {c : Nat → Nat → Int} {hs : List (Int × (Nat → Nat → Int))} {tx : Nat → Int} {L : Nat} (H : zWd p c hs tx L h) : CI yX9_rankDrops mX9_rankDrops [vR 1] h (fun r h' => zPX (sp_rankDrops (p, c, hs, tx, L)) h r h') := by
  refine inV [some (vR 1)] mvX9_rankDrops rfl (Nat.le_of_ble_eq_true rfl) rfl ?_
  obtain ⟨hs1, hP, hH, hT, hC⟩ := id H
  have hp := hs1.p
  have hp0 : h 2 0 = p := hP.1
  have hpp : 0 < p := by omega
  refine w_aload0 dX9_rankDrops_0 ?_
  apply v_i0 (M := mX9_rankDrops) dX9_rankDrops_1 lk_RX9_159 mvX9_noMatrix (by decide) meX9_rankDrops is_1 (Nat.le_of_ble_eq_true rfl)
  · exact t_X9_noMatrix H
  intro x1 h1 hP1
  obtain ⟨Xn, Wn, r73, Dn, bn, iN⟩ := hP1
  obtain ⟨sn, Pn, Hn, Tn, cn1, cn2, cn3, cn4, cn5, cn6⟩ := id Wn
  refine wp_if_eq 10 dX9_rankDrops_4 rfl ⟨by omega, by omega⟩ (fun c4 => ?_) (fun c4 => ?_)
  · skip
    refine w_aload0 dX9_rankDrops_10 (wp_getr 78 dX9_rankDrops_11 fl_RX9_51 is_1 rfl ?_)
    apply v_v0 (M := mX9_rankDrops) dX9_rankDrops_14 lk_RX9_183 mvX5_survey (by decide) meX9_rankDrops is_78 (Nat.le_of_ble_eq_true rfl)
    · exact t_X5_survey hs1 Pn Dn (zsd_2 (by omega)) cn3 cn4
    intro h14 hP14
    obtain ⟨fs, as, bs, ds⟩ := hP14
    obtain ⟨Ws, Xs⟩ := zWd_sv Wn fs as bs ds
    have Xs2 := zFX_t Xn Xs
    obtain ⟨d0, d1, d2, d3, d4, d5⟩ := id ds
    refine w_aload0 dX9_rankDrops_17 (wp_getr 78 dX9_rankDrops_18 fl_RX9_51 is_1 rfl (wp_geti dX9_rankDrops_21 fl_RX9_198 is_78 ?_))
    refine r_i dX9_rankDrops_24 rfl meX9_rankDrops ?_
    exact zPX_q Ws Xs2 (zif_n (by first | omega | (dsimp only; omega))) d5
  · skip
    refine wp_bipush dX9_rankDrops_7 (by decide) ?_
    refine r_i dX9_rankDrops_9 rfl meX9_rankDrops ?_
    exact zPX_q Wn Xn (zif_y (by first | omega | (dsimp only; omega))) rfl
set_option maxRecDepth 100000 in
set_option maxHeartbeats 4000000 in
theorem t_X9_condition {h : zH} {p : Int} {c : Nat → Nat → Int} {hs : List (Int × (Nat → Nat → Int))} {tx : Nat → Int} {L : Nat} (H : zWd p c hs tx L h) : CI yX9_condition mX9_condition [vR 1] h (fun r h' => zPX (sp_condition (p, c, hs, tx, L)) h r h') := by
  refine inV [some (vR 1)] mvX9_condition rfl (Nat.le_of_ble_eq_true rfl) rfl ?_
  obtain ⟨hs1, hP, hH, hT, hC⟩ := id H
  have hp := hs1.p
  have hp0 : h 2 0 = p := hP.1
  have hpp : 0 < p := by omega
  refine w_aload0 dX9_condition_0 ?_
  apply v_i0 (M := mX9_condition) dX9_condition_1 lk_RX9_159 mvX9_noMatrix (by decide) meX9_condition is_1 (Nat.le_of_ble_eq_true rfl)
  · exact t_X9_noMatrix H
  intro x1 h1 hP1
  obtain ⟨Xn, Wn, r73, Dn, bn, iN⟩ := hP1
  obtain ⟨sn, Pn, Hn, Tn, cn1, cn2, cn3, cn4, cn5, cn6⟩ := id Wn
  refine wp_if_eq 10 dX9_condition_4 rfl ⟨by omega, by omega⟩ (fun c4 => ?_) (fun c4 => ?_)
  · skip
    refine w_aload0 dX9_condition_10 (wp_getr 78 dX9_condition_11 fl_RX9_51 is_1 rfl ?_)
    apply v_v0 (M := mX9_condition) dX9_condition_14 lk_RX9_183 mvX5_survey (by decide) meX9_condition is_78 (Nat.le_of_ble_eq_true rfl)
    · exact t_X5_survey hs1 Pn Dn (zsd_2 (by omega)) cn3 cn4
    intro h14 hP14
    obtain ⟨fs, as, bs, ds⟩ := hP14
    obtain ⟨Ws, Xs⟩ := zWd_sv Wn fs as bs ds
    have Xs2 := zFX_t Xn Xs
    obtain ⟨d0, d1, d2, d3, d4, d5⟩ := id ds
    refine w_aload0 dX9_condition_17 (wp_getr 78 dX9_condition_18 fl_RX9_51 is_1 rfl (wp_geti dX9_condition_21 fl_RX9_201 is_78 (w_aload0 dX9_condition_24 (wp_getr 78 dX9_condition_25 fl_RX9_51 is_1 rfl (wp_geti dX9_condition_28 fl_RX9_186 is_78 ?_)))))
    rw [d0, d1]
    have y1 := zgt_le (p := p) (c := c) p.toNat
    have y2 := zgw_le (p := p) (c := c) p.toNat
    have y3 := zsd_le c
    have y4 : zgP p c = zgt p c p.toNat := rfl
    refine wp_icmp_ge 38 dX9_condition_31 rfl ⟨by omega, by omega⟩ ⟨by omega, by omega⟩ (fun c31 => ?_) (fun c31 => ?_)
    · skip
      refine wp_iconst dX9_condition_38 ?_
      refine r_i dX9_condition_39 rfl meX9_condition ?_
      exact zPX_q Ws Xs2 (zif_n (by first | omega | (dsimp only; omega))) (by first | (rw [if_pos (by show zgw p c p.toNat < zgP p c; omega)]) | (rw [if_neg (by show ¬ zgw p c p.toNat < zgP p c; omega)]))
    · skip
      refine wp_iconst dX9_condition_34 (wp_goto 39 dX9_condition_35 rfl ?_)
      refine r_i dX9_condition_39 rfl meX9_condition ?_
      exact zPX_q Ws Xs2 (zif_n (by first | omega | (dsimp only; omega))) (by first | (rw [if_pos (by show zgw p c p.toNat < zgP p c; omega)]) | (rw [if_neg (by show ¬ zgw p c p.toNat < zgP p c; omega)]))
  · skip
    refine wp_bipush dX9_condition_7 (by decide) ?_
    refine r_i dX9_condition_9 rfl meX9_condition ?_
    exact zPX_q Wn Xn (zif_y (by first | omega | (dsimp only; omega))) rfl
set_option maxRecDepth 100000 in
set_option maxHeartbeats 4000000 in
theorem t_X9_eliminantDegree {h : zH} {p : Int} {c : Nat → Nat → Int} {hs : List (Int × (Nat → Nat → Int))} {tx : Nat → Int} {L : Nat} (H : zWd p c hs tx L h) {b : Int} (zb : b = 0 ∨ b = 1) : CI yX9_eliminantDegree mX9_eliminantDegree [vR 1, vI b] h (fun r h' => zPX (sp_eliminantDegree (p, c, hs, tx, L) b) h r h') := by
  refine inV [some (vR 1), some (vI b)] mvX9_eliminantDegree rfl (Nat.le_of_ble_eq_true rfl) rfl ?_
  obtain ⟨hs1, hP, hH, hT, hC⟩ := id H
  have hp := hs1.p
  have hp0 : h 2 0 = p := hP.1
  have hpp : 0 < p := by omega
  refine w_aload0 dX9_eliminantDegree_0 ?_
  apply v_i0 (M := mX9_eliminantDegree) dX9_eliminantDegree_1 lk_RX9_159 mvX9_noMatrix (by decide) meX9_eliminantDegree is_1 (Nat.le_of_ble_eq_true rfl)
  · exact t_X9_noMatrix H
  intro x1 h1 hP1
  obtain ⟨Xn, Wn, r73, Dn, bn, iN⟩ := hP1
  obtain ⟨sn, Pn, Hn, Tn, cn1, cn2, cn3, cn4, cn5, cn6⟩ := id Wn
  refine wp_if_eq 10 dX9_eliminantDegree_4 rfl ⟨by omega, by omega⟩ (fun c4 => ?_) (fun c4 => ?_)
  · skip
    refine w_aload0 dX9_eliminantDegree_10 (w_iload1 dX9_eliminantDegree_11 ?_)
    apply v_r1 (M := mX9_eliminantDegree) dX9_eliminantDegree_12 lk_RX9_204 mvX9_form (by decide) meX9_eliminantDegree is_1 (Nat.le_of_ble_eq_true rfl)
    · exact t_X9_form Wn r73 Dn (by omega) zb
    intro x12 h12 hP12
    obtain ⟨Xf, Wf, f73, Df, rf, ff, ef, df⟩ := hP12
    have hz12 := z_is34 rf
    have Xf2 := zFX_t Xn Xf
    have ffb : ∀ e, e < 49 → 0 ≤ h12 x12 e ∧ h12 x12 e < p := fun e he => by rw [ff e he]; exact zform_in (by omega) e
    apply s_i1 (M := mX9_eliminantDegree) dX9_eliminantDegree_15 lk_RX9_208 mvX3_topOf (by decide) meX9_eliminantDegree (Nat.le_of_ble_eq_true rfl)
    · exact t_X3_topOf hz12 (by decide) (fun e he => (by have := ffb e he; exact ⟨by omega, by omega⟩))
    intro x15 h15 hP15
    obtain ⟨eh15, ex15⟩ := hP15
    replace eh15 := eh15.symm
    subst eh15
    replace ex15 := ex15.symm
    subst ex15
    refine r_i dX9_eliminantDegree_18 rfl meX9_eliminantDegree ?_
    exact zPX_q Wf Xf2 (zif_n (by first | omega | (dsimp only; omega))) (by rw [ztop_congr 49 ff])
  · skip
    refine wp_bipush dX9_eliminantDegree_7 (by decide) ?_
    refine r_i dX9_eliminantDegree_9 rfl meX9_eliminantDegree ?_
    exact zPX_q Wn Xn (zif_y (by first | omega | (dsimp only; omega))) rfl
set_option maxRecDepth 100000 in
set_option maxHeartbeats 4000000 in
theorem t_X9_eliminant {h : zH} {p : Int} {c : Nat → Nat → Int} {hs : List (Int × (Nat → Nat → Int))} {tx : Nat → Int} {L : Nat} (H : zWd p c hs tx L h) {b e : Int} (zb : b = 0 ∨ b = 1) (ze : zin e) : CI yX9_eliminant mX9_eliminant [vR 1, vI b, vI e] h (fun r h' => zPX (sp_eliminant (p, c, hs, tx, L) b e) h r h') := by
  refine inV [some (vR 1), some (vI b), some (vI e), none] mvX9_eliminant rfl (Nat.le_of_ble_eq_true rfl) rfl ?_
  obtain ⟨hs1, hP, hH, hT, hC⟩ := id H
  have hp := hs1.p
  have hp0 : h 2 0 = p := hP.1
  have hpp : 0 < p := by omega
  have ze1 := ze.1
  have ze2 := ze.2
  refine w_iload2 dX9_eliminant_0 (wp_bipush dX9_eliminant_1 (by decide) ?_)
  apply s_i2 (M := mX9_eliminant) dX9_eliminant_3 lk_RX9_84 mvX9_outside (by decide) meX9_eliminant (Nat.le_of_ble_eq_true rfl)
  · exact t_X9_outside ze ⟨by omega, by omega⟩
  intro x3 h3 hP3
  obtain ⟨eh3, hP3⟩ := hP3
  replace eh3 := eh3.symm
  subst eh3
  refine wp_if_eq 11 dX9_eliminant_6 rfl ⟨by omega, by omega⟩ (fun c6 => ?_) (fun c6 => ?_)
  · skip
    refine w_aload0 dX9_eliminant_11 ?_
    apply v_i0 (M := mX9_eliminant) dX9_eliminant_12 lk_RX9_159 mvX9_noMatrix (by decide) meX9_eliminant is_1 (Nat.le_of_ble_eq_true rfl)
    · exact t_X9_noMatrix H
    intro x12 h12 hP12
    obtain ⟨Xn, Wn, r73, Dn, bn, iN⟩ := hP12
    obtain ⟨sn, Pn, Hn, Tn, cn1, cn2, cn3, cn4, cn5, cn6⟩ := id Wn
    refine wp_if_eq 21 dX9_eliminant_15 rfl ⟨by omega, by omega⟩ (fun c15 => ?_) (fun c15 => ?_)
    · skip
      refine w_aload0 dX9_eliminant_21 (w_iload1 dX9_eliminant_22 ?_)
      apply v_r1 (M := mX9_eliminant) dX9_eliminant_23 lk_RX9_204 mvX9_form (by decide) meX9_eliminant is_1 (Nat.le_of_ble_eq_true rfl)
      · exact t_X9_form Wn r73 Dn (by omega) zb
      intro x23 h23 hP23
      obtain ⟨Xf, Wf, f73, Df, rf, ff, ef, df⟩ := hP23
      have hz23 := z_is34 rf
      have Xf2 := zFX_t Xn Xf
      have ffb : ∀ e, e < 49 → 0 ≤ h23 x23 e ∧ h23 x23 e < p := fun e he => by rw [ff e he]; exact zform_in (by omega) e
      refine w_astore3 dX9_eliminant_26 rfl (by decide) (w_iload2 dX9_eliminant_27 (w_aload3 dX9_eliminant_28 (wp_alen dX9_eliminant_29 hz23 (by decide) ?_)))
      refine wp_icmp_ge 39 dX9_eliminant_30 rfl ⟨by omega, by omega⟩ ⟨by omega, by omega⟩ (fun c30 => absurd c30 (by omega)) (fun c30 => ?_)
      refine w_aload3 dX9_eliminant_33 (w_iload2 dX9_eliminant_34 (x_iald e.toNat dX9_eliminant_35 hz23 (by omega) (by omega) (wp_goto 40 dX9_eliminant_36 rfl ?_)))
      refine r_i dX9_eliminant_40 rfl meX9_eliminant ?_
      exact zPX_q Wf Xf2 ((zif_y (by first | omega | (dsimp only; omega))).trans (zif_n (by first | omega | (dsimp only; omega)))) (ff _ (by omega))
    · skip
      refine wp_bipush dX9_eliminant_18 (by decide) ?_
      refine r_i dX9_eliminant_20 rfl meX9_eliminant ?_
      exact zPX_q Wn Xn ((zif_y (by first | omega | (dsimp only; omega))).trans (zif_y (by first | omega | (dsimp only; omega)))) rfl
  · skip
    refine wp_iconst dX9_eliminant_9 ?_
    refine r_i dX9_eliminant_10 rfl meX9_eliminant ?_
    exact zPX_q H zFX_r (zif_n (by first | omega | (dsimp only; omega))) rfl
set_option maxRecDepth 100000 in
set_option maxHeartbeats 4000000 in
theorem t_X9_eliminantAt {h : zH} {p : Int} {c : Nat → Nat → Int} {hs : List (Int × (Nat → Nat → Int))} {tx : Nat → Int} {L : Nat} (H : zWd p c hs tx L h) {b t : Int} (zb : b = 0 ∨ b = 1) (zt : zin t) : CI yX9_eliminantAt mX9_eliminantAt [vR 1, vI b, vI t] h (fun r h' => zPX (sp_eliminantAt (p, c, hs, tx, L) b t) h r h') := by
  refine inV [some (vR 1), some (vI b), some (vI t)] mvX9_eliminantAt rfl (Nat.le_of_ble_eq_true rfl) rfl ?_
  obtain ⟨hs1, hP, hH, hT, hC⟩ := id H
  have hp := hs1.p
  have hp0 : h 2 0 = p := hP.1
  have hpp : 0 < p := by omega
  have zt1 := zt.1
  have zt2 := zt.2
  refine w_iload2 dX9_eliminantAt_0 (w_aload0 dX9_eliminantAt_1 (wp_getr 2 dX9_eliminantAt_2 fl_RX9_20 is_1 rfl (wp_geti dX9_eliminantAt_5 fl_RX9_68 is_2 (wp_iconst dX9_eliminantAt_8 (wp_isub dX9_eliminantAt_9 ?_)))))
  rw [hp0]
  apply s_i2 (M := mX9_eliminantAt) dX9_eliminantAt_10 lk_RX9_84 mvX9_outside (by decide) meX9_eliminantAt (Nat.le_of_ble_eq_true rfl)
  · exact t_X9_outside zt ⟨by omega, by omega⟩
  intro x10 h10 hP10
  obtain ⟨eh10, hP10⟩ := hP10
  replace eh10 := eh10.symm
  subst eh10
  refine wp_if_eq 18 dX9_eliminantAt_13 rfl ⟨by omega, by omega⟩ (fun c13 => ?_) (fun c13 => ?_)
  · skip
    refine w_aload0 dX9_eliminantAt_18 ?_
    apply v_i0 (M := mX9_eliminantAt) dX9_eliminantAt_19 lk_RX9_159 mvX9_noMatrix (by decide) meX9_eliminantAt is_1 (Nat.le_of_ble_eq_true rfl)
    · exact t_X9_noMatrix H
    intro x19 h19 hP19
    obtain ⟨Xn, Wn, r73, Dn, bn, iN⟩ := hP19
    obtain ⟨sn, Pn, Hn, Tn, cn1, cn2, cn3, cn4, cn5, cn6⟩ := id Wn
    refine wp_if_eq 28 dX9_eliminantAt_22 rfl ⟨by omega, by omega⟩ (fun c22 => ?_) (fun c22 => ?_)
    · skip
      refine w_aload0 dX9_eliminantAt_28 (w_iload1 dX9_eliminantAt_29 ?_)
      apply v_r1 (M := mX9_eliminantAt) dX9_eliminantAt_30 lk_RX9_204 mvX9_form (by decide) meX9_eliminantAt is_1 (Nat.le_of_ble_eq_true rfl)
      · exact t_X9_form Wn r73 Dn (by omega) zb
      intro x30 h30 hP30
      obtain ⟨Xf, Wf, f73, Df, rf, ff, ef, df⟩ := hP30
      have hz30 := z_is34 rf
      have Xf2 := zFX_t Xn Xf
      have ffb : ∀ e, e < 49 → 0 ≤ h30 x30 e ∧ h30 x30 e < p := fun e he => by rw [ff e he]; exact zform_in (by omega) e
      refine w_iload2 dX9_eliminantAt_33 (w_aload0 dX9_eliminantAt_34 (wp_getr 2 dX9_eliminantAt_35 fl_RX9_20 is_1 rfl (wp_geti dX9_eliminantAt_38 fl_RX9_68 is_2 ?_)))
      rw [Wf.2.1.1]
      apply s_i3 (M := mX9_eliminantAt) dX9_eliminantAt_41 lk_RX9_173 mvX3_horner (by decide) meX9_eliminantAt (Nat.le_of_ble_eq_true rfl)
      · exact t_X3_horner hz30 (by omega) (by omega) ffb
      intro x41 h41 hP41
      obtain ⟨eh41, ex41⟩ := hP41
      replace eh41 := eh41.symm
      subst eh41
      replace ex41 := ex41.symm
      subst ex41
      refine r_i dX9_eliminantAt_44 rfl meX9_eliminantAt ?_
      exact zPX_q Wf Xf2 ((zif_y (by first | omega | (dsimp only; omega))).trans (zif_n (by first | omega | (dsimp only; omega)))) (zhor_congr 49 _ _ ff)
    · skip
      refine wp_bipush dX9_eliminantAt_25 (by decide) ?_
      refine r_i dX9_eliminantAt_27 rfl meX9_eliminantAt ?_
      exact zPX_q Wn Xn ((zif_y (by first | omega | (dsimp only; omega))).trans (zif_y (by first | omega | (dsimp only; omega)))) rfl
  · skip
    refine wp_iconst dX9_eliminantAt_16 ?_
    refine r_i dX9_eliminantAt_17 rfl meX9_eliminantAt ?_
    exact zPX_q H zFX_r (zif_n (by first | omega | (dsimp only; omega))) rfl
set_option maxRecDepth 100000 in
set_option maxHeartbeats 4000000 in
theorem t_X9_multiplicity {h : zH} {p : Int} {c : Nat → Nat → Int} {hs : List (Int × (Nat → Nat → Int))} {tx : Nat → Int} {L : Nat} (H : zWd p c hs tx L h) {t : Int} (zt : zin t) : CI yX9_multiplicity mX9_multiplicity [vR 1, vI t] h (fun r h' => zPX (sp_multiplicity (p, c, hs, tx, L) t) h r h') := by
  refine inV [some (vR 1), some (vI t)] mvX9_multiplicity rfl (Nat.le_of_ble_eq_true rfl) rfl ?_
  obtain ⟨hs1, hP, hH, hT, hC⟩ := id H
  have hp := hs1.p
  have hp0 : h 2 0 = p := hP.1
  have hpp : 0 < p := by omega
  have zt1 := zt.1
  have zt2 := zt.2
  refine w_iload1 dX9_multiplicity_0 (w_aload0 dX9_multiplicity_1 (wp_getr 2 dX9_multiplicity_2 fl_RX9_20 is_1 rfl (wp_geti dX9_multiplicity_5 fl_RX9_68 is_2 (wp_iconst dX9_multiplicity_8 (wp_isub dX9_multiplicity_9 ?_)))))
  rw [hp0]
  apply s_i2 (M := mX9_multiplicity) dX9_multiplicity_10 lk_RX9_84 mvX9_outside (by decide) meX9_multiplicity (Nat.le_of_ble_eq_true rfl)
  · exact t_X9_outside zt ⟨by omega, by omega⟩
  intro x10 h10 hP10
  obtain ⟨eh10, hP10⟩ := hP10
  replace eh10 := eh10.symm
  subst eh10
  refine wp_if_eq 18 dX9_multiplicity_13 rfl ⟨by omega, by omega⟩ (fun c13 => ?_) (fun c13 => ?_)
  · skip
    refine w_aload0 dX9_multiplicity_18 ?_
    apply v_i0 (M := mX9_multiplicity) dX9_multiplicity_19 lk_RX9_159 mvX9_noMatrix (by decide) meX9_multiplicity is_1 (Nat.le_of_ble_eq_true rfl)
    · exact t_X9_noMatrix H
    intro x19 h19 hP19
    obtain ⟨Xn, Wn, r73, Dn, bn, iN⟩ := hP19
    obtain ⟨sn, Pn, Hn, Tn, cn1, cn2, cn3, cn4, cn5, cn6⟩ := id Wn
    refine wp_if_eq 28 dX9_multiplicity_22 rfl ⟨by omega, by omega⟩ (fun c22 => ?_) (fun c22 => ?_)
    · skip
      refine w_aload0 dX9_multiplicity_28 (wp_iconst dX9_multiplicity_29 ?_)
      apply v_r1 (M := mX9_multiplicity) dX9_multiplicity_30 lk_RX9_204 mvX9_form (by decide) meX9_multiplicity is_1 (Nat.le_of_ble_eq_true rfl)
      · exact t_X9_form Wn r73 Dn (by omega) (Or.inl rfl)
      intro x30 h30 hP30
      obtain ⟨Xf, Wf, f73, Df, rf, ff, ef, df⟩ := hP30
      have hz30 := z_is34 rf
      have Xf2 := zFX_t Xn Xf
      have ffb : ∀ e, e < 49 → 0 ≤ h30 x30 e ∧ h30 x30 e < p := fun e he => by rw [ff e he]; exact zform_in (by omega) e
      refine wp_pop dX9_multiplicity_33 rfl (w_aload0 dX9_multiplicity_34 (wp_getr 182 dX9_multiplicity_35 fl_RX9_60 is_1 rfl (w_iload1 dX9_multiplicity_38 ?_)))
      apply v_i1 (M := mX9_multiplicity) dX9_multiplicity_39 lk_RX9_212 mvX1_multiplicityOf (by decide) meX9_multiplicity is_182 (Nat.le_of_ble_eq_true rfl)
      · exact t_X1_multiplicityOf (by omega) (by omega) Wf.2.1.1 (fun j hj => (by rw [ef j hj]; exact zWp_in (by omega) j))
      intro x39 h39 hP39
      obtain ⟨f39, r39⟩ := hP39
      obtain ⟨Wm, Xm⟩ := zWd_mu Wf f39
      refine r_i dX9_multiplicity_42 rfl meX9_multiplicity ?_
      exact zPX_q Wm (zFX_t Xf2 Xm) ((zif_y (by first | omega | (dsimp only; omega))).trans (zif_n (by first | omega | (dsimp only; omega)))) (by rw [r39, (zstr_congr 49 _ _ ef).1])
    · skip
      refine wp_bipush dX9_multiplicity_25 (by decide) ?_
      refine r_i dX9_multiplicity_27 rfl meX9_multiplicity ?_
      exact zPX_q Wn Xn ((zif_y (by first | omega | (dsimp only; omega))).trans (zif_y (by first | omega | (dsimp only; omega)))) rfl
  · skip
    refine wp_iconst dX9_multiplicity_16 ?_
    refine r_i dX9_multiplicity_17 rfl meX9_multiplicity ?_
    exact zPX_q H zFX_r (zif_n (by first | omega | (dsimp only; omega))) rfl
set_option maxRecDepth 100000 in
set_option maxHeartbeats 4000000 in
theorem t_X9_extraneous {h : zH} {p : Int} {c : Nat → Nat → Int} {hs : List (Int × (Nat → Nat → Int))} {tx : Nat → Int} {L : Nat} (H : zWd p c hs tx L h) : CI yX9_extraneous mX9_extraneous [vR 1] h (fun r h' => zPX (sp_extraneous (p, c, hs, tx, L)) h r h') := by
  refine inV [some (vR 1)] mvX9_extraneous rfl (Nat.le_of_ble_eq_true rfl) rfl ?_
  obtain ⟨hs1, hP, hH, hT, hC⟩ := id H
  have hp := hs1.p
  have hp0 : h 2 0 = p := hP.1
  have hpp : 0 < p := by omega
  refine w_aload0 dX9_extraneous_0 ?_
  apply v_i0 (M := mX9_extraneous) dX9_extraneous_1 lk_RX9_159 mvX9_noMatrix (by decide) meX9_extraneous is_1 (Nat.le_of_ble_eq_true rfl)
  · exact t_X9_noMatrix H
  intro x1 h1 hP1
  obtain ⟨Xn, Wn, r73, Dn, bn, iN⟩ := hP1
  obtain ⟨sn, Pn, Hn, Tn, cn1, cn2, cn3, cn4, cn5, cn6⟩ := id Wn
  refine wp_if_eq 10 dX9_extraneous_4 rfl ⟨by omega, by omega⟩ (fun c4 => ?_) (fun c4 => ?_)
  · skip
    refine w_aload0 dX9_extraneous_10 (wp_iconst dX9_extraneous_11 ?_)
    apply v_r1 (M := mX9_extraneous) dX9_extraneous_12 lk_RX9_204 mvX9_form (by decide) meX9_extraneous is_1 (Nat.le_of_ble_eq_true rfl)
    · exact t_X9_form Wn r73 Dn (by omega) (Or.inr rfl)
    intro x12 h12 hP12
    obtain ⟨Xf, Wf, f73, Df, rf, ff, ef, df⟩ := hP12
    have hz12 := z_is34 rf
    have Xf2 := zFX_t Xn Xf
    have ffb : ∀ e, e < 49 → 0 ≤ h12 x12 e ∧ h12 x12 e < p := fun e he => by rw [ff e he]; exact zform_in (by omega) e
    refine wp_pop dX9_extraneous_15 rfl (w_aload0 dX9_extraneous_16 (wp_getr 182 dX9_extraneous_17 fl_RX9_60 is_1 rfl (wp_geti dX9_extraneous_20 fl_RX9_215 is_182 ?_)))
    refine r_i dX9_extraneous_23 rfl meX9_extraneous ?_
    exact zPX_q Wf Xf2 (zif_n (by first | omega | (dsimp only; omega))) (df rfl).1
  · skip
    refine wp_bipush dX9_extraneous_7 (by decide) ?_
    refine r_i dX9_extraneous_9 rfl meX9_extraneous ?_
    exact zPX_q Wn Xn (zif_y (by first | omega | (dsimp only; omega))) rfl
