
theorem zabs_m {p : Int} {c : Nat → Nat → Int} {t : Int} (hs : zSt p c) (hz : zsd c ≠ 0) (ht : 0 ≤ t ∧ t < p) (h2 : zgd c 0 = 2) : (if zsd c = zrk p c t.toNat + 1 then zrat p (zmre p (zsd c) (zEn p c) t) 1 else -9) = zabs p c t.toNat := by
  have h12 := zgd_12 hz
  unfold zabs
  by_cases w : zsd c = zrk p c t.toNat + 1
  · rw [if_pos w, if_pos (by omega)]
    exact zmre_rat hs hz ht w (by omega)
  · rw [if_neg w, if_neg (by omega)]
theorem zabs_9 {p : Int} {c : Nat → Nat → Int} {t : Nat} (h2 : zgd c 0 ≠ 2) : (-9 : Int) = zabs p c t := by
  unfold zabs
  rw [if_neg (by omega)]
theorem zord_m {p : Int} {c : Nat → Nat → Int} {t : Int} (hs : zSt p c) (hz : zsd c ≠ 0) (ht : 0 ≤ t ∧ t < p) : (if zsd c = zrk p c t.toNat + 1 then zrat p (zmre p (zsd c) (zEn p c) t) (zgd c 0) else -9) = zord p c t.toNat := by
  have h12 := zgd_12 hz
  unfold zord
  by_cases w : zsd c = zrk p c t.toNat + 1
  · rw [if_pos w, if_pos (by omega)]
    exact zmre_rat hs hz ht w (by omega)
  · rw [if_neg w, if_neg (by omega)]
theorem t_X10_greatest1 {h : zH} {x p : Int} {c : Nat → Nat → Int} (hx : x = 1 ∨ x = 2) (hs : zSt p c) (hR : zMr p c h) : CI yX10_greatest mX10_greatest [vR 445, vI (x - 1)] h (fun r h' => h' = h ∧ r = (zgd c (x - 1).toNat : Int)) := t_X10_greatest (v := (x - 1).toNat) (by omega) (by omega) hs hR
theorem zstr_0 {c p : Int} {N k : Nat} {f : Nat → Int} (h : zhor c p N f ≠ 0) : (zstr c p N k f).1 = 0 := by
  cases k with
  | zero => rfl
  | succ k => rw [zstr_n h]

set_option maxRecDepth 100000 in
set_option maxHeartbeats 4000000 in
theorem t_X10_multiplicity {h : zH} {p : Int} {c : Nat → Nat → Int} {hs : List (Int × (Nat → Nat → Int))} {tx : Nat → Int} {L : Nat} (H : zVd p c hs tx L h) {t : Int} (zt : zin t) : CI yX10_multiplicity mX10_multiplicity [vR 445, vI t] h (fun r h' => zPV (sp_multiplicity (p, c, hs, tx, L) t) h r h') := by
  refine inV [some (vR 445), some (vI t), none] mvX10_multiplicity rfl (Nat.le_of_ble_eq_true rfl) rfl ?_
  obtain ⟨hs1, hR, hH, hT, hK, hO⟩ := id H
  have hp := hs1.p
  have hp0 : h 446 0 = p := hR.1
  have hpp : 0 < p := by omega
  have zt1 := zt.1
  have zt2 := zt.2
  have L48 : ∀ (zm48 : Nat) (i : Nat) (h' : zH) (K : Nat) (g : Nat → Int), K = zm48 → (i + K = 49) → (0 ≤ t ∧ t < p) → (zsd c ≠ 0) → (zVd p c hs tx L h') → (zFV h h') → (∀ j, j < 49 → h' 462 j = g j) → (znz p g) → (ztop g 49 < K) → ((zstr t p 49 49 (zWp p c)).1 = i + (zstr t p 49 K g).1) → WP mX10_multiplicity (zMQ mX10_multiplicity (zKI (fun r h' => zPV (sp_multiplicity (p, c, hs, tx, L) t) h r h'))) 48 [some (vR 445), some (vI t), some (vI (i : Int))] [] zN zGR h' := by
    intro zm48
    induction zm48 using Nat.strongRecOn with | _ zm48 ih48 => ?_
    intro i h' K g hzm48 hiK ht hz hV hX hg hgz hK hm
    subst hzm48
    refine w_aload0 dX10_multiplicity_48 (w_aload0 dX10_multiplicity_49 (wp_getr 462 dX10_multiplicity_50 fl_RX10_58 is_445 rfl (w_iload1 dX10_multiplicity_53 ?_)))
    apply v_i2 (M := mX10_multiplicity) dX10_multiplicity_54 lk_RX10_241 mvX10_valueAt (by decide) meX10_multiplicity is_445 (Nat.le_of_ble_eq_true rfl)
    · exact t_X10_valueAt is_462 (by omega) hp hV.2.1.1 (fun j hj => by rw [hg j hj]; exact hgz.1 j hj)
    intro x54 h54 hP54
    obtain ⟨eh54, ex54⟩ := hP54
    replace eh54 := eh54.symm
    subst eh54
    rw [zhor_congr 49 _ _ hg] at ex54
    subst ex54
    have hzb := zhor_in (t := t) hpp 49 g
    refine wp_if_ne 75 dX10_multiplicity_57 rfl ⟨by omega, by omega⟩ (fun c57 => ?_) (fun c57 => ?_)
    · skip
      refine w_iload2 dX10_multiplicity_75 ?_
      refine r_i dX10_multiplicity_76 rfl meX10_multiplicity ?_
      have h0 : zhor t p 49 g ≠ 0 := by assumption
      rw [zstr_0 h0] at hm
      exact zPV_q hV hX ((zif_y (by first | omega | (dsimp only; omega))).trans (zif_n hz)) (by rw [hm]; rfl)
    · skip
      refine w_aload0 dX10_multiplicity_60 (w_aload0 dX10_multiplicity_61 (wp_getr 462 dX10_multiplicity_62 fl_RX10_58 is_445 rfl (w_iload1 dX10_multiplicity_65 ?_)))
      apply v_v2 (M := mX10_multiplicity) dX10_multiplicity_66 lk_RX10_248 mvX10_divides (by decide) meX10_multiplicity is_445 (Nat.le_of_ble_eq_true rfl)
      · exact t_X10_divides is_462 (by omega) (by omega) hp hV.2.1.1 (fun j hj => by rw [hg j hj]; exact hgz.1 j hj)
      intro h66 hP66
      subst hP66
      refine w_iinc2 dX10_multiplicity_69 rfl (by decide) (wp_goto 48 dX10_multiplicity_72 rfl ?_)
      have h0 : zhor t p 49 g = 0 := by assumption
      obtain ⟨z1, z2, z3⟩ := znz_dv hpp hgz h0
      obtain ⟨K', hK'⟩ : ∃ K', K = K' + 1 := ⟨K - 1, by omega⟩
      refine ih48 _ (by omega) (i + 1) _ K' (zdv t p 49 g) rfl (by omega) ht hz (zVd_fr hV (fun a j ha => zfl_o (by unfold zVFm zKnF zKoF at ha; omega))) (fun a j ha => (zfl_o (by omega)).trans (hX a j ha)) (fun j hj => by rw [zfl_i hj]; exact zdv_congr hg j hj) z2 (by omega) ?_
      rw [hm, hK', zstr_s h0]
      show i + ((zstr t p 49 K' (zdv t p 49 g)).1 + 1) = _
      omega
  have L22 : ∀ (zm22 : Nat) (i : Nat) (h' : zH), 49 - i = zm22 → (i ≤ 49) → (0 ≤ t ∧ t < p) → (zsd c ≠ 0) → (zVd p c hs tx L h') → (zFV h h') → (∀ j, j < 49 → h' 456 j = zWp p c j) → (∀ j, j < i → h' 462 j = zWp p c j) → WP mX10_multiplicity (zMQ mX10_multiplicity (zKI (fun r h' => zPV (sp_multiplicity (p, c, hs, tx, L) t) h r h'))) 22 [some (vR 445), some (vI t), some (vI (i : Int))] [] zN zGR h' := by
    intro zm22
    induction zm22 using Nat.strongRecOn with | _ zm22 ih22 => ?_
    intro i h' hzm22 hi ht hz hV hX hk hr
    subst hzm22
    refine w_iload2 dX10_multiplicity_22 (wp_bipush dX10_multiplicity_23 (by decide) ?_)
    refine wp_icmp_ge 46 dX10_multiplicity_25 rfl ⟨by omega, by omega⟩ ⟨by omega, by omega⟩ (fun c25 => ?_) (fun c25 => ?_)
    · skip
      refine wp_iconst dX10_multiplicity_46 (w_istore2 dX10_multiplicity_47 rfl (by decide) ?_)
      exact L48 _ 0 _ 49 (zWp p c) rfl (by omega) ht hz hV hX (fun j hj => hr j (by omega)) (znz_Wp hs1 hz) (ztop_lt 49 (by decide)) (Nat.zero_add _).symm
    · skip
      refine w_aload0 dX10_multiplicity_28 (wp_getr 462 dX10_multiplicity_29 fl_RX10_58 is_445 rfl (w_iload2 dX10_multiplicity_32 (w_aload0 dX10_multiplicity_33 (wp_getr 456 dX10_multiplicity_34 fl_RX10_40 is_445 rfl (w_iload2 dX10_multiplicity_37 (x_iald i dX10_multiplicity_38 is_456 rfl (by omega) (x_iast i dX10_multiplicity_39 is_462 rfl (by omega) (w_iinc2 dX10_multiplicity_40 rfl (by decide) (wp_goto 22 dX10_multiplicity_43 rfl ?_)))))))))
      refine ih22 _ (by omega) (i + 1) _ rfl (by omega) ht hz (zVd_fr hV (fun a j ha => zup_o (by unfold zVFm zKnF zKoF at ha; omega))) (fun a j ha => (zup_o (by omega)).trans (hX a j ha)) (fun j hj => by rw [zup_o (by omega)]; exact hk j hj) (fun j hj => ?_)
      by_cases w : j = i
      · rw [w, zup_s]
        exact hk i (by omega)
      · rw [zup_o (by omega)]
        exact hr j (by omega)
  refine w_aload0 dX10_multiplicity_0 (w_iload1 dX10_multiplicity_1 ?_)
  apply v_i1 (M := mX10_multiplicity) dX10_multiplicity_2 lk_RX10_142 mvX10_isNumber (by decide) meX10_multiplicity is_445 (Nat.le_of_ble_eq_true rfl)
  · exact t_X10_isNumber zt hp hp0
  intro x2 h2 hP2
  obtain ⟨eh2, hP2⟩ := hP2
  replace eh2 := eh2.symm
  subst eh2
  refine wp_if_ne 10 dX10_multiplicity_5 rfl ⟨by omega, by omega⟩ (fun c5 => ?_) (fun c5 => ?_)
  · skip
    refine w_aload0 dX10_multiplicity_10 ?_
    apply v_i0 (M := mX10_multiplicity) dX10_multiplicity_11 lk_RX10_277 mvX10_has (by decide) meX10_multiplicity is_445 (Nat.le_of_ble_eq_true rfl)
    · exact t_X10_has H
    intro x11 h11 hP11
    obtain ⟨Vn, Xn, bn1, bn2, bn3⟩ := hP11
    obtain ⟨sn, Rn, Hn, Tn, Kn, On⟩ := id Vn
    refine wp_if_ne 20 dX10_multiplicity_14 rfl ⟨by omega, by omega⟩ (fun c14 => ?_) (fun c14 => ?_)
    · skip
      obtain ⟨⟨a1, a2, a3⟩, a4, a5, ⟨b1, b2, b3, b4, b5⟩, b6, b7, b8⟩ := id (bn3 (by omega))
      have hs8 := zsd_le c
      have W0 : ∀ e, 0 ≤ zWp p c e ∧ zWp p c e < p := fun e => zWp_in (by omega) e
      have W1 : ∀ e, 0 ≤ zform p c 1 e ∧ zform p c 1 e < p := fun e => zform_in (by omega) e
      have Z0 : zform p c 0 = zWp p c := if_pos rfl
      refine wp_iconst dX10_multiplicity_20 (w_istore2 dX10_multiplicity_21 rfl (by decide) ?_)
      exact L22 _ 0 _ rfl (Nat.zero_le _) (by omega) (by omega) Vn Xn b6 (fun j hj => absurd hj (Nat.not_lt_zero j))
    · skip
      refine wp_bipush dX10_multiplicity_17 (by decide) ?_
      refine r_i dX10_multiplicity_19 rfl meX10_multiplicity ?_
      exact zPV_q Vn Xn ((zif_y (by first | omega | (dsimp only; omega))).trans (zif_y (by first | omega | (dsimp only; omega)))) rfl
  · skip
    refine wp_iconst dX10_multiplicity_8 ?_
    refine r_i dX10_multiplicity_9 rfl meX10_multiplicity ?_
    exact zPV_q H zFV_r (zif_n (by first | omega | (dsimp only; omega))) rfl
set_option maxRecDepth 100000 in
set_option maxHeartbeats 4000000 in
theorem t_X10_recovered {h : zH} {p : Int} {c : Nat → Nat → Int} {hs : List (Int × (Nat → Nat → Int))} {tx : Nat → Int} {L : Nat} (H : zVd p c hs tx L h) {t b : Int} (zt : zin t) (zb : b = 0 ∨ b = 1) : CI yX10_recovered mX10_recovered [vR 445, vI t, vI b] h (fun r h' => zPV (sp_recovered (p, c, hs, tx, L) t b) h r h') := by
  refine inV [some (vR 445), some (vI t), some (vI b)] mvX10_recovered rfl (Nat.le_of_ble_eq_true rfl) rfl ?_
  obtain ⟨hs1, hR, hH, hT, hK, hO⟩ := id H
  have hp := hs1.p
  have hp0 : h 446 0 = p := hR.1
  have hpp : 0 < p := by omega
  have zt1 := zt.1
  have zt2 := zt.2
  refine w_aload0 dX10_recovered_0 (w_iload1 dX10_recovered_1 ?_)
  apply v_i1 (M := mX10_recovered) dX10_recovered_2 lk_RX10_142 mvX10_isNumber (by decide) meX10_recovered is_445 (Nat.le_of_ble_eq_true rfl)
  · exact t_X10_isNumber zt hp hp0
  intro x2 h2 hP2
  obtain ⟨eh2, hP2⟩ := hP2
  replace eh2 := eh2.symm
  subst eh2
  refine wp_if_ne 10 dX10_recovered_5 rfl ⟨by omega, by omega⟩ (fun c5 => ?_) (fun c5 => ?_)
  · skip
    refine w_aload0 dX10_recovered_10 ?_
    apply v_i0 (M := mX10_recovered) dX10_recovered_11 lk_RX10_277 mvX10_has (by decide) meX10_recovered is_445 (Nat.le_of_ble_eq_true rfl)
    · exact t_X10_has H
    intro x11 h11 hP11
    obtain ⟨Vn, Xn, bn1, bn2, bn3⟩ := hP11
    obtain ⟨sn, Rn, Hn, Tn, Kn, On⟩ := id Vn
    refine wp_if_ne 20 dX10_recovered_14 rfl ⟨by omega, by omega⟩ (fun c14 => ?_) (fun c14 => ?_)
    · skip
      obtain ⟨⟨a1, a2, a3⟩, a4, a5, ⟨b1, b2, b3, b4, b5⟩, b6, b7, b8⟩ := id (bn3 (by omega))
      have hs8 := zsd_le c
      have hg0 := zgd_le c 0
      have hg1 := zgd_le c 1
      have hsv : zsd c = 2 * zgd c 0 * zgd c 1 := zsd_v (by omega)
      obtain ⟨hg2, hg3⟩ := zgd_12 (c := c) (by omega)
      refine w_iload2 dX10_recovered_20 ?_
      refine wp_if_eq 36 dX10_recovered_21 rfl ⟨by omega, by omega⟩ (fun c21 => ?_) (fun c21 => ?_)
      · skip
        refine w_aload0 dX10_recovered_36 (wp_geti dX10_recovered_37 fl_RX10_189 is_445 (wp_iconst dX10_recovered_40 ?_))
        rw [a1]
        refine wp_icmp_ne 49 dX10_recovered_41 rfl ⟨by omega, by omega⟩ ⟨by omega, by omega⟩ (fun c41 => ?_) (fun c41 => ?_)
        · skip
          refine w_aload0 dX10_recovered_49 (w_iload1 dX10_recovered_50 (wp_iconst dX10_recovered_51 ?_))
          apply v_i2 (M := mX10_recovered) dX10_recovered_52 lk_RX10_300 mvX10_recoveredAt (by decide) meX10_recovered is_445 (Nat.le_of_ble_eq_true rfl)
          · exact t_X10_recoveredAt (n := 1) (rk := zrk p c t.toNat) (E := zEn p c) (by omega) hp Vn.2.1.1 hs8 a3 (fun r hr q hq e he => ⟨a4 r hr q hq e he, zEn_in (by omega)⟩) (by omega) (by omega) (a5 t.toNat (by omega)) (by have := zrk_le (p := p) (c := c) (t := t.toNat); omega)
          intro x52 h52 hP52
          obtain ⟨fr52, er52⟩ := hP52
          have Vr52 := zVd_fr Vn (fun a j ha => fr52 a j (by unfold zVFm zKnF zKoF at ha; unfold zFke; omega))
          have Xr52 : zFV h h52 := zFV_t Xn (fun a j ha => fr52 a j (by unfold zFke; omega))
          refine r_i dX10_recovered_55 rfl meX10_recovered ?_
          first
          | exact zPV_q Vr30 Xr30 ((zif_y (by first | omega | (dsimp only; omega))).trans (zif_n (by first | omega | (dsimp only; omega)))) ((er30.trans (zord_m hs1 (by omega) (by omega))).trans (if_neg (by omega)).symm)
          | exact zPV_q Vr52 Xr52 ((zif_y (by first | omega | (dsimp only; omega))).trans (zif_n (by first | omega | (dsimp only; omega)))) ((er52.trans (zabs_m hs1 (by omega) (by omega) (by omega))).trans (if_pos (by omega)).symm)
          | exact zPV_q Vn Xn ((zif_y (by first | omega | (dsimp only; omega))).trans (zif_n (by first | omega | (dsimp only; omega)))) ((zabs_9 (p := p) (c := c) (t := t.toNat) (show zgd c 0 ≠ 2 by omega)).trans (if_pos (show b = 0 by omega)).symm)
        · skip
          refine wp_bipush dX10_recovered_44 (by decide) (wp_goto 55 dX10_recovered_46 rfl ?_)
          refine r_i dX10_recovered_55 rfl meX10_recovered ?_
          first
          | exact zPV_q Vr30 Xr30 ((zif_y (by first | omega | (dsimp only; omega))).trans (zif_n (by first | omega | (dsimp only; omega)))) ((er30.trans (zord_m hs1 (by omega) (by omega))).trans (if_neg (by omega)).symm)
          | exact zPV_q Vr52 Xr52 ((zif_y (by first | omega | (dsimp only; omega))).trans (zif_n (by first | omega | (dsimp only; omega)))) ((er52.trans (zabs_m hs1 (by omega) (by omega) (by omega))).trans (if_pos (by omega)).symm)
          | exact zPV_q Vn Xn ((zif_y (by first | omega | (dsimp only; omega))).trans (zif_n (by first | omega | (dsimp only; omega)))) ((zabs_9 (p := p) (c := c) (t := t.toNat) (show zgd c 0 ≠ 2 by omega)).trans (if_pos (show b = 0 by omega)).symm)
      · skip
        refine w_aload0 dX10_recovered_24 (w_iload1 dX10_recovered_25 (w_aload0 dX10_recovered_26 (wp_geti dX10_recovered_27 fl_RX10_189 is_445 ?_)))
        rw [a1]
        apply v_i2 (M := mX10_recovered) dX10_recovered_30 lk_RX10_300 mvX10_recoveredAt (by decide) meX10_recovered is_445 (Nat.le_of_ble_eq_true rfl)
        · exact t_X10_recoveredAt (n := zgd c 0) (rk := zrk p c t.toNat) (E := zEn p c) (by omega) hp Vn.2.1.1 hs8 a3 (fun r hr q hq e he => ⟨a4 r hr q hq e he, zEn_in (by omega)⟩) (by omega) (by omega) (a5 t.toNat (by omega)) (by have := zrk_le (p := p) (c := c) (t := t.toNat); omega)
        intro x30 h30 hP30
        obtain ⟨fr30, er30⟩ := hP30
        have Vr30 := zVd_fr Vn (fun a j ha => fr30 a j (by unfold zVFm zKnF zKoF at ha; unfold zFke; omega))
        have Xr30 : zFV h h30 := zFV_t Xn (fun a j ha => fr30 a j (by unfold zFke; omega))
        refine wp_goto 55 dX10_recovered_33 rfl ?_
        refine r_i dX10_recovered_55 rfl meX10_recovered ?_
        first
        | exact zPV_q Vr30 Xr30 ((zif_y (by first | omega | (dsimp only; omega))).trans (zif_n (by first | omega | (dsimp only; omega)))) ((er30.trans (zord_m hs1 (by omega) (by omega))).trans (if_neg (by omega)).symm)
        | exact zPV_q Vr52 Xr52 ((zif_y (by first | omega | (dsimp only; omega))).trans (zif_n (by first | omega | (dsimp only; omega)))) ((er52.trans (zabs_m hs1 (by omega) (by omega) (by omega))).trans (if_pos (by omega)).symm)
        | exact zPV_q Vn Xn ((zif_y (by first | omega | (dsimp only; omega))).trans (zif_n (by first | omega | (dsimp only; omega)))) ((zabs_9 (p := p) (c := c) (t := t.toNat) (show zgd c 0 ≠ 2 by omega)).trans (if_pos (show b = 0 by omega)).symm)
    · skip
      refine wp_bipush dX10_recovered_17 (by decide) ?_
      refine r_i dX10_recovered_19 rfl meX10_recovered ?_
      exact zPV_q Vn Xn ((zif_y (by first | omega | (dsimp only; omega))).trans (zif_y (by first | omega | (dsimp only; omega)))) rfl
  · skip
    refine wp_iconst dX10_recovered_8 ?_
    refine r_i dX10_recovered_9 rfl meX10_recovered ?_
    exact zPV_q H zFV_r (zif_n (by first | omega | (dsimp only; omega))) rfl
set_option maxRecDepth 100000 in
set_option maxHeartbeats 4000000 in
theorem t_X10_count {h : zH} {p : Int} {c : Nat → Nat → Int} {hs : List (Int × (Nat → Nat → Int))} {tx : Nat → Int} {L : Nat} (H : zVd p c hs tx L h) {w : Int} (zw : zin w) : CI yX10_count mX10_count [vR 445, vI w] h (fun r h' => zPV (sp_count (p, c, hs, tx, L) w) h r h') := by
  refine inV [some (vR 445), some (vI w)] mvX10_count rfl (Nat.le_of_ble_eq_true rfl) rfl ?_
  obtain ⟨hs1, hR, hH, hT, hK, hO⟩ := id H
  have hp := hs1.p
  have hp0 : h 446 0 = p := hR.1
  have hpp : 0 < p := by omega
  have zw1 := zw.1
  have zw2 := zw.2
  refine w_iload1 dX10_count_0 ?_
  by_cases co1 : w < 0 ∨ 6 < w
  · refine wp_tswOut 81 dX10_count_1 ⟨by omega, by omega⟩ co1 rfl ?_
    refine wp_iconst dX10_count_81 ?_
    refine r_i dX10_count_82 rfl meX10_count ?_
    refine zPV_q H zFV_r rfl ?_
    show (-1 : Int) = zcount _ w
    unfold zcount
    rw [if_neg (by omega), if_neg (by omega), if_neg (by omega), if_neg (by omega), if_neg (by omega), if_neg (by omega), if_neg (by omega)]
  rcases (show w = 0 ∨ w = 1 ∨ w = 2 ∨ w = 3 ∨ w = 4 ∨ w = 5 ∨ w = 6 by omega) with rfl | rfl | rfl | rfl | rfl | rfl | rfl
  · refine wp_tswIn 44 dX10_count_1 ⟨by decide, by decide⟩ (by decide) (by decide) rfl rfl ?_
    refine w_aload0 dX10_count_44 ?_
    apply v_i0 (M := mX10_count) dX10_count_45 lk_RX10_76 mvX10_p (by decide) meX10_count is_445 (Nat.le_of_ble_eq_true rfl)
    · exact t_X10_p hp0
    intro x45 h45 hP45
    obtain ⟨eh45, ex45⟩ := hP45
    replace eh45 := eh45.symm
    subst eh45
    replace ex45 := ex45.symm
    subst ex45
    refine r_i dX10_count_48 rfl meX10_count ?_
    exact zPV_q H zFV_r rfl rfl
  · refine wp_tswIn 49 dX10_count_1 ⟨by decide, by decide⟩ (by decide) (by decide) rfl rfl ?_
    refine w_aload0 dX10_count_49 (w_iload1 dX10_count_50 (wp_iconst dX10_count_51 (wp_isub dX10_count_52 ?_)))
    apply v_i1 (M := mX10_count) dX10_count_53 lk_RX10_170 mvX10_greatest (by decide) meX10_count is_445 (Nat.le_of_ble_eq_true rfl)
    · exact t_X10_greatest1 (by omega) hs1 hR
    intro x53 h53 hP53
    obtain ⟨eh53, ex53⟩ := hP53
    replace eh53 := eh53.symm
    subst eh53
    replace ex53 := ex53.symm
    subst ex53
    refine r_i dX10_count_56 rfl meX10_count ?_
    exact zPV_q H zFV_r rfl rfl
  · refine wp_tswIn 49 dX10_count_1 ⟨by decide, by decide⟩ (by decide) (by decide) rfl rfl ?_
    refine w_aload0 dX10_count_49 (w_iload1 dX10_count_50 (wp_iconst dX10_count_51 (wp_isub dX10_count_52 ?_)))
    apply v_i1 (M := mX10_count) dX10_count_53 lk_RX10_170 mvX10_greatest (by decide) meX10_count is_445 (Nat.le_of_ble_eq_true rfl)
    · exact t_X10_greatest1 (by omega) hs1 hR
    intro x53 h53 hP53
    obtain ⟨eh53, ex53⟩ := hP53
    replace eh53 := eh53.symm
    subst eh53
    replace ex53 := ex53.symm
    subst ex53
    refine r_i dX10_count_56 rfl meX10_count ?_
    exact zPV_q H zFV_r rfl rfl
  · refine wp_tswIn 57 dX10_count_1 ⟨by decide, by decide⟩ (by decide) (by decide) rfl rfl ?_
    refine w_aload0 dX10_count_57 (wp_geti dX10_count_58 fl_RX10_109 is_445 ?_)
    refine r_i dX10_count_61 rfl meX10_count ?_
    exact zPV_q H zFV_r rfl hT.1
  · refine wp_tswIn 62 dX10_count_1 ⟨by decide, by decide⟩ (by decide) (by decide) rfl rfl ?_
    refine w_aload0 dX10_count_62 (wp_geti dX10_count_63 fl_RX10_88 is_445 ?_)
    refine r_i dX10_count_66 rfl meX10_count ?_
    exact zPV_q H zFV_r rfl hH.1.1
  · refine wp_tswIn 67 dX10_count_1 ⟨by decide, by decide⟩ (by decide) (by decide) rfl rfl ?_
    refine w_aload0 dX10_count_67 ?_
    apply v_i0 (M := mX10_count) dX10_count_68 lk_RX10_150 mvX10_terms (by decide) meX10_count is_445 (Nat.le_of_ble_eq_true rfl)
    · exact t_X10_terms hs1 hR
    intro x68 h68 hP68
    obtain ⟨eh68, ex68⟩ := hP68
    replace eh68 := eh68.symm
    subst eh68
    replace ex68 := ex68.symm
    subst ex68
    refine r_i dX10_count_71 rfl meX10_count ?_
    exact zPV_q H zFV_r rfl rfl
  · refine wp_tswIn 72 dX10_count_1 ⟨by decide, by decide⟩ (by decide) (by decide) rfl rfl ?_
    refine w_aload0 dX10_count_72 ?_
    apply v_v0 (M := mX10_count) dX10_count_73 lk_RX10_235 mvX10_knowsRoots (by decide) meX10_count is_445 (Nat.le_of_ble_eq_true rfl)
    · exact t_X10_knowsRoots hs1 hR hO
    intro h73 hP73
    obtain ⟨fk, ak, bk⟩ := hP73
    have hVk : zVd p c hs tx L h73 := ⟨hs1, zMr_fr hR (fun j _ => fk _ _ (by unfold zFkr; omega)), ⟨zMb_fr hH.1 (fun a j ha => fk _ _ (by unfold zFkr; omega)), hH.2⟩, zMt_fr hT (fun a j ha => fk _ _ (by unfold zFkr; omega)), zMk_fr hK (fun a j ha => fk _ _ (by unfold zKnF at ha; unfold zFkr; omega)), Or.inr ⟨ak, bk⟩⟩
    have hXk : zFV h h73 := fun a j ha => fk _ _ (by unfold zFkr; omega)
    refine w_aload0 dX10_count_76 (wp_geti dX10_count_77 fl_RX10_284 is_445 ?_)
    refine r_i dX10_count_80 rfl meX10_count ?_
    exact zPV_q hVk hXk rfl bk.2.1
