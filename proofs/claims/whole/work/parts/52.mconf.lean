

set_option maxRecDepth 100000 in
set_option maxHeartbeats 4000000 in
theorem t_X10_isConfirmed {h : zH} {p : Int} {c : Nat → Nat → Int} {hs : List (Int × (Nat → Nat → Int))} {tx : Nat → Int} {L : Nat} (H : zVd p c hs tx L h) {t : Int} (hz : zsd c ≠ 0) (ht : 0 ≤ t ∧ t < p) (hk : zKn p c h) : CI yX10_isConfirmed mX10_isConfirmed [vR 445, vI t] h (fun r h' => zVd p c hs tx L h' ∧ zFV h h' ∧ zKn p c h' ∧ r = zcfv p c t) := by
  refine inV [some (vR 445), some (vI t), none, none] mvX10_isConfirmed rfl (Nat.le_of_ble_eq_true rfl) rfl ?_
  obtain ⟨hs1, hR, hH, hT, hK, hO⟩ := id H
  have hp := hs1.p
  have hp0 : h 446 0 = p := hR.1
  have hpp : 0 < p := by omega
  have hpp : 0 < p := by have := hs1.p; omega
  have hp := hs1.p
  have hs8 := zsd_le c
  obtain ⟨⟨a1, a2, a3⟩, a4, a5, -⟩ := id hk
  obtain ⟨hg2, hg3⟩ := zgd_12 hz
  have za := zabs_in hpp (c := c) (t := t.toNat)
  have zo := zord_in hpp (c := c) (t := t.toNat)
  have L80 : ∀ (h' : zH) (v : Int), (zVd p c hs tx L h') → (zFV h h') → (zKn p c h') → (v = zcfv p c t) → WP mX10_isConfirmed (zMQ mX10_isConfirmed (zKI (fun r h' => zVd p c hs tx L h' ∧ zFV h h' ∧ zKn p c h' ∧ r = zcfv p c t))) 80 [none, none, none, none] [vI v] zN zGR h' := by
    intro h' v hV hX hK2 hv
    refine r_i dX10_isConfirmed_80 rfl meX10_isConfirmed ?_
    exact ⟨hV, hX, hK2, by first | exact hv | (rw [hv]; unfold zcfv zif; split <;> rfl)⟩
  have L19 : ∀ (h' : zH) (x : Int), (zVd p c hs tx L h') → (zFV h h') → (zKn p c h') → (x = zabs p c t.toNat) → WP mX10_isConfirmed (zMQ mX10_isConfirmed (zKI (fun r h' => zVd p c hs tx L h' ∧ zFV h h' ∧ zKn p c h' ∧ r = zcfv p c t))) 19 [some (vR 445), some (vI t), none, none] [vI x] zN zGR h' := by
    intro h' x hV hX hK2 hx
    subst hx
    obtain ⟨⟨a11, a21, a31⟩, a41, a51, -⟩ := id hK2
    have v0 := zval_in hpp (c := c) (k := 0) (x := zabs p c t.toNat) (y := zord p c t.toNat) (t := t)
    have v1 := zval_in hpp (c := c) (k := 1) (x := zabs p c t.toNat) (y := zord p c t.toNat) (t := t)
    have v2 := zval_in hpp (c := c) (k := 2) (x := zabs p c t.toNat) (y := zord p c t.toNat) (t := t)
    refine w_istore2 dX10_isConfirmed_19 rfl (by decide) (w_aload0 dX10_isConfirmed_20 (w_iload1 dX10_isConfirmed_21 (w_aload0 dX10_isConfirmed_22 (wp_geti dX10_isConfirmed_23 fl_RX10_189 is_445 ?_))))
    rw [a11]
    apply v_i2 (M := mX10_isConfirmed) dX10_isConfirmed_26 lk_RX10_300 mvX10_recoveredAt (by decide) meX10_isConfirmed is_445 (Nat.le_of_ble_eq_true rfl)
    · exact t_X10_recoveredAt (n := zgd c 0) (rk := zrk p c t.toNat) (E := zEn p c) ht hp hV.2.1.1 hs8 a31 (fun r hr q hq e he => ⟨a41 r hr q hq e he, zEn_in (by omega)⟩) (by omega) (by omega) (a51 t.toNat (by omega)) (by have := zrk_le (p := p) (c := c) (t := t.toNat); omega)
    intro x26 h26 hP26
    obtain ⟨fr26, er26⟩ := hP26
    have Vr26 := zVd_fr hV (fun a j ha => fr26 a j (by unfold zVFm zKnF zKoF at ha; unfold zFke; omega))
    have Xr26 : zFV h h26 := zFV_t hX (fun a j ha => fr26 a j (by unfold zFke; omega))
    have Kr26 := zKn_fr hK2 (fun a j ha => fr26 a j (by unfold zKnF at ha; unfold zFke; omega))
    rw [er26.trans (zord_m hs1 hz ht)]
    refine w_istore3 dX10_isConfirmed_29 rfl (by decide) (w_iload2 dX10_isConfirmed_30 (wp_bipush dX10_isConfirmed_31 (by decide) ?_))
    refine wp_icmp_eq 79 dX10_isConfirmed_33 rfl ⟨by omega, by omega⟩ ⟨by omega, by omega⟩ (fun c33 => ?_) (fun c33 => ?_)
    · skip
      refine wp_iconst dX10_isConfirmed_79 ?_
      refine w_forget0 ?_
      refine w_forget1 ?_
      refine w_forget2 ?_
      refine w_forget3 ?_
      first
      | exact L80 _ _ Vr26 Xr26 Kr26 (zif_y (P := zcfm p c t) (by unfold zcfm; omega)).symm
      | exact L80 _ _ Vr26 Xr26 Kr26 (zif_n (P := zcfm p c t) (fun q => by unfold zcfm at q; omega)).symm
    · skip
      refine w_iload3 dX10_isConfirmed_36 (wp_bipush dX10_isConfirmed_37 (by decide) ?_)
      refine wp_icmp_eq 79 dX10_isConfirmed_39 rfl ⟨by omega, by omega⟩ ⟨by omega, by omega⟩ (fun c39 => ?_) (fun c39 => ?_)
      · skip
        refine wp_iconst dX10_isConfirmed_79 ?_
        refine w_forget0 ?_
        refine w_forget1 ?_
        refine w_forget2 ?_
        refine w_forget3 ?_
        first
        | exact L80 _ _ Vr26 Xr26 Kr26 (zif_y (P := zcfm p c t) (by unfold zcfm; omega)).symm
        | exact L80 _ _ Vr26 Xr26 Kr26 (zif_n (P := zcfm p c t) (fun q => by unfold zcfm at q; omega)).symm
      · skip
        refine w_aload0 dX10_isConfirmed_42 (wp_iconst dX10_isConfirmed_43 (w_iload2 dX10_isConfirmed_44 (w_iload3 dX10_isConfirmed_45 (w_iload1 dX10_isConfirmed_46 ?_))))
        apply v_i4 (M := mX10_isConfirmed) dX10_isConfirmed_47 lk_RX10_157 mvX10_valueOf (by decide) meX10_isConfirmed is_445 (Nat.le_of_ble_eq_true rfl)
        · exact t_X10_valueOf (k := 0) rfl (by decide) hs1 Vr26.2.1 (by omega) (by omega) ht
        intro x47 h47 hP47
        obtain ⟨eh47, ex47⟩ := hP47
        replace eh47 := eh47.symm
        subst eh47
        replace ex47 := ex47.symm
        subst ex47
        refine wp_if_ne 79 dX10_isConfirmed_50 rfl ⟨by omega, by omega⟩ (fun c50 => ?_) (fun c50 => ?_)
        · skip
          refine wp_iconst dX10_isConfirmed_79 ?_
          refine w_forget0 ?_
          refine w_forget1 ?_
          refine w_forget2 ?_
          refine w_forget3 ?_
          first
          | exact L80 _ _ Vr26 Xr26 Kr26 (zif_y (P := zcfm p c t) (by unfold zcfm; omega)).symm
          | exact L80 _ _ Vr26 Xr26 Kr26 (zif_n (P := zcfm p c t) (fun q => by unfold zcfm at q; omega)).symm
        · skip
          refine w_aload0 dX10_isConfirmed_53 (wp_iconst dX10_isConfirmed_54 (w_iload2 dX10_isConfirmed_55 (w_iload3 dX10_isConfirmed_56 (w_iload1 dX10_isConfirmed_57 ?_))))
          apply v_i4 (M := mX10_isConfirmed) dX10_isConfirmed_58 lk_RX10_157 mvX10_valueOf (by decide) meX10_isConfirmed is_445 (Nat.le_of_ble_eq_true rfl)
          · exact t_X10_valueOf (k := 1) rfl (by decide) hs1 Vr26.2.1 (by omega) (by omega) ht
          intro x58 h58 hP58
          obtain ⟨eh58, ex58⟩ := hP58
          replace eh58 := eh58.symm
          subst eh58
          replace ex58 := ex58.symm
          subst ex58
          refine wp_if_ne 79 dX10_isConfirmed_61 rfl ⟨by omega, by omega⟩ (fun c61 => ?_) (fun c61 => ?_)
          · skip
            refine wp_iconst dX10_isConfirmed_79 ?_
            refine w_forget0 ?_
            refine w_forget1 ?_
            refine w_forget2 ?_
            refine w_forget3 ?_
            first
            | exact L80 _ _ Vr26 Xr26 Kr26 (zif_y (P := zcfm p c t) (by unfold zcfm; omega)).symm
            | exact L80 _ _ Vr26 Xr26 Kr26 (zif_n (P := zcfm p c t) (fun q => by unfold zcfm at q; omega)).symm
          · skip
            refine w_aload0 dX10_isConfirmed_64 (wp_iconst dX10_isConfirmed_65 (w_iload2 dX10_isConfirmed_66 (w_iload3 dX10_isConfirmed_67 (w_iload1 dX10_isConfirmed_68 ?_))))
            apply v_i4 (M := mX10_isConfirmed) dX10_isConfirmed_69 lk_RX10_157 mvX10_valueOf (by decide) meX10_isConfirmed is_445 (Nat.le_of_ble_eq_true rfl)
            · exact t_X10_valueOf (k := 2) rfl (by decide) hs1 Vr26.2.1 (by omega) (by omega) ht
            intro x69 h69 hP69
            obtain ⟨eh69, ex69⟩ := hP69
            replace eh69 := eh69.symm
            subst eh69
            replace ex69 := ex69.symm
            subst ex69
            refine wp_if_ne 79 dX10_isConfirmed_72 rfl ⟨by omega, by omega⟩ (fun c72 => ?_) (fun c72 => ?_)
            · skip
              refine wp_iconst dX10_isConfirmed_79 ?_
              refine w_forget0 ?_
              refine w_forget1 ?_
              refine w_forget2 ?_
              refine w_forget3 ?_
              first
              | exact L80 _ _ Vr26 Xr26 Kr26 (zif_y (P := zcfm p c t) (by unfold zcfm; omega)).symm
              | exact L80 _ _ Vr26 Xr26 Kr26 (zif_n (P := zcfm p c t) (fun q => by unfold zcfm at q; omega)).symm
            · skip
              refine wp_iconst dX10_isConfirmed_75 (wp_goto 80 dX10_isConfirmed_76 rfl ?_)
              refine w_forget0 ?_
              refine w_forget1 ?_
              refine w_forget2 ?_
              refine w_forget3 ?_
              first
              | exact L80 _ _ Vr26 Xr26 Kr26 (zif_y (P := zcfm p c t) (by unfold zcfm; omega)).symm
              | exact L80 _ _ Vr26 Xr26 Kr26 (zif_n (P := zcfm p c t) (fun q => by unfold zcfm at q; omega)).symm
  refine w_aload0 dX10_isConfirmed_0 (wp_geti dX10_isConfirmed_1 fl_RX10_189 is_445 ?_)
  rw [a1]
  refine wp_iconst dX10_isConfirmed_4 ?_
  refine wp_icmp_ne 13 dX10_isConfirmed_5 rfl ⟨by omega, by omega⟩ ⟨by omega, by omega⟩ (fun c5 => ?_) (fun c5 => ?_)
  · skip
    refine w_aload0 dX10_isConfirmed_13 (w_iload1 dX10_isConfirmed_14 (wp_iconst dX10_isConfirmed_15 ?_))
    apply v_i2 (M := mX10_isConfirmed) dX10_isConfirmed_16 lk_RX10_300 mvX10_recoveredAt (by decide) meX10_isConfirmed is_445 (Nat.le_of_ble_eq_true rfl)
    · exact t_X10_recoveredAt (n := 1) (rk := zrk p c t.toNat) (E := zEn p c) ht hp H.2.1.1 hs8 a3 (fun r hr q hq e he => ⟨a4 r hr q hq e he, zEn_in (by omega)⟩) (by omega) (by omega) (a5 t.toNat (by omega)) (by have := zrk_le (p := p) (c := c) (t := t.toNat); omega)
    intro x16 h16 hP16
    obtain ⟨fr16, er16⟩ := hP16
    have Vr16 := zVd_fr H (fun a j ha => fr16 a j (by unfold zVFm zKnF zKoF at ha; unfold zFke; omega))
    have Xr16 : zFV h h16 := zFV_t zFV_r (fun a j ha => fr16 a j (by unfold zFke; omega))
    have Kr16 := zKn_fr hk (fun a j ha => fr16 a j (by unfold zKnF at ha; unfold zFke; omega))
    first
    | exact L19 _ _ Vr16 Xr16 Kr16 (er16.trans (zabs_m hs1 hz ht (by omega)))
    | exact L19 _ _ H zFV_r hk (zabs_9 (p := p) (c := c) (t := t.toNat) (by omega))
  · skip
    refine wp_bipush dX10_isConfirmed_8 (by decide) (wp_goto 19 dX10_isConfirmed_10 rfl ?_)
    first
    | exact L19 _ _ Vr16 Xr16 Kr16 (er16.trans (zabs_m hs1 hz ht (by omega)))
    | exact L19 _ _ H zFV_r hk (zabs_9 (p := p) (c := c) (t := t.toNat) (by omega))
set_option maxRecDepth 100000 in
set_option maxHeartbeats 4000000 in
theorem t_X10_confirmed {h : zH} {p : Int} {c : Nat → Nat → Int} {hs : List (Int × (Nat → Nat → Int))} {tx : Nat → Int} {L : Nat} (H : zVd p c hs tx L h) {t : Int} (zt : zin t) : CI yX10_confirmed mX10_confirmed [vR 445, vI t] h (fun r h' => zPV (sp_confirmed (p, c, hs, tx, L) t) h r h') := by
  refine inV [some (vR 445), some (vI t)] mvX10_confirmed rfl (Nat.le_of_ble_eq_true rfl) rfl ?_
  obtain ⟨hs1, hR, hH, hT, hK, hO⟩ := id H
  have hp := hs1.p
  have hp0 : h 446 0 = p := hR.1
  have hpp : 0 < p := by omega
  have zt1 := zt.1
  have zt2 := zt.2
  refine w_aload0 dX10_confirmed_0 (w_iload1 dX10_confirmed_1 ?_)
  apply v_i1 (M := mX10_confirmed) dX10_confirmed_2 lk_RX10_142 mvX10_isNumber (by decide) meX10_confirmed is_445 (Nat.le_of_ble_eq_true rfl)
  · exact t_X10_isNumber zt hp hp0
  intro x2 h2 hP2
  obtain ⟨eh2, hP2⟩ := hP2
  replace eh2 := eh2.symm
  subst eh2
  refine wp_if_ne 10 dX10_confirmed_5 rfl ⟨by omega, by omega⟩ (fun c5 => ?_) (fun c5 => ?_)
  · skip
    refine w_aload0 dX10_confirmed_10 ?_
    apply v_i0 (M := mX10_confirmed) dX10_confirmed_11 lk_RX10_277 mvX10_has (by decide) meX10_confirmed is_445 (Nat.le_of_ble_eq_true rfl)
    · exact t_X10_has H
    intro x11 h11 hP11
    obtain ⟨Vn, Xn, bn1, bn2, bn3⟩ := hP11
    obtain ⟨sn, Rn, Hn, Tn, Kn, On⟩ := id Vn
    refine wp_if_eq 25 dX10_confirmed_14 rfl ⟨by omega, by omega⟩ (fun c14 => ?_) (fun c14 => ?_)
    · skip
      refine wp_bipush dX10_confirmed_25 (by decide) ?_
      refine r_i dX10_confirmed_27 rfl meX10_confirmed ?_
      first
      | exact zPV_q V19 (zFV_t Xn X19) ((zif_y (by first | omega | (dsimp only; omega))).trans (zif_n (by first | omega | (dsimp only; omega)))) e19
      | exact zPV_q Vn Xn ((zif_y (by first | omega | (dsimp only; omega))).trans (zif_y (by first | omega | (dsimp only; omega)))) rfl
    · skip
      refine w_aload0 dX10_confirmed_17 (w_iload1 dX10_confirmed_18 ?_)
      apply v_i1 (M := mX10_confirmed) dX10_confirmed_19 lk_RX10_303 mvX10_isConfirmed (by decide) meX10_confirmed is_445 (Nat.le_of_ble_eq_true rfl)
      · exact t_X10_isConfirmed Vn (by omega) (by omega) (bn3 (by omega))
      intro x19 h19 hP19
      obtain ⟨V19, X19, K19, e19⟩ := hP19
      refine wp_goto 27 dX10_confirmed_22 rfl ?_
      refine r_i dX10_confirmed_27 rfl meX10_confirmed ?_
      first
      | exact zPV_q V19 (zFV_t Xn X19) ((zif_y (by first | omega | (dsimp only; omega))).trans (zif_n (by first | omega | (dsimp only; omega)))) e19
      | exact zPV_q Vn Xn ((zif_y (by first | omega | (dsimp only; omega))).trans (zif_y (by first | omega | (dsimp only; omega)))) rfl
  · skip
    refine wp_iconst dX10_confirmed_8 ?_
    refine r_i dX10_confirmed_9 rfl meX10_confirmed ?_
    exact zPV_q H zFV_r (zif_n (by first | omega | (dsimp only; omega))) rfl
