
noncomputable def sp_pairs (s : zS) : Int × zS := ((zpairs s.1 s.2.1 : Int), s)

set_option maxRecDepth 100000 in
set_option maxHeartbeats 4000000 in
theorem t_X9_commonRoots {h : zH} {p : Int} {c : Nat → Nat → Int} {hs : List (Int × (Nat → Nat → Int))} {tx : Nat → Int} {L : Nat} (H : zWd p c hs tx L h) {t : Int} (zt : zin t) : CI yX9_commonRoots mX9_commonRoots [vR 1, vI t] h (fun r h' => zPX (sp_commonRoots (p, c, hs, tx, L) t) h r h') := by
  refine inV [some (vR 1), some (vI t)] mvX9_commonRoots rfl (Nat.le_of_ble_eq_true rfl) rfl ?_
  obtain ⟨hs1, hP, hH, hT, hC⟩ := id H
  have hp := hs1.p
  have hp0 : h 2 0 = p := hP.1
  have hpp : 0 < p := by omega
  have zt1 := zt.1
  have zt2 := zt.2
  refine w_iload1 dX9_commonRoots_0 (w_aload0 dX9_commonRoots_1 (wp_getr 2 dX9_commonRoots_2 fl_RX9_20 is_1 rfl (wp_geti dX9_commonRoots_5 fl_RX9_68 is_2 (wp_iconst dX9_commonRoots_8 (wp_isub dX9_commonRoots_9 ?_)))))
  rw [hp0]
  apply s_i2 (M := mX9_commonRoots) dX9_commonRoots_10 lk_RX9_84 mvX9_outside (by decide) meX9_commonRoots (Nat.le_of_ble_eq_true rfl)
  · exact t_X9_outside zt ⟨by omega, by omega⟩
  intro x10 h10 hP10
  obtain ⟨eh10, hP10⟩ := hP10
  replace eh10 := eh10.symm
  subst eh10
  refine wp_if_eq 18 dX9_commonRoots_13 rfl ⟨by omega, by omega⟩ (fun c13 => ?_) (fun c13 => ?_)
  · skip
    refine w_aload0 dX9_commonRoots_18 (wp_getr 141 dX9_commonRoots_19 fl_RX9_43 is_1 rfl (w_iload1 dX9_commonRoots_22 ?_))
    apply v_v1 (M := mX9_commonRoots) dX9_commonRoots_23 lk_RX9_218 mvX6_search (by decide) meX9_commonRoots is_141 (Nat.le_of_ble_eq_true rfl)
    · exact t_X6_search (t := t.toNat) (by omega) hs1 (by omega) hP hC.1
    intro h23 hP23
    obtain ⟨fo, ao, bo⟩ := hP23
    obtain ⟨Wo, Xo⟩ := zWd_ro H fo ao
    refine w_aload0 dX9_commonRoots_26 (wp_getr 141 dX9_commonRoots_27 fl_RX9_43 is_1 rfl (w_iload1 dX9_commonRoots_30 ?_))
    apply v_i1 (M := mX9_commonRoots) dX9_commonRoots_31 lk_RX9_221 mvX6_countAt (by decide) meX9_commonRoots is_141 (Nat.le_of_ble_eq_true rfl)
    · exact t_X6_countAt (t := t.toNat) (by omega) hp (by omega) bo
    intro x31 h31 hP31
    obtain ⟨eh31, ex31⟩ := hP31
    replace eh31 := eh31.symm
    subst eh31
    replace ex31 := ex31.symm
    subst ex31
    refine r_i dX9_commonRoots_34 rfl meX9_commonRoots ?_
    exact zPX_q Wo Xo (zif_y (by first | omega | (dsimp only; omega))) (by rw [show ((t.toNat : Nat) : Int) = t by omega])
  · skip
    refine wp_iconst dX9_commonRoots_16 ?_
    refine r_i dX9_commonRoots_17 rfl meX9_commonRoots ?_
    exact zPX_q H zFX_r (zif_n (by first | omega | (dsimp only; omega))) rfl
set_option maxRecDepth 100000 in
set_option maxHeartbeats 4000000 in
theorem t_X9_commonRoot {h : zH} {p : Int} {c : Nat → Nat → Int} {hs : List (Int × (Nat → Nat → Int))} {tx : Nat → Int} {L : Nat} (H : zWd p c hs tx L h) {t i : Int} (zt : zin t) (zi : zin i) : CI yX9_commonRoot mX9_commonRoot [vR 1, vI t, vI i] h (fun r h' => zPX (sp_commonRoot (p, c, hs, tx, L) t i) h r h') := by
  refine inV [some (vR 1), some (vI t), some (vI i)] mvX9_commonRoot rfl (Nat.le_of_ble_eq_true rfl) rfl ?_
  obtain ⟨hs1, hP, hH, hT, hC⟩ := id H
  have hp := hs1.p
  have hp0 : h 2 0 = p := hP.1
  have hpp : 0 < p := by omega
  have zt1 := zt.1
  have zt2 := zt.2
  have zi1 := zi.1
  have zi2 := zi.2
  refine w_iload1 dX9_commonRoot_0 (w_aload0 dX9_commonRoot_1 (wp_getr 2 dX9_commonRoot_2 fl_RX9_20 is_1 rfl (wp_geti dX9_commonRoot_5 fl_RX9_68 is_2 (wp_iconst dX9_commonRoot_8 (wp_isub dX9_commonRoot_9 ?_)))))
  rw [hp0]
  apply s_i2 (M := mX9_commonRoot) dX9_commonRoot_10 lk_RX9_84 mvX9_outside (by decide) meX9_commonRoot (Nat.le_of_ble_eq_true rfl)
  · exact t_X9_outside zt ⟨by omega, by omega⟩
  intro x10 h10 hP10
  obtain ⟨eh10, hP10⟩ := hP10
  replace eh10 := eh10.symm
  subst eh10
  refine wp_if_ne 20 dX9_commonRoot_13 rfl ⟨by omega, by omega⟩ (fun c13 => ?_) (fun c13 => ?_)
  · skip
    refine wp_iconst dX9_commonRoot_20 ?_
    refine r_i dX9_commonRoot_21 rfl meX9_commonRoot ?_
    exact zPX_q H zFX_r (zif_n (by first | omega | (dsimp only; omega))) rfl
  · skip
    refine w_iload2 dX9_commonRoot_16 ?_
    refine wp_if_ge 22 dX9_commonRoot_17 rfl ⟨by omega, by omega⟩ (fun c17 => ?_) (fun c17 => ?_)
    · skip
      refine w_aload0 dX9_commonRoot_22 (wp_getr 141 dX9_commonRoot_23 fl_RX9_43 is_1 rfl (w_iload1 dX9_commonRoot_26 ?_))
      apply v_v1 (M := mX9_commonRoot) dX9_commonRoot_27 lk_RX9_218 mvX6_search (by decide) meX9_commonRoot is_141 (Nat.le_of_ble_eq_true rfl)
      · exact t_X6_search (t := t.toNat) (by omega) hs1 (by omega) hP hC.1
      intro h27 hP27
      obtain ⟨fo, ao, bo⟩ := hP27
      obtain ⟨Wo, Xo⟩ := zWd_ro H fo ao
      refine w_aload0 dX9_commonRoot_30 (wp_getr 141 dX9_commonRoot_31 fl_RX9_43 is_1 rfl (w_iload1 dX9_commonRoot_34 (w_iload2 dX9_commonRoot_35 ?_)))
      apply v_i2 (M := mX9_commonRoot) dX9_commonRoot_36 lk_RX9_224 mvX6_rootAt (by decide) meX9_commonRoot is_141 (Nat.le_of_ble_eq_true rfl)
      · exact t_X6_rootAt (t := t.toNat) (idx := i.toNat) (by omega) (by omega) (by omega) hp (by omega) bo
      intro x36 h36 hP36
      obtain ⟨eh36, hP36⟩ := hP36
      replace eh36 := eh36.symm
      subst eh36
      refine r_i dX9_commonRoot_39 rfl meX9_commonRoot ?_
      exact zPX_q Wo Xo (zif_y (by first | omega | (dsimp only; omega))) (by rw [show ((t.toNat : Nat) : Int) = t by omega] at hP36; exact zrtF_eq hP36)
    · skip
      refine wp_iconst dX9_commonRoot_20 ?_
      refine r_i dX9_commonRoot_21 rfl meX9_commonRoot ?_
      exact zPX_q H zFX_r (zif_n (by first | omega | (dsimp only; omega))) rfl
set_option maxRecDepth 100000 in
set_option maxHeartbeats 4000000 in
theorem t_X9_solvable {h : zH} {p : Int} {c : Nat → Nat → Int} {hs : List (Int × (Nat → Nat → Int))} {tx : Nat → Int} {L : Nat} (H : zWd p c hs tx L h) : CI yX9_solvable mX9_solvable [vR 1] h (fun r h' => zPX (sp_solvable (p, c, hs, tx, L)) h r h') := by
  refine inV [some (vR 1), none, none] mvX9_solvable rfl (Nat.le_of_ble_eq_true rfl) rfl ?_
  obtain ⟨hs1, hP, hH, hT, hC⟩ := id H
  have hp := hs1.p
  have hp0 : h 2 0 = p := hP.1
  have hpp : 0 < p := by omega
  have L4 : ∀ (zm4 : Nat) (i : Nat) (h' : zH) (vs vi : Int), p.toNat - i = zm4 → ((i : Int) ≤ p) → (vi = (i : Int)) → (vs = (zmk (fun t => 0 < zcn p c (t : Int)) i : Int)) → (zWd p c hs tx L h') → (zFX h h') → WP mX9_solvable (zMQ mX9_solvable (zKI (fun r h' => zPX (sp_solvable (p, c, hs, tx, L)) h r h'))) 4 [some (vR 1), some (vI vs), some (vI vi)] [] zN zGR h' := by
    intro zm4
    induction zm4 using Nat.strongRecOn with | _ zm4 ih4 => ?_
    intro i h' vs vi hzm4 hi hvi hvs hW hX
    subst hzm4
    have hmb := zmk_b8 (P := fun t => 0 < zcn p c (t : Int)) (i := i) (by omega)
    obtain ⟨s', P', H', T', C'⟩ := id hW
    have hq0 : h' 2 0 = p := P'.1
    refine w_iload2 dX9_solvable_4 (w_aload0 dX9_solvable_5 (wp_getr 2 dX9_solvable_6 fl_RX9_20 is_1 rfl (wp_geti dX9_solvable_9 fl_RX9_68 is_2 ?_)))
    rw [hq0]
    refine wp_icmp_ge 46 dX9_solvable_12 rfl ⟨by omega, by omega⟩ ⟨by omega, by omega⟩ (fun c12 => ?_) (fun c12 => ?_)
    · skip
      refine w_iload1 dX9_solvable_46 ?_
      refine r_i dX9_solvable_47 rfl meX9_solvable ?_
      rw [show i = p.toNat by omega] at hvs
      exact zPX_q hW hX rfl hvs
    · skip
      refine w_aload0 dX9_solvable_15 (wp_getr 141 dX9_solvable_16 fl_RX9_43 is_1 rfl (w_iload2 dX9_solvable_19 ?_))
      apply v_v1 (M := mX9_solvable) dX9_solvable_20 lk_RX9_218 mvX6_search (by decide) meX9_solvable is_141 (Nat.le_of_ble_eq_true rfl)
      · exact t_X6_search hvi s' (by omega) P' C'.1
      intro h20 hP20
      obtain ⟨fo, ao, bo⟩ := hP20
      obtain ⟨Wo, Xo⟩ := zWd_ro hW fo ao
      refine w_aload0 dX9_solvable_23 (wp_getr 141 dX9_solvable_24 fl_RX9_43 is_1 rfl (w_iload2 dX9_solvable_27 ?_))
      apply v_i1 (M := mX9_solvable) dX9_solvable_28 lk_RX9_221 mvX6_countAt (by decide) meX9_solvable is_141 (Nat.le_of_ble_eq_true rfl)
      · exact t_X6_countAt hvi hp (by omega) bo
      intro x28 h28 hP28
      obtain ⟨eh28, ex28⟩ := hP28
      replace eh28 := eh28.symm
      subst eh28
      replace ex28 := ex28.symm
      subst ex28
      refine wp_if_le 40 dX9_solvable_31 rfl (by have := zcn_le hp.2 (c := c) (t := (i : Int)); exact ⟨by omega, by omega⟩) (fun c31 => ?_) (fun c31 => ?_)
      · skip
        refine w_iinc2 dX9_solvable_40 rfl (by decide) (wp_goto 4 dX9_solvable_43 rfl ?_)
        first
        | (have c9 : ¬ 0 < zcn p c (i : Int) := by omega
           refine ih4 _ (by omega) (i + 1) _ _ _ rfl (by omega) (by omega) ?_ Wo (zFX_t hX Xo)
           rw [hvs, zmk_n (P := fun t => 0 < zcn p c (t : Int)) c9])
        | (have c9 : 0 < zcn p c (i : Int) := by omega
           refine ih4 _ (by omega) (i + 1) _ _ _ rfl (by omega) (by omega) ?_ Wo (zFX_t hX Xo)
           rw [hvs, hvi, z_or1, zmk_or, zmk_y (P := fun t => 0 < zcn p c (t : Int)) c9])
      · skip
        refine w_iload1 dX9_solvable_34 (wp_iconst dX9_solvable_35 (w_iload2 dX9_solvable_36 (wp_ishl dX9_solvable_37 (by omega) (wp_ior dX9_solvable_38 ⟨by omega, by omega⟩ (by rw [hvi]; exact z_1s i (by omega)) (w_istore1 dX9_solvable_39 rfl (by decide) (w_iinc2 dX9_solvable_40 rfl (by decide) (wp_goto 4 dX9_solvable_43 rfl ?_)))))))
        first
        | (have c9 : ¬ 0 < zcn p c (i : Int) := by omega
           refine ih4 _ (by omega) (i + 1) _ _ _ rfl (by omega) (by omega) ?_ Wo (zFX_t hX Xo)
           rw [hvs, zmk_n (P := fun t => 0 < zcn p c (t : Int)) c9])
        | (have c9 : 0 < zcn p c (i : Int) := by omega
           refine ih4 _ (by omega) (i + 1) _ _ _ rfl (by omega) (by omega) ?_ Wo (zFX_t hX Xo)
           rw [hvs, hvi, z_or1, zmk_or, zmk_y (P := fun t => 0 < zcn p c (t : Int)) c9])
  refine wp_iconst dX9_solvable_0 (w_istore1 dX9_solvable_1 rfl (by decide) (wp_iconst dX9_solvable_2 (w_istore2 dX9_solvable_3 rfl (by decide) ?_)))
  exact L4 _ 0 _ _ _ rfl (by omega) rfl rfl H zFX_r
set_option maxRecDepth 100000 in
set_option maxHeartbeats 4000000 in
theorem t_X9_countPairs {h : zH} {p : Int} {c : Nat → Nat → Int} {hs : List (Int × (Nat → Nat → Int))} {tx : Nat → Int} {L : Nat} (H : zWd p c hs tx L h) : CI yX9_countPairs mX9_countPairs [vR 1] h (fun r h' => zPX (sp_pairs (p, c, hs, tx, L)) h r h') := by
  refine inV [some (vR 1), none, none] mvX9_countPairs rfl (Nat.le_of_ble_eq_true rfl) rfl ?_
  obtain ⟨hs1, hP, hH, hT, hC⟩ := id H
  have hp := hs1.p
  have hp0 : h 2 0 = p := hP.1
  have hpp : 0 < p := by omega
  have L4 : ∀ (zm4 : Nat) (i : Nat) (h' : zH) (vs vi : Int), p.toNat - i = zm4 → ((i : Int) ≤ p) → (vi = (i : Int)) → (vs = (zsumN (fun t => zcn p c (t : Int)) i : Int)) → (zWd p c hs tx L h') → (zFX h h') → WP mX9_countPairs (zMQ mX9_countPairs (zKI (fun r h' => zPX (sp_pairs (p, c, hs, tx, L)) h r h'))) 4 [some (vR 1), some (vI vs), some (vI vi)] [] zN zGR h' := by
    intro zm4
    induction zm4 using Nat.strongRecOn with | _ zm4 ih4 => ?_
    intro i h' vs vi hzm4 hi hvi hvs hW hX
    subst hzm4
    obtain ⟨s', P', H', T', C'⟩ := id hW
    have hq0 : h' 2 0 = p := P'.1
    refine w_iload2 dX9_countPairs_4 (w_aload0 dX9_countPairs_5 (wp_getr 2 dX9_countPairs_6 fl_RX9_20 is_1 rfl (wp_geti dX9_countPairs_9 fl_RX9_68 is_2 ?_)))
    rw [hq0]
    refine wp_icmp_ge 40 dX9_countPairs_12 rfl ⟨by omega, by omega⟩ ⟨by omega, by omega⟩ (fun c12 => ?_) (fun c12 => ?_)
    · skip
      refine w_iload1 dX9_countPairs_40 ?_
      refine r_i dX9_countPairs_41 rfl meX9_countPairs ?_
      rw [show i = p.toNat by omega] at hvs
      exact zPX_q hW hX rfl hvs
    · skip
      refine w_aload0 dX9_countPairs_15 (wp_getr 141 dX9_countPairs_16 fl_RX9_43 is_1 rfl (w_iload2 dX9_countPairs_19 ?_))
      apply v_v1 (M := mX9_countPairs) dX9_countPairs_20 lk_RX9_218 mvX6_search (by decide) meX9_countPairs is_141 (Nat.le_of_ble_eq_true rfl)
      · exact t_X6_search hvi s' (by omega) P' C'.1
      intro h20 hP20
      obtain ⟨fo, ao, bo⟩ := hP20
      obtain ⟨Wo, Xo⟩ := zWd_ro hW fo ao
      refine w_iload1 dX9_countPairs_23 (w_aload0 dX9_countPairs_24 (wp_getr 141 dX9_countPairs_25 fl_RX9_43 is_1 rfl (w_iload2 dX9_countPairs_28 ?_)))
      apply v_i1 (M := mX9_countPairs) dX9_countPairs_29 lk_RX9_221 mvX6_countAt (by decide) meX9_countPairs is_141 (Nat.le_of_ble_eq_true rfl)
      · exact t_X6_countAt hvi hp (by omega) bo
      intro x29 h29 hP29
      obtain ⟨eh29, ex29⟩ := hP29
      replace eh29 := eh29.symm
      subst eh29
      replace ex29 := ex29.symm
      subst ex29
      refine wp_iadd dX9_countPairs_32 (w_istore1 dX9_countPairs_33 rfl (by decide) (w_iinc2 dX9_countPairs_34 rfl (by decide) (wp_goto 4 dX9_countPairs_37 rfl ?_)))
      refine ih4 _ (by omega) (i + 1) _ _ _ rfl (by omega) (by omega) ?_ Wo (zFX_t hX Xo)
      show _ = ((zsumN (fun t => zcn p c (t : Int)) i + zcn p c (i : Int) : Nat) : Int)
      omega
  refine wp_iconst dX9_countPairs_0 (w_istore1 dX9_countPairs_1 rfl (by decide) (wp_iconst dX9_countPairs_2 (w_istore2 dX9_countPairs_3 rfl (by decide) ?_)))
  exact L4 _ 0 _ _ _ rfl (by omega) rfl rfl H zFX_r
set_option maxRecDepth 100000 in
set_option maxHeartbeats 4000000 in
theorem t_X9_kernel {h : zH} {p : Int} {c : Nat → Nat → Int} {hs : List (Int × (Nat → Nat → Int))} {tx : Nat → Int} {L : Nat} (H : zWd p c hs tx L h) {t : Int} (zt : zin t) : CI yX9_kernel mX9_kernel [vR 1, vI t] h (fun r h' => zPX (sp_kernel (p, c, hs, tx, L) t) h r h') := by
  refine inV [some (vR 1), some (vI t)] mvX9_kernel rfl (Nat.le_of_ble_eq_true rfl) rfl ?_
  obtain ⟨hs1, hP, hH, hT, hC⟩ := id H
  have hp := hs1.p
  have hp0 : h 2 0 = p := hP.1
  have hpp : 0 < p := by omega
  have zt1 := zt.1
  have zt2 := zt.2
  refine w_iload1 dX9_kernel_0 (w_aload0 dX9_kernel_1 (wp_getr 2 dX9_kernel_2 fl_RX9_20 is_1 rfl (wp_geti dX9_kernel_5 fl_RX9_68 is_2 (wp_iconst dX9_kernel_8 (wp_isub dX9_kernel_9 ?_)))))
  rw [hp0]
  apply s_i2 (M := mX9_kernel) dX9_kernel_10 lk_RX9_84 mvX9_outside (by decide) meX9_kernel (Nat.le_of_ble_eq_true rfl)
  · exact t_X9_outside zt ⟨by omega, by omega⟩
  intro x10 h10 hP10
  obtain ⟨eh10, hP10⟩ := hP10
  replace eh10 := eh10.symm
  subst eh10
  refine wp_if_eq 18 dX9_kernel_13 rfl ⟨by omega, by omega⟩ (fun c13 => ?_) (fun c13 => ?_)
  · skip
    refine w_aload0 dX9_kernel_18 ?_
    apply v_i0 (M := mX9_kernel) dX9_kernel_19 lk_RX9_159 mvX9_noMatrix (by decide) meX9_kernel is_1 (Nat.le_of_ble_eq_true rfl)
    · exact t_X9_noMatrix H
    intro x19 h19 hP19
    obtain ⟨Xn, Wn, r73, Dn, bn, iN⟩ := hP19
    obtain ⟨sn, Pn, Hn, Tn, cn1, cn2, cn3, cn4, cn5, cn6⟩ := id Wn
    refine wp_if_eq 28 dX9_kernel_22 rfl ⟨by omega, by omega⟩ (fun c22 => ?_) (fun c22 => ?_)
    · skip
      refine w_aload0 dX9_kernel_28 (wp_getr 78 dX9_kernel_29 fl_RX9_51 is_1 rfl (w_iload1 dX9_kernel_32 ?_))
      apply v_v1 (M := mX9_kernel) dX9_kernel_33 lk_RX9_177 mvX5_examine (by decide) meX9_kernel is_78 (Nat.le_of_ble_eq_true rfl)
      · exact t_X5_examine (t := t.toNat) (by omega) hs1 (by omega) Pn Dn (zsd_2 (by omega)) cn3
      intro h33 hP33
      obtain ⟨fx, ax, bx⟩ := hP33
      obtain ⟨Wx, Xx⟩ := zWd_ex Wn fx ax
      have Xx2 := zFX_t Xn Xx
      obtain ⟨k1, k2, k3, k4⟩ := id bx
      refine w_aload0 dX9_kernel_36 (wp_getr 7 dX9_kernel_37 fl_RX9_47 is_1 rfl (wp_geti dX9_kernel_40 fl_RX9_163 is_7 ?_))
      rw [show h33 7 2 = (zsd c : Int) by rw [fx _ _ (by unfold zFRk; omega)]; exact Dn.2.2.1]
      refine w_aload0 dX9_kernel_43 (wp_getr 78 dX9_kernel_44 fl_RX9_51 is_1 rfl (w_iload1 dX9_kernel_47 ?_))
      apply v_i1 (M := mX9_kernel) dX9_kernel_48 lk_RX9_180 mvX5_rankOf (by decide) meX9_kernel is_78 (Nat.le_of_ble_eq_true rfl)
      · exact t_X5_rankOf (t := t.toNat) (by omega) (by omega)
      intro x48 h48 hP48
      obtain ⟨eh48, ex48⟩ := hP48
      replace eh48 := eh48.symm
      subst eh48
      replace ex48 := ex48.symm
      subst ex48
      refine wp_isub dX9_kernel_51 ?_
      refine r_i dX9_kernel_52 rfl meX9_kernel ?_
      exact zPX_q Wx Xx2 ((zif_y (by first | omega | (dsimp only; omega))).trans (zif_n (by first | omega | (dsimp only; omega)))) (by rw [k1])
    · skip
      refine wp_bipush dX9_kernel_25 (by decide) ?_
      refine r_i dX9_kernel_27 rfl meX9_kernel ?_
      exact zPX_q Wn Xn ((zif_y (by first | omega | (dsimp only; omega))).trans (zif_y (by first | omega | (dsimp only; omega)))) rfl
  · skip
    refine wp_iconst dX9_kernel_16 ?_
    refine r_i dX9_kernel_17 rfl meX9_kernel ?_
    exact zPX_q H zFX_r (zif_n (by first | omega | (dsimp only; omega))) rfl
set_option maxRecDepth 100000 in
set_option maxHeartbeats 4000000 in
theorem t_X9_recovered {h : zH} {p : Int} {c : Nat → Nat → Int} {hs : List (Int × (Nat → Nat → Int))} {tx : Nat → Int} {L : Nat} (H : zWd p c hs tx L h) {t b : Int} (zt : zin t) (zb : b = 0 ∨ b = 1) : CI yX9_recovered mX9_recovered [vR 1, vI t, vI b] h (fun r h' => zPX (sp_recovered (p, c, hs, tx, L) t b) h r h') := by
  refine inV [some (vR 1), some (vI t), some (vI b)] mvX9_recovered rfl (Nat.le_of_ble_eq_true rfl) rfl ?_
  obtain ⟨hs1, hP, hH, hT, hC⟩ := id H
  have hp := hs1.p
  have hp0 : h 2 0 = p := hP.1
  have hpp : 0 < p := by omega
  have zt1 := zt.1
  have zt2 := zt.2
  refine w_iload1 dX9_recovered_0 (w_aload0 dX9_recovered_1 (wp_getr 2 dX9_recovered_2 fl_RX9_20 is_1 rfl (wp_geti dX9_recovered_5 fl_RX9_68 is_2 (wp_iconst dX9_recovered_8 (wp_isub dX9_recovered_9 ?_)))))
  rw [hp0]
  apply s_i2 (M := mX9_recovered) dX9_recovered_10 lk_RX9_84 mvX9_outside (by decide) meX9_recovered (Nat.le_of_ble_eq_true rfl)
  · exact t_X9_outside zt ⟨by omega, by omega⟩
  intro x10 h10 hP10
  obtain ⟨eh10, hP10⟩ := hP10
  replace eh10 := eh10.symm
  subst eh10
  refine wp_if_eq 18 dX9_recovered_13 rfl ⟨by omega, by omega⟩ (fun c13 => ?_) (fun c13 => ?_)
  · skip
    refine w_aload0 dX9_recovered_18 ?_
    apply v_i0 (M := mX9_recovered) dX9_recovered_19 lk_RX9_159 mvX9_noMatrix (by decide) meX9_recovered is_1 (Nat.le_of_ble_eq_true rfl)
    · exact t_X9_noMatrix H
    intro x19 h19 hP19
    obtain ⟨Xn, Wn, r73, Dn, bn, iN⟩ := hP19
    obtain ⟨sn, Pn, Hn, Tn, cn1, cn2, cn3, cn4, cn5, cn6⟩ := id Wn
    refine wp_if_eq 28 dX9_recovered_22 rfl ⟨by omega, by omega⟩ (fun c22 => ?_) (fun c22 => ?_)
    · skip
      refine w_aload0 dX9_recovered_28 (wp_getr 78 dX9_recovered_29 fl_RX9_51 is_1 rfl (w_iload1 dX9_recovered_32 ?_))
      apply v_v1 (M := mX9_recovered) dX9_recovered_33 lk_RX9_177 mvX5_examine (by decide) meX9_recovered is_78 (Nat.le_of_ble_eq_true rfl)
      · exact t_X5_examine (t := t.toNat) (by omega) hs1 (by omega) Pn Dn (zsd_2 (by omega)) cn3
      intro h33 hP33
      obtain ⟨fx, ax, bx⟩ := hP33
      obtain ⟨Wx, Xx⟩ := zWd_ex Wn fx ax
      have Xx2 := zFX_t Xn Xx
      obtain ⟨k1, k2, k3, k4⟩ := id bx
      refine w_aload0 dX9_recovered_36 (wp_getr 78 dX9_recovered_37 fl_RX9_51 is_1 rfl (w_iload1 dX9_recovered_40 (w_iload2 dX9_recovered_41 ?_)))
      apply v_i2 (M := mX9_recovered) dX9_recovered_42 lk_RX9_227 mvX5_coordinate (by decide) meX9_recovered is_78 (Nat.le_of_ble_eq_true rfl)
      · exact t_X5_coordinate (t := t.toNat) (by omega) (by omega) zb
      intro x42 h42 hP42
      obtain ⟨eh42, ex42⟩ := hP42
      replace eh42 := eh42.symm
      subst eh42
      replace ex42 := ex42.symm
      subst ex42
      refine r_i dX9_recovered_45 rfl meX9_recovered ?_
      exact zPX_q Wx Xx2 ((zif_y (by first | omega | (dsimp only; omega))).trans (zif_n (by first | omega | (dsimp only; omega)))) (by rw [k3, k4])
    · skip
      refine wp_bipush dX9_recovered_25 (by decide) ?_
      refine r_i dX9_recovered_27 rfl meX9_recovered ?_
      exact zPX_q Wn Xn ((zif_y (by first | omega | (dsimp only; omega))).trans (zif_y (by first | omega | (dsimp only; omega)))) rfl
  · skip
    refine wp_iconst dX9_recovered_16 ?_
    refine r_i dX9_recovered_17 rfl meX9_recovered ?_
    exact zPX_q H zFX_r (zif_n (by first | omega | (dsimp only; omega))) rfl
set_option maxRecDepth 100000 in
set_option maxHeartbeats 4000000 in
theorem t_X9_confirmed {h : zH} {p : Int} {c : Nat → Nat → Int} {hs : List (Int × (Nat → Nat → Int))} {tx : Nat → Int} {L : Nat} (H : zWd p c hs tx L h) {t : Int} (zt : zin t) : CI yX9_confirmed mX9_confirmed [vR 1, vI t] h (fun r h' => zPX (sp_confirmed (p, c, hs, tx, L) t) h r h') := by
  refine inV [some (vR 1), some (vI t), none, none, none] mvX9_confirmed rfl (Nat.le_of_ble_eq_true rfl) rfl ?_
  obtain ⟨hs1, hP, hH, hT, hC⟩ := id H
  have hp := hs1.p
  have hp0 : h 2 0 = p := hP.1
  have hpp : 0 < p := by omega
  have zt1 := zt.1
  have zt2 := zt.2
  have L117 : ∀ (h' : zH) (v : Int), (zWd p c hs tx L h') → (zFX h h') → ((0 ≤ t ∧ t < p) ∧ ¬ zsd c = 0) → (v = zcfv p c t) → (v = 0 ∨ v = 1) → WP mX9_confirmed (zMQ mX9_confirmed (zKI (fun r h' => zPX (sp_confirmed (p, c, hs, tx, L) t) h r h'))) 117 [none, none, none, none, none] [vI v] zN zGR h' := by
    intro h' v hW hX ho hv hv2
    refine w_istore4 dX9_confirmed_117 rfl (by decide) (w_iload4 dX9_confirmed_119 ?_)
    refine wp_if_eq 128 dX9_confirmed_121 rfl ⟨by omega, by omega⟩ (fun c121 => ?_) (fun c121 => ?_)
    · skip
      refine wp_iconst dX9_confirmed_128 ?_
      refine r_i dX9_confirmed_129 rfl meX9_confirmed ?_
      exact zPX_q hW hX ((zif_y ho.1).trans (zif_n ho.2)) (show _ = zcfv p c t by omega)
    · skip
      refine wp_iconst dX9_confirmed_124 (wp_goto 129 dX9_confirmed_125 rfl ?_)
      refine r_i dX9_confirmed_129 rfl meX9_confirmed ?_
      exact zPX_q hW hX ((zif_y ho.1).trans (zif_n ho.2)) (show _ = zcfv p c t by omega)
  refine w_iload1 dX9_confirmed_0 (w_aload0 dX9_confirmed_1 (wp_getr 2 dX9_confirmed_2 fl_RX9_20 is_1 rfl (wp_geti dX9_confirmed_5 fl_RX9_68 is_2 (wp_iconst dX9_confirmed_8 (wp_isub dX9_confirmed_9 ?_)))))
  rw [hp0]
  apply s_i2 (M := mX9_confirmed) dX9_confirmed_10 lk_RX9_84 mvX9_outside (by decide) meX9_confirmed (Nat.le_of_ble_eq_true rfl)
  · exact t_X9_outside zt ⟨by omega, by omega⟩
  intro x10 h10 hP10
  obtain ⟨eh10, hP10⟩ := hP10
  replace eh10 := eh10.symm
  subst eh10
  refine wp_if_eq 18 dX9_confirmed_13 rfl ⟨by omega, by omega⟩ (fun c13 => ?_) (fun c13 => ?_)
  · skip
    refine w_aload0 dX9_confirmed_18 ?_
    apply v_i0 (M := mX9_confirmed) dX9_confirmed_19 lk_RX9_159 mvX9_noMatrix (by decide) meX9_confirmed is_1 (Nat.le_of_ble_eq_true rfl)
    · exact t_X9_noMatrix H
    intro x19 h19 hP19
    obtain ⟨Xn, Wn, r73, Dn, bn, iN⟩ := hP19
    obtain ⟨sn, Pn, Hn, Tn, cn1, cn2, cn3, cn4, cn5, cn6⟩ := id Wn
    refine wp_if_eq 28 dX9_confirmed_22 rfl ⟨by omega, by omega⟩ (fun c22 => ?_) (fun c22 => ?_)
    · skip
      refine w_aload0 dX9_confirmed_28 (wp_getr 78 dX9_confirmed_29 fl_RX9_51 is_1 rfl (w_iload1 dX9_confirmed_32 ?_))
      apply v_v1 (M := mX9_confirmed) dX9_confirmed_33 lk_RX9_177 mvX5_examine (by decide) meX9_confirmed is_78 (Nat.le_of_ble_eq_true rfl)
      · exact t_X5_examine (t := t.toNat) (by omega) hs1 (by omega) Pn Dn (zsd_2 (by omega)) cn3
      intro h33 hP33
      obtain ⟨fx, ax, bx⟩ := hP33
      obtain ⟨Wx, Xx⟩ := zWd_ex Wn fx ax
      have Xx2 := zFX_t Xn Xx
      obtain ⟨k1, k2, k3, k4⟩ := id bx
      refine w_aload0 dX9_confirmed_36 (wp_getr 78 dX9_confirmed_37 fl_RX9_51 is_1 rfl (w_iload1 dX9_confirmed_40 (wp_iconst dX9_confirmed_41 ?_)))
      apply v_i2 (M := mX9_confirmed) dX9_confirmed_42 lk_RX9_227 mvX5_coordinate (by decide) meX9_confirmed is_78 (Nat.le_of_ble_eq_true rfl)
      · exact t_X5_coordinate (t := t.toNat) (by omega) (by omega) (Or.inl rfl)
      intro x42 h42 hP42
      obtain ⟨eh42, ex42⟩ := hP42
      replace eh42 := eh42.symm
      subst eh42
      replace ex42 := ex42.symm
      subst ex42
      rw [if_pos rfl, k3]
      have a1 := zabs_in hpp (c := c) (t := t.toNat)
      have a2 := zord_in hpp (c := c) (t := t.toNat)
      refine w_istore2 dX9_confirmed_45 rfl (by decide) (w_aload0 dX9_confirmed_46 (wp_getr 78 dX9_confirmed_47 fl_RX9_51 is_1 rfl (w_iload1 dX9_confirmed_50 (wp_iconst dX9_confirmed_51 ?_))))
      apply v_i2 (M := mX9_confirmed) dX9_confirmed_52 lk_RX9_227 mvX5_coordinate (by decide) meX9_confirmed is_78 (Nat.le_of_ble_eq_true rfl)
      · exact t_X5_coordinate (t := t.toNat) (by omega) (by omega) (Or.inr rfl)
      intro x52 h52 hP52
      obtain ⟨eh52, ex52⟩ := hP52
      replace eh52 := eh52.symm
      subst eh52
      replace ex52 := ex52.symm
      subst ex52
      rw [if_neg (by decide), k4]
      refine w_istore3 dX9_confirmed_55 rfl (by decide) (w_iload2 dX9_confirmed_56 (wp_bipush dX9_confirmed_57 (by decide) ?_))
      refine wp_icmp_eq 68 dX9_confirmed_59 rfl ⟨by omega, by omega⟩ ⟨by omega, by omega⟩ (fun c59 => ?_) (fun c59 => ?_)
      · skip
        refine wp_iconst dX9_confirmed_68 ?_
        refine r_i dX9_confirmed_69 rfl meX9_confirmed ?_
        exact zPX_q Wx Xx2 ((zif_y (by first | omega | (dsimp only; omega))).trans (zif_n (by first | omega | (dsimp only; omega)))) (zif_n (P := zcfm p c t) (fun q => by unfold zcfm at q; omega)).symm
      · skip
        refine w_iload3 dX9_confirmed_62 (wp_bipush dX9_confirmed_63 (by decide) ?_)
        refine wp_icmp_ne 70 dX9_confirmed_65 rfl ⟨by omega, by omega⟩ ⟨by omega, by omega⟩ (fun c65 => ?_) (fun c65 => ?_)
        · skip
          refine w_aload0 dX9_confirmed_70 (wp_getr 2 dX9_confirmed_71 fl_RX9_20 is_1 rfl (wp_iconst dX9_confirmed_74 (w_iload2 dX9_confirmed_75 (w_iload3 dX9_confirmed_76 (w_iload1 dX9_confirmed_77 ?_)))))
          apply v_i4 (M := mX9_confirmed) dX9_confirmed_78 lk_RX9_127 mvX4_valueOf (by decide) meX9_confirmed is_2 (Nat.le_of_ble_eq_true rfl)
          · exact t_X4_valueOf (k := 0) zPo_2 rfl (by omega) hs1 Wx.2.1 (by omega) (by omega) (by omega)
          intro x78 h78 hP78
          obtain ⟨eh78, ex78⟩ := hP78
          replace eh78 := eh78.symm
          subst eh78
          replace ex78 := ex78.symm
          subst ex78
          have v0 := zval_in hpp (c := c) (k := 0) (x := zabs p c t.toNat) (y := zord p c t.toNat) (t := t)
          have v1 := zval_in hpp (c := c) (k := 1) (x := zabs p c t.toNat) (y := zord p c t.toNat) (t := t)
          have v2 := zval_in hpp (c := c) (k := 2) (x := zabs p c t.toNat) (y := zord p c t.toNat) (t := t)
          refine wp_if_ne 116 dX9_confirmed_81 rfl ⟨by omega, by omega⟩ (fun c81 => ?_) (fun c81 => ?_)
          · skip
            refine wp_iconst dX9_confirmed_116 ?_
            refine w_forget0 ?_
            refine w_forget1 ?_
            refine w_forget2 ?_
            refine w_forget3 ?_
            first
            | exact L117 _ _ Wx Xx2 (by omega) (zif_y (P := zcfm p c t) ⟨by omega, by omega, by omega, by omega, by omega⟩).symm (Or.inr rfl)
            | exact L117 _ _ Wx Xx2 (by omega) (zif_n (P := zcfm p c t) (fun q => by unfold zcfm at q; omega)).symm (Or.inl rfl)
          · skip
            refine w_aload0 dX9_confirmed_84 (wp_getr 2 dX9_confirmed_85 fl_RX9_20 is_1 rfl (wp_iconst dX9_confirmed_88 (w_iload2 dX9_confirmed_89 (w_iload3 dX9_confirmed_90 (w_iload1 dX9_confirmed_91 ?_)))))
            apply v_i4 (M := mX9_confirmed) dX9_confirmed_92 lk_RX9_127 mvX4_valueOf (by decide) meX9_confirmed is_2 (Nat.le_of_ble_eq_true rfl)
            · exact t_X4_valueOf (k := 1) zPo_2 rfl (by omega) hs1 Wx.2.1 (by omega) (by omega) (by omega)
            intro x92 h92 hP92
            obtain ⟨eh92, ex92⟩ := hP92
            replace eh92 := eh92.symm
            subst eh92
            replace ex92 := ex92.symm
            subst ex92
            refine wp_if_ne 116 dX9_confirmed_95 rfl ⟨by omega, by omega⟩ (fun c95 => ?_) (fun c95 => ?_)
            · skip
              refine wp_iconst dX9_confirmed_116 ?_
              refine w_forget0 ?_
              refine w_forget1 ?_
              refine w_forget2 ?_
              refine w_forget3 ?_
              first
              | exact L117 _ _ Wx Xx2 (by omega) (zif_y (P := zcfm p c t) ⟨by omega, by omega, by omega, by omega, by omega⟩).symm (Or.inr rfl)
              | exact L117 _ _ Wx Xx2 (by omega) (zif_n (P := zcfm p c t) (fun q => by unfold zcfm at q; omega)).symm (Or.inl rfl)
            · skip
              refine w_aload0 dX9_confirmed_98 (wp_getr 2 dX9_confirmed_99 fl_RX9_20 is_1 rfl (wp_iconst dX9_confirmed_102 (w_iload2 dX9_confirmed_103 (w_iload3 dX9_confirmed_104 (w_iload1 dX9_confirmed_105 ?_)))))
              apply v_i4 (M := mX9_confirmed) dX9_confirmed_106 lk_RX9_127 mvX4_valueOf (by decide) meX9_confirmed is_2 (Nat.le_of_ble_eq_true rfl)
              · exact t_X4_valueOf (k := 2) zPo_2 rfl (by omega) hs1 Wx.2.1 (by omega) (by omega) (by omega)
              intro x106 h106 hP106
              obtain ⟨eh106, ex106⟩ := hP106
              replace eh106 := eh106.symm
              subst eh106
              replace ex106 := ex106.symm
              subst ex106
              refine wp_if_ne 116 dX9_confirmed_109 rfl ⟨by omega, by omega⟩ (fun c109 => ?_) (fun c109 => ?_)
              · skip
                refine wp_iconst dX9_confirmed_116 ?_
                refine w_forget0 ?_
                refine w_forget1 ?_
                refine w_forget2 ?_
                refine w_forget3 ?_
                first
                | exact L117 _ _ Wx Xx2 (by omega) (zif_y (P := zcfm p c t) ⟨by omega, by omega, by omega, by omega, by omega⟩).symm (Or.inr rfl)
                | exact L117 _ _ Wx Xx2 (by omega) (zif_n (P := zcfm p c t) (fun q => by unfold zcfm at q; omega)).symm (Or.inl rfl)
              · skip
                refine wp_iconst dX9_confirmed_112 (wp_goto 117 dX9_confirmed_113 rfl ?_)
                refine w_forget0 ?_
                refine w_forget1 ?_
                refine w_forget2 ?_
                refine w_forget3 ?_
                first
                | exact L117 _ _ Wx Xx2 (by omega) (zif_y (P := zcfm p c t) ⟨by omega, by omega, by omega, by omega, by omega⟩).symm (Or.inr rfl)
                | exact L117 _ _ Wx Xx2 (by omega) (zif_n (P := zcfm p c t) (fun q => by unfold zcfm at q; omega)).symm (Or.inl rfl)
        · skip
          refine wp_iconst dX9_confirmed_68 ?_
          refine r_i dX9_confirmed_69 rfl meX9_confirmed ?_
          exact zPX_q Wx Xx2 ((zif_y (by first | omega | (dsimp only; omega))).trans (zif_n (by first | omega | (dsimp only; omega)))) (zif_n (P := zcfm p c t) (fun q => by unfold zcfm at q; omega)).symm
    · skip
      refine wp_bipush dX9_confirmed_25 (by decide) ?_
      refine r_i dX9_confirmed_27 rfl meX9_confirmed ?_
      exact zPX_q Wn Xn ((zif_y (by first | omega | (dsimp only; omega))).trans (zif_y (by first | omega | (dsimp only; omega)))) rfl
  · skip
    refine wp_iconst dX9_confirmed_16 ?_
    refine r_i dX9_confirmed_17 rfl meX9_confirmed ?_
    exact zPX_q H zFX_r (zif_n (by first | omega | (dsimp only; omega))) rfl
set_option maxRecDepth 100000 in
set_option maxHeartbeats 4000000 in
theorem t_X9_undo {h : zH} {p : Int} {c : Nat → Nat → Int} {hs : List (Int × (Nat → Nat → Int))} {tx : Nat → Int} {L : Nat} (H : zWd p c hs tx L h) : CI yX9_undo mX9_undo [vR 1] h (fun r h' => zPX (sp_undo (p, c, hs, tx, L)) h r h') := by
  refine inV [some (vR 1)] mvX9_undo rfl (Nat.le_of_ble_eq_true rfl) rfl ?_
  obtain ⟨hs1, hP, hH, hT, hC⟩ := id H
  have hp := hs1.p
  have hp0 : h 2 0 = p := hP.1
  have hpp : 0 < p := by omega
  obtain ⟨nx, n1, n2, n3, n4, n5⟩ := id hH.1
  refine w_aload0 dX9_undo_0 (wp_getr 96 dX9_undo_1 fl_RX9_29 is_1 rfl (wp_geti dX9_undo_4 fl_RX9_231 is_96 ?_))
  rw [n3]
  refine wp_if_ne 13 dX9_undo_7 rfl ⟨by omega, by omega⟩ (fun c7 => ?_) (fun c7 => ?_)
  · skip
    refine w_aload0 dX9_undo_13 ?_
    obtain ⟨q, hs', ehs⟩ : ∃ q hs', hs = q :: hs' := by
      cases hs with
      | nil => exact absurd rfl c7
      | cons q hs' => exact ⟨q, hs', rfl⟩
    subst ehs
    refine wp_getr 96 dX9_undo_14 fl_RX9_29 is_1 rfl (w_aload0 dX9_undo_17 (wp_getr 2 dX9_undo_18 fl_RX9_20 is_1 rfl ?_))
    apply v_v1 (M := mX9_undo) dX9_undo_21 lk_RX9_234 mvX2_restore (by decide) meX9_undo is_96 (Nat.le_of_ble_eq_true rfl)
    · exact t_X2_restore hH.1
    intro h21 hP21
    obtain ⟨fr, ar, br⟩ := hP21
    refine w_aload0 dX9_undo_24 ?_
    apply v_v0 (M := mX9_undo) dX9_undo_25 lk_RX9_237 mvX9_forgetResults (by decide) meX9_undo is_1 (Nat.le_of_ble_eq_true rfl)
    · exact t_X9_forgetResults
    intro h25 hP25
    obtain ⟨ff, cf⟩ := hP25
    refine w_aload0 dX9_undo_28 (wp_getr 96 dX9_undo_29 fl_RX9_29 is_1 rfl (wp_geti dX9_undo_32 fl_RX9_231 is_96 ?_))
    refine r_i dX9_undo_35 rfl meX9_undo ?_
    have hHf : zHi hs' h25 := zHi_fr ar (fun a j ha => ff a j (by unfold zFfr; omega))
    have hst : zSt q.1 q.2 := hH.2 q List.mem_cons_self
    refine zPX_i rfl ?_ ⟨hst, zPol_eq br (fun b j hb1 hb2 => ff _ _ (by unfold zFfr; omega)), ⟨hHf, fun w hw => hH.2 w (List.mem_cons_of_mem _ hw)⟩, zTw_fr hT (fun a j ha => (ff _ _ (by unfold zFfr; omega)).trans (fr _ _ (by omega))), cf q.1 q.2⟩ (fun a j ha => (ff _ _ (by unfold zFfr; omega)).trans (fr _ _ (by omega)))
    obtain ⟨m, m1, m2, m3, m4⟩ := hHf
    exact m3
  · skip
    refine wp_bipush dX9_undo_10 (by decide) ?_
    refine r_i dX9_undo_12 rfl meX9_undo ?_
    have e : hs = [] := List.eq_nil_of_length_eq_zero (by omega)
    subst e
    exact zPX_q H zFX_r rfl rfl
set_option maxRecDepth 100000 in
set_option maxHeartbeats 4000000 in
theorem t_X9_count {h : zH} {p : Int} {c : Nat → Nat → Int} {hs : List (Int × (Nat → Nat → Int))} {tx : Nat → Int} {L : Nat} (H : zWd p c hs tx L h) {w : Int} (zw : zin w) : CI yX9_count mX9_count [vR 1, vI w] h (fun r h' => zPX (sp_count (p, c, hs, tx, L) w) h r h') := by
  refine inV [some (vR 1), some (vI w)] mvX9_count rfl (Nat.le_of_ble_eq_true rfl) rfl ?_
  obtain ⟨hs1, hP, hH, hT, hC⟩ := id H
  have hp := hs1.p
  have hp0 : h 2 0 = p := hP.1
  have hpp : 0 < p := by omega
  have zw1 := zw.1
  have zw2 := zw.2
  refine w_iload1 dX9_count_0 ?_
  by_cases co1 : w < 0 ∨ 6 < w
  · refine wp_tswOut 99 dX9_count_1 ⟨by omega, by omega⟩ co1 rfl ?_
    refine wp_iconst dX9_count_99 ?_
    refine r_i dX9_count_100 rfl meX9_count ?_
    refine zPX_q H zFX_r rfl ?_
    show (-1 : Int) = zcount _ w
    unfold zcount
    rw [if_neg (by omega), if_neg (by omega), if_neg (by omega), if_neg (by omega), if_neg (by omega), if_neg (by omega), if_neg (by omega)]
  rcases (show w = 0 ∨ w = 1 ∨ w = 2 ∨ w = 3 ∨ w = 4 ∨ w = 5 ∨ w = 6 by omega) with rfl | rfl | rfl | rfl | rfl | rfl | rfl
  · refine wp_tswIn 44 dX9_count_1 ⟨by decide, by decide⟩ (by decide) (by decide) rfl rfl ?_
    refine w_aload0 dX9_count_44 (wp_getr 2 dX9_count_45 fl_RX9_20 is_1 rfl (wp_geti dX9_count_48 fl_RX9_68 is_2 ?_))
    refine r_i dX9_count_51 rfl meX9_count ?_
    exact zPX_q H zFX_r rfl hp0
  · refine wp_tswIn 52 dX9_count_1 ⟨by decide, by decide⟩ (by decide) (by decide) rfl rfl ?_
    refine w_aload0 dX9_count_52 (wp_getr 2 dX9_count_53 fl_RX9_20 is_1 rfl (wp_iconst dX9_count_56 ?_))
    apply v_i1 (M := mX9_count) dX9_count_57 lk_RX9_240 mvX4_greatestDegree (by decide) meX9_count is_2 (Nat.le_of_ble_eq_true rfl)
    · exact t_X4_greatestDegree (v := 0) zPo_2 rfl (by decide) hs1 hP
    intro x57 h57 hP57
    obtain ⟨eh57, ex57⟩ := hP57
    replace eh57 := eh57.symm
    subst eh57
    replace ex57 := ex57.symm
    subst ex57
    refine r_i dX9_count_60 rfl meX9_count ?_
    exact zPX_q H zFX_r rfl rfl
  · refine wp_tswIn 61 dX9_count_1 ⟨by decide, by decide⟩ (by decide) (by decide) rfl rfl ?_
    refine w_aload0 dX9_count_61 (wp_getr 2 dX9_count_62 fl_RX9_20 is_1 rfl (wp_iconst dX9_count_65 ?_))
    apply v_i1 (M := mX9_count) dX9_count_66 lk_RX9_240 mvX4_greatestDegree (by decide) meX9_count is_2 (Nat.le_of_ble_eq_true rfl)
    · exact t_X4_greatestDegree (v := 1) zPo_2 rfl (by decide) hs1 hP
    intro x66 h66 hP66
    obtain ⟨eh66, ex66⟩ := hP66
    replace eh66 := eh66.symm
    subst eh66
    replace ex66 := ex66.symm
    subst ex66
    refine r_i dX9_count_69 rfl meX9_count ?_
    exact zPX_q H zFX_r rfl rfl
  · refine wp_tswIn 70 dX9_count_1 ⟨by decide, by decide⟩ (by decide) (by decide) rfl rfl ?_
    refine w_aload0 dX9_count_70 (wp_getr 138 dX9_count_71 fl_RX9_36 is_1 rfl (wp_geti dX9_count_74 fl_RX9_81 is_138 ?_))
    refine r_i dX9_count_77 rfl meX9_count ?_
    exact zPX_q H zFX_r rfl hT.1
  · refine wp_tswIn 78 dX9_count_1 ⟨by decide, by decide⟩ (by decide) (by decide) rfl rfl ?_
    refine w_aload0 dX9_count_78 (wp_getr 96 dX9_count_79 fl_RX9_29 is_1 rfl (wp_geti dX9_count_82 fl_RX9_231 is_96 ?_))
    refine r_i dX9_count_85 rfl meX9_count ?_
    obtain ⟨nx, n1, n2, n3, n4, n5⟩ := id hH.1
    exact zPX_q H zFX_r rfl n3
  · refine wp_tswIn 86 dX9_count_1 ⟨by decide, by decide⟩ (by decide) (by decide) rfl rfl ?_
    refine w_aload0 dX9_count_86 (wp_getr 2 dX9_count_87 fl_RX9_20 is_1 rfl ?_)
    apply v_i0 (M := mX9_count) dX9_count_90 lk_RX9_123 mvX4_termCountOfAll (by decide) meX9_count is_2 (Nat.le_of_ble_eq_true rfl)
    · exact t_X4_termCountOfAll zPo_2 hs1 hP
    intro x90 h90 hP90
    obtain ⟨eh90, ex90⟩ := hP90
    replace eh90 := eh90.symm
    subst eh90
    replace ex90 := ex90.symm
    subst ex90
    refine r_i dX9_count_93 rfl meX9_count ?_
    exact zPX_q H zFX_r rfl rfl
  · refine wp_tswIn 94 dX9_count_1 ⟨by decide, by decide⟩ (by decide) (by decide) rfl rfl ?_
    refine w_aload0 dX9_count_94 ?_
    apply v_i0 (M := mX9_count) dX9_count_95 lk_RX9_243 mvX9_countPairs (by decide) meX9_count is_1 (Nat.le_of_ble_eq_true rfl)
    · exact t_X9_countPairs H
    intro x95 h95 hP95
    refine r_i dX9_count_98 rfl meX9_count ?_
    exact hP95
