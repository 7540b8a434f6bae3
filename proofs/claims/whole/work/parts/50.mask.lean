

set_option maxRecDepth 100000 in
set_option maxHeartbeats 4000000 in
theorem t_X10_isCell {h : zH} {r_ q_ : Int} {s : Nat} (zr : zin r_) (zq : zin q_) (hs8 : s ≤ 8) (h11 : h 445 11 = (s : Int)) : CI yX10_isCell mX10_isCell [vR 445, vI r_, vI q_] h (fun r h' => h' = h ∧ (r = 0 ∨ r = 1) ∧ (r = 1 ↔ (0 ≤ r_ ∧ r_ < (s : Int)) ∧ 0 ≤ q_ ∧ q_ < (s : Int))) := by
  refine inV [some (vR 445), some (vI r_), some (vI q_)] mvX10_isCell rfl (Nat.le_of_ble_eq_true rfl) rfl ?_
  refine w_iload1 dX10_isCell_0 (wp_iconst dX10_isCell_1 (w_aload0 dX10_isCell_2 (wp_geti dX10_isCell_3 fl_RX10_186 is_445 ?_)))
  rw [h11]
  refine wp_iconst dX10_isCell_6 (wp_isub dX10_isCell_7 ?_)
  apply s_i3 (M := mX10_isCell) dX10_isCell_8 lk_RX10_80 mvX10_in (by decide) meX10_isCell (Nat.le_of_ble_eq_true rfl)
  · exact t_X10_in zr ⟨by decide, by decide⟩ ⟨by omega, by omega⟩
  intro x8 h8 hP8
  obtain ⟨eh8, hP8⟩ := hP8
  replace eh8 := eh8.symm
  subst eh8
  refine wp_if_eq 32 dX10_isCell_11 rfl ⟨by omega, by omega⟩ (fun c11 => ?_) (fun c11 => ?_)
  · skip
    refine wp_iconst dX10_isCell_32 ?_
    refine r_z dX10_isCell_33 rfl meX10_isCell (by first | exact Or.inl rfl | exact Or.inr rfl | omega) ?_
    exact ⟨rfl, by omega, by omega⟩
  · skip
    refine w_iload2 dX10_isCell_14 (wp_iconst dX10_isCell_15 (w_aload0 dX10_isCell_16 (wp_geti dX10_isCell_17 fl_RX10_186 is_445 ?_)))
    rw [h11]
    refine wp_iconst dX10_isCell_20 (wp_isub dX10_isCell_21 ?_)
    apply s_i3 (M := mX10_isCell) dX10_isCell_22 lk_RX10_80 mvX10_in (by decide) meX10_isCell (Nat.le_of_ble_eq_true rfl)
    · exact t_X10_in zq ⟨by decide, by decide⟩ ⟨by omega, by omega⟩
    intro x22 h22 hP22
    obtain ⟨eh22, hP22⟩ := hP22
    replace eh22 := eh22.symm
    subst eh22
    refine wp_if_eq 32 dX10_isCell_25 rfl ⟨by omega, by omega⟩ (fun c25 => ?_) (fun c25 => ?_)
    · skip
      refine wp_iconst dX10_isCell_32 ?_
      refine r_z dX10_isCell_33 rfl meX10_isCell (by first | exact Or.inl rfl | exact Or.inr rfl | omega) ?_
      exact ⟨rfl, by omega, by omega⟩
    · skip
      refine wp_iconst dX10_isCell_28 (wp_goto 33 dX10_isCell_29 rfl ?_)
      refine r_z dX10_isCell_33 rfl meX10_isCell (by first | exact Or.inl rfl | exact Or.inr rfl | omega) ?_
      exact ⟨rfl, by omega, by omega⟩
set_option maxRecDepth 100000 in
set_option maxHeartbeats 4000000 in
theorem t_X10_rank {h : zH} {p : Int} {c : Nat → Nat → Int} {hs : List (Int × (Nat → Nat → Int))} {tx : Nat → Int} {L : Nat} (H : zVd p c hs tx L h) : CI yX10_rank mX10_rank [vR 445] h (fun r h' => zPV (sp_rank (p, c, hs, tx, L)) h r h') := by
  refine inV [some (vR 445)] mvX10_rank rfl (Nat.le_of_ble_eq_true rfl) rfl ?_
  obtain ⟨hs1, hR, hH, hT, hK, hO⟩ := id H
  have hp := hs1.p
  have hp0 : h 446 0 = p := hR.1
  have hpp : 0 < p := by omega
  refine w_aload0 dX10_rank_0 ?_
  apply v_i0 (M := mX10_rank) dX10_rank_1 lk_RX10_277 mvX10_has (by decide) meX10_rank is_445 (Nat.le_of_ble_eq_true rfl)
  · exact t_X10_has H
  intro x1 h1 hP1
  obtain ⟨Vn, Xn, bn1, bn2, bn3⟩ := hP1
  obtain ⟨sn, Rn, Hn, Tn, Kn, On⟩ := id Vn
  refine wp_if_eq 14 dX10_rank_4 rfl ⟨by omega, by omega⟩ (fun c4 => ?_) (fun c4 => ?_)
  · skip
    refine wp_bipush dX10_rank_14 (by decide) ?_
    refine r_i dX10_rank_16 rfl meX10_rank ?_
    first
    | exact zPV_q Vn Xn (zif_n (by first | omega | (dsimp only; omega))) (b1)
    | exact zPV_q Vn Xn (zif_y (by first | omega | (dsimp only; omega))) rfl
  · skip
    refine w_aload0 dX10_rank_7 ?_
    obtain ⟨⟨a1, a2, a3⟩, a4, a5, ⟨b1, b2, b3, b4, b5⟩, b6, b7, b8⟩ := id (bn3 (by omega))
    have hs8 := zsd_le c
    refine wp_geti dX10_rank_8 fl_RX10_204 is_445 (wp_goto 16 dX10_rank_11 rfl ?_)
    refine r_i dX10_rank_16 rfl meX10_rank ?_
    first
    | exact zPV_q Vn Xn (zif_n (by first | omega | (dsimp only; omega))) (b1)
    | exact zPV_q Vn Xn (zif_y (by first | omega | (dsimp only; omega))) rfl
set_option maxRecDepth 100000 in
set_option maxHeartbeats 4000000 in
theorem t_X10_pivotPoint {h : zH} {p : Int} {c : Nat → Nat → Int} {hs : List (Int × (Nat → Nat → Int))} {tx : Nat → Int} {L : Nat} (H : zVd p c hs tx L h) : CI yX10_pivotPoint mX10_pivotPoint [vR 445] h (fun r h' => zPV (sp_pivotPoint (p, c, hs, tx, L)) h r h') := by
  refine inV [some (vR 445)] mvX10_pivotPoint rfl (Nat.le_of_ble_eq_true rfl) rfl ?_
  obtain ⟨hs1, hR, hH, hT, hK, hO⟩ := id H
  have hp := hs1.p
  have hp0 : h 446 0 = p := hR.1
  have hpp : 0 < p := by omega
  refine w_aload0 dX10_pivotPoint_0 ?_
  apply v_i0 (M := mX10_pivotPoint) dX10_pivotPoint_1 lk_RX10_277 mvX10_has (by decide) meX10_pivotPoint is_445 (Nat.le_of_ble_eq_true rfl)
  · exact t_X10_has H
  intro x1 h1 hP1
  obtain ⟨Vn, Xn, bn1, bn2, bn3⟩ := hP1
  obtain ⟨sn, Rn, Hn, Tn, Kn, On⟩ := id Vn
  refine wp_if_eq 14 dX10_pivotPoint_4 rfl ⟨by omega, by omega⟩ (fun c4 => ?_) (fun c4 => ?_)
  · skip
    refine wp_bipush dX10_pivotPoint_14 (by decide) ?_
    refine r_i dX10_pivotPoint_16 rfl meX10_pivotPoint ?_
    first
    | exact zPV_q Vn Xn (zif_n (by first | omega | (dsimp only; omega))) (b2)
    | exact zPV_q Vn Xn (zif_y (by first | omega | (dsimp only; omega))) rfl
  · skip
    refine w_aload0 dX10_pivotPoint_7 ?_
    obtain ⟨⟨a1, a2, a3⟩, a4, a5, ⟨b1, b2, b3, b4, b5⟩, b6, b7, b8⟩ := id (bn3 (by omega))
    have hs8 := zsd_le c
    refine wp_geti dX10_pivotPoint_8 fl_RX10_217 is_445 (wp_goto 16 dX10_pivotPoint_11 rfl ?_)
    refine r_i dX10_pivotPoint_16 rfl meX10_pivotPoint ?_
    first
    | exact zPV_q Vn Xn (zif_n (by first | omega | (dsimp only; omega))) (b2)
    | exact zPV_q Vn Xn (zif_y (by first | omega | (dsimp only; omega))) rfl
set_option maxRecDepth 100000 in
set_option maxHeartbeats 4000000 in
theorem t_X10_extraneous {h : zH} {p : Int} {c : Nat → Nat → Int} {hs : List (Int × (Nat → Nat → Int))} {tx : Nat → Int} {L : Nat} (H : zVd p c hs tx L h) : CI yX10_extraneous mX10_extraneous [vR 445] h (fun r h' => zPV (sp_extraneous (p, c, hs, tx, L)) h r h') := by
  refine inV [some (vR 445)] mvX10_extraneous rfl (Nat.le_of_ble_eq_true rfl) rfl ?_
  obtain ⟨hs1, hR, hH, hT, hK, hO⟩ := id H
  have hp := hs1.p
  have hp0 : h 446 0 = p := hR.1
  have hpp : 0 < p := by omega
  refine w_aload0 dX10_extraneous_0 ?_
  apply v_i0 (M := mX10_extraneous) dX10_extraneous_1 lk_RX10_277 mvX10_has (by decide) meX10_extraneous is_445 (Nat.le_of_ble_eq_true rfl)
  · exact t_X10_has H
  intro x1 h1 hP1
  obtain ⟨Vn, Xn, bn1, bn2, bn3⟩ := hP1
  obtain ⟨sn, Rn, Hn, Tn, Kn, On⟩ := id Vn
  refine wp_if_eq 14 dX10_extraneous_4 rfl ⟨by omega, by omega⟩ (fun c4 => ?_) (fun c4 => ?_)
  · skip
    refine wp_bipush dX10_extraneous_14 (by decide) ?_
    refine r_i dX10_extraneous_16 rfl meX10_extraneous ?_
    first
    | exact zPV_q Vn Xn (zif_n (by first | omega | (dsimp only; omega))) (b8)
    | exact zPV_q Vn Xn (zif_y (by first | omega | (dsimp only; omega))) rfl
  · skip
    refine w_aload0 dX10_extraneous_7 ?_
    obtain ⟨⟨a1, a2, a3⟩, a4, a5, ⟨b1, b2, b3, b4, b5⟩, b6, b7, b8⟩ := id (bn3 (by omega))
    have hs8 := zsd_le c
    refine wp_geti dX10_extraneous_8 fl_RX10_238 is_445 (wp_goto 16 dX10_extraneous_11 rfl ?_)
    refine r_i dX10_extraneous_16 rfl meX10_extraneous ?_
    first
    | exact zPV_q Vn Xn (zif_n (by first | omega | (dsimp only; omega))) (b8)
    | exact zPV_q Vn Xn (zif_y (by first | omega | (dsimp only; omega))) rfl
set_option maxRecDepth 100000 in
set_option maxHeartbeats 4000000 in
theorem t_X10_selected {h : zH} {p : Int} {c : Nat → Nat → Int} {hs : List (Int × (Nat → Nat → Int))} {tx : Nat → Int} {L : Nat} (H : zVd p c hs tx L h) {b : Int} (zb : b = 0 ∨ b = 1) : CI yX10_selected mX10_selected [vR 445, vI b] h (fun r h' => zPV (sp_selected (p, c, hs, tx, L) b) h r h') := by
  refine inV [some (vR 445), some (vI b)] mvX10_selected rfl (Nat.le_of_ble_eq_true rfl) rfl ?_
  obtain ⟨hs1, hR, hH, hT, hK, hO⟩ := id H
  have hp := hs1.p
  have hp0 : h 446 0 = p := hR.1
  have hpp : 0 < p := by omega
  refine w_aload0 dX10_selected_0 ?_
  apply v_i0 (M := mX10_selected) dX10_selected_1 lk_RX10_277 mvX10_has (by decide) meX10_selected is_445 (Nat.le_of_ble_eq_true rfl)
  · exact t_X10_has H
  intro x1 h1 hP1
  obtain ⟨Vn, Xn, bn1, bn2, bn3⟩ := hP1
  obtain ⟨sn, Rn, Hn, Tn, Kn, On⟩ := id Vn
  refine wp_if_ne 12 dX10_selected_4 rfl ⟨by omega, by omega⟩ (fun c4 => ?_) (fun c4 => ?_)
  · skip
    refine w_iload1 dX10_selected_12 ?_
    refine wp_if_eq 23 dX10_selected_13 rfl ⟨by omega, by omega⟩ (fun c13 => ?_) (fun c13 => ?_)
    · skip
      refine w_aload0 dX10_selected_23 ?_
      obtain ⟨⟨a1, a2, a3⟩, a4, a5, ⟨b1, b2, b3, b4, b5⟩, b6, b7, b8⟩ := id (bn3 (by omega))
      have hs8 := zsd_le c
      refine wp_geti dX10_selected_24 fl_RX10_226 is_445 ?_
      refine r_i dX10_selected_27 rfl meX10_selected ?_
      first
      | exact zPV_q Vn Xn (zif_n (by first | omega | (dsimp only; omega))) (by rw [if_neg (by omega)]; exact b3)
      | exact zPV_q Vn Xn (zif_n (by first | omega | (dsimp only; omega))) (by rw [if_pos (by omega)]; exact b4)
      | exact zPV_q Vn Xn (zif_y (by first | omega | (dsimp only; omega))) rfl
    · skip
      refine w_aload0 dX10_selected_16 ?_
      obtain ⟨⟨a1, a2, a3⟩, a4, a5, ⟨b1, b2, b3, b4, b5⟩, b6, b7, b8⟩ := id (bn3 (by omega))
      have hs8 := zsd_le c
      refine wp_geti dX10_selected_17 fl_RX10_223 is_445 (wp_goto 27 dX10_selected_20 rfl ?_)
      refine r_i dX10_selected_27 rfl meX10_selected ?_
      first
      | exact zPV_q Vn Xn (zif_n (by first | omega | (dsimp only; omega))) (by rw [if_neg (by omega)]; exact b3)
      | exact zPV_q Vn Xn (zif_n (by first | omega | (dsimp only; omega))) (by rw [if_pos (by omega)]; exact b4)
      | exact zPV_q Vn Xn (zif_y (by first | omega | (dsimp only; omega))) rfl
  · skip
    refine wp_bipush dX10_selected_7 (by decide) (wp_goto 27 dX10_selected_9 rfl ?_)
    refine r_i dX10_selected_27 rfl meX10_selected ?_
    first
    | exact zPV_q Vn Xn (zif_n (by first | omega | (dsimp only; omega))) (by rw [if_neg (by omega)]; exact b3)
    | exact zPV_q Vn Xn (zif_n (by first | omega | (dsimp only; omega))) (by rw [if_pos (by omega)]; exact b4)
    | exact zPV_q Vn Xn (zif_y (by first | omega | (dsimp only; omega))) rfl
set_option maxRecDepth 100000 in
set_option maxHeartbeats 4000000 in
theorem t_X10_condition {h : zH} {p : Int} {c : Nat → Nat → Int} {hs : List (Int × (Nat → Nat → Int))} {tx : Nat → Int} {L : Nat} (H : zVd p c hs tx L h) : CI yX10_condition mX10_condition [vR 445] h (fun r h' => zPV (sp_condition (p, c, hs, tx, L)) h r h') := by
  refine inV [some (vR 445)] mvX10_condition rfl (Nat.le_of_ble_eq_true rfl) rfl ?_
  obtain ⟨hs1, hR, hH, hT, hK, hO⟩ := id H
  have hp := hs1.p
  have hp0 : h 446 0 = p := hR.1
  have hpp : 0 < p := by omega
  refine w_aload0 dX10_condition_0 ?_
  apply v_i0 (M := mX10_condition) dX10_condition_1 lk_RX10_277 mvX10_has (by decide) meX10_condition is_445 (Nat.le_of_ble_eq_true rfl)
  · exact t_X10_has H
  intro x1 h1 hP1
  obtain ⟨Vn, Xn, bn1, bn2, bn3⟩ := hP1
  obtain ⟨sn, Rn, Hn, Tn, Kn, On⟩ := id Vn
  refine wp_if_ne 12 dX10_condition_4 rfl ⟨by omega, by omega⟩ (fun c4 => ?_) (fun c4 => ?_)
  · skip
    refine w_aload0 dX10_condition_12 ?_
    obtain ⟨⟨a1, a2, a3⟩, a4, a5, ⟨b1, b2, b3, b4, b5⟩, b6, b7, b8⟩ := id (bn3 (by omega))
    have hs8 := zsd_le c
    refine wp_getz dX10_condition_13 fl_RX10_220 is_445 ?_
    have b9 : h1 445 22 = 0 ∨ h1 445 22 = 1 := by rw [b5]; split <;> omega
    refine wp_if_eq 23 dX10_condition_16 rfl ⟨by omega, by omega⟩ (fun c16 => ?_) (fun c16 => ?_)
    · skip
      refine wp_iconst dX10_condition_23 ?_
      refine r_i dX10_condition_24 rfl meX10_condition ?_
      first
      | exact zPV_q Vn Xn (zif_n (by first | omega | (dsimp only; omega))) (by rw [← b5]; omega)
      | exact zPV_q Vn Xn (zif_y (by first | omega | (dsimp only; omega))) rfl
    · skip
      refine wp_iconst dX10_condition_19 (wp_goto 24 dX10_condition_20 rfl ?_)
      refine r_i dX10_condition_24 rfl meX10_condition ?_
      first
      | exact zPV_q Vn Xn (zif_n (by first | omega | (dsimp only; omega))) (by rw [← b5]; omega)
      | exact zPV_q Vn Xn (zif_y (by first | omega | (dsimp only; omega))) rfl
  · skip
    refine wp_bipush dX10_condition_7 (by decide) (wp_goto 24 dX10_condition_9 rfl ?_)
    refine r_i dX10_condition_24 rfl meX10_condition ?_
    first
    | exact zPV_q Vn Xn (zif_n (by first | omega | (dsimp only; omega))) (by rw [← b5]; omega)
    | exact zPV_q Vn Xn (zif_y (by first | omega | (dsimp only; omega))) rfl
set_option maxRecDepth 100000 in
set_option maxHeartbeats 4000000 in
theorem t_X10_rankAt {h : zH} {p : Int} {c : Nat → Nat → Int} {hs : List (Int × (Nat → Nat → Int))} {tx : Nat → Int} {L : Nat} (H : zVd p c hs tx L h) {t : Int} (zt : zin t) : CI yX10_rankAt mX10_rankAt [vR 445, vI t] h (fun r h' => zPV (sp_rankAt (p, c, hs, tx, L) t) h r h') := by
  refine inV [some (vR 445), some (vI t)] mvX10_rankAt rfl (Nat.le_of_ble_eq_true rfl) rfl ?_
  obtain ⟨hs1, hR, hH, hT, hK, hO⟩ := id H
  have hp := hs1.p
  have hp0 : h 446 0 = p := hR.1
  have hpp : 0 < p := by omega
  have zt1 := zt.1
  have zt2 := zt.2
  refine w_aload0 dX10_rankAt_0 (w_iload1 dX10_rankAt_1 ?_)
  apply v_i1 (M := mX10_rankAt) dX10_rankAt_2 lk_RX10_142 mvX10_isNumber (by decide) meX10_rankAt is_445 (Nat.le_of_ble_eq_true rfl)
  · exact t_X10_isNumber zt hp hp0
  intro x2 h2 hP2
  obtain ⟨eh2, hP2⟩ := hP2
  replace eh2 := eh2.symm
  subst eh2
  refine wp_if_ne 10 dX10_rankAt_5 rfl ⟨by omega, by omega⟩ (fun c5 => ?_) (fun c5 => ?_)
  · skip
    refine w_aload0 dX10_rankAt_10 ?_
    apply v_i0 (M := mX10_rankAt) dX10_rankAt_11 lk_RX10_277 mvX10_has (by decide) meX10_rankAt is_445 (Nat.le_of_ble_eq_true rfl)
    · exact t_X10_has H
    intro x11 h11 hP11
    obtain ⟨Vn, Xn, bn1, bn2, bn3⟩ := hP11
    obtain ⟨sn, Rn, Hn, Tn, Kn, On⟩ := id Vn
    refine wp_if_eq 26 dX10_rankAt_14 rfl ⟨by omega, by omega⟩ (fun c14 => ?_) (fun c14 => ?_)
    · skip
      refine wp_bipush dX10_rankAt_26 (by decide) ?_
      refine r_i dX10_rankAt_28 rfl meX10_rankAt ?_
      first
      | exact zPV_q Vn Xn ((zif_y (by first | omega | (dsimp only; omega))).trans (zif_n (by first | omega | (dsimp only; omega)))) (a5 _ (by omega))
      | exact zPV_q Vn Xn ((zif_y (by first | omega | (dsimp only; omega))).trans (zif_y (by first | omega | (dsimp only; omega)))) rfl
    · skip
      refine w_aload0 dX10_rankAt_17 ?_
      obtain ⟨⟨a1, a2, a3⟩, a4, a5, ⟨b1, b2, b3, b4, b5⟩, b6, b7, b8⟩ := id (bn3 (by omega))
      have hs8 := zsd_le c
      refine wp_getr 455 dX10_rankAt_18 fl_RX10_37 is_445 rfl (w_iload1 dX10_rankAt_21 (x_iald t.toNat dX10_rankAt_22 is_455 (by omega) (by omega) (wp_goto 28 dX10_rankAt_23 rfl ?_)))
      refine r_i dX10_rankAt_28 rfl meX10_rankAt ?_
      first
      | exact zPV_q Vn Xn ((zif_y (by first | omega | (dsimp only; omega))).trans (zif_n (by first | omega | (dsimp only; omega)))) (a5 _ (by omega))
      | exact zPV_q Vn Xn ((zif_y (by first | omega | (dsimp only; omega))).trans (zif_y (by first | omega | (dsimp only; omega)))) rfl
  · skip
    refine wp_iconst dX10_rankAt_8 ?_
    refine r_i dX10_rankAt_9 rfl meX10_rankAt ?_
    exact zPV_q H zFV_r (zif_n (by first | omega | (dsimp only; omega))) rfl
set_option maxRecDepth 100000 in
set_option maxHeartbeats 4000000 in
theorem t_X10_kernel {h : zH} {p : Int} {c : Nat → Nat → Int} {hs : List (Int × (Nat → Nat → Int))} {tx : Nat → Int} {L : Nat} (H : zVd p c hs tx L h) {t : Int} (zt : zin t) : CI yX10_kernel mX10_kernel [vR 445, vI t] h (fun r h' => zPV (sp_kernel (p, c, hs, tx, L) t) h r h') := by
  refine inV [some (vR 445), some (vI t)] mvX10_kernel rfl (Nat.le_of_ble_eq_true rfl) rfl ?_
  obtain ⟨hs1, hR, hH, hT, hK, hO⟩ := id H
  have hp := hs1.p
  have hp0 : h 446 0 = p := hR.1
  have hpp : 0 < p := by omega
  have zt1 := zt.1
  have zt2 := zt.2
  refine w_aload0 dX10_kernel_0 (w_iload1 dX10_kernel_1 ?_)
  apply v_i1 (M := mX10_kernel) dX10_kernel_2 lk_RX10_142 mvX10_isNumber (by decide) meX10_kernel is_445 (Nat.le_of_ble_eq_true rfl)
  · exact t_X10_isNumber zt hp hp0
  intro x2 h2 hP2
  obtain ⟨eh2, hP2⟩ := hP2
  replace eh2 := eh2.symm
  subst eh2
  refine wp_if_ne 10 dX10_kernel_5 rfl ⟨by omega, by omega⟩ (fun c5 => ?_) (fun c5 => ?_)
  · skip
    refine w_aload0 dX10_kernel_10 ?_
    apply v_i0 (M := mX10_kernel) dX10_kernel_11 lk_RX10_277 mvX10_has (by decide) meX10_kernel is_445 (Nat.le_of_ble_eq_true rfl)
    · exact t_X10_has H
    intro x11 h11 hP11
    obtain ⟨Vn, Xn, bn1, bn2, bn3⟩ := hP11
    obtain ⟨sn, Rn, Hn, Tn, Kn, On⟩ := id Vn
    refine wp_if_eq 31 dX10_kernel_14 rfl ⟨by omega, by omega⟩ (fun c14 => ?_) (fun c14 => ?_)
    · skip
      refine wp_bipush dX10_kernel_31 (by decide) ?_
      refine r_i dX10_kernel_33 rfl meX10_kernel ?_
      first
      | exact zPV_q Vn Xn ((zif_y (by first | omega | (dsimp only; omega))).trans (zif_n (by first | omega | (dsimp only; omega)))) (rfl)
      | exact zPV_q Vn Xn ((zif_y (by first | omega | (dsimp only; omega))).trans (zif_y (by first | omega | (dsimp only; omega)))) rfl
    · skip
      refine w_aload0 dX10_kernel_17 ?_
      obtain ⟨⟨a1, a2, a3⟩, a4, a5, ⟨b1, b2, b3, b4, b5⟩, b6, b7, b8⟩ := id (bn3 (by omega))
      have hs8 := zsd_le c
      refine wp_geti dX10_kernel_18 fl_RX10_186 is_445 ?_
      rw [a3]
      refine w_aload0 dX10_kernel_21 (wp_getr 455 dX10_kernel_22 fl_RX10_37 is_445 rfl (w_iload1 dX10_kernel_25 (x_iald t.toNat dX10_kernel_26 is_455 (by omega) (by omega) ?_)))
      rw [a5 t.toNat (by omega)]
      refine wp_isub dX10_kernel_27 (wp_goto 33 dX10_kernel_28 rfl ?_)
      refine r_i dX10_kernel_33 rfl meX10_kernel ?_
      first
      | exact zPV_q Vn Xn ((zif_y (by first | omega | (dsimp only; omega))).trans (zif_n (by first | omega | (dsimp only; omega)))) (rfl)
      | exact zPV_q Vn Xn ((zif_y (by first | omega | (dsimp only; omega))).trans (zif_y (by first | omega | (dsimp only; omega)))) rfl
  · skip
    refine wp_iconst dX10_kernel_8 ?_
    refine r_i dX10_kernel_9 rfl meX10_kernel ?_
    exact zPV_q H zFV_r (zif_n (by first | omega | (dsimp only; omega))) rfl
set_option maxRecDepth 100000 in
set_option maxHeartbeats 4000000 in
theorem t_X10_entry {h : zH} {p : Int} {c : Nat → Nat → Int} {hs : List (Int × (Nat → Nat → Int))} {tx : Nat → Int} {L : Nat} (H : zVd p c hs tx L h) {r_ q_ e_ : Int} (zr_ : zin r_) (zq_ : zin q_) (ze_ : zin e_) : CI yX10_entry mX10_entry [vR 445, vI r_, vI q_, vI e_] h (fun r h' => zPV (sp_entry (p, c, hs, tx, L) r_ q_ e_) h r h') := by
  refine inV [some (vR 445), some (vI r_), some (vI q_), some (vI e_)] mvX10_entry rfl (Nat.le_of_ble_eq_true rfl) rfl ?_
  obtain ⟨hs1, hR, hH, hT, hK, hO⟩ := id H
  have hp := hs1.p
  have hp0 : h 446 0 = p := hR.1
  have hpp : 0 < p := by omega
  have zr_1 := zr_.1
  have zr_2 := zr_.2
  have zq_1 := zq_.1
  have zq_2 := zq_.2
  have ze_1 := ze_.1
  have ze_2 := ze_.2
  refine w_iload3 dX10_entry_0 (wp_iconst dX10_entry_1 (wp_bipush dX10_entry_2 (by decide) ?_))
  apply s_i3 (M := mX10_entry) dX10_entry_4 lk_RX10_80 mvX10_in (by decide) meX10_entry (Nat.le_of_ble_eq_true rfl)
  · exact t_X10_in ze_ ⟨by decide, by decide⟩ ⟨by decide, by decide⟩
  intro x4 h4 hP4
  obtain ⟨eh4, hP4⟩ := hP4
  replace eh4 := eh4.symm
  subst eh4
  refine wp_if_ne 12 dX10_entry_7 rfl ⟨by omega, by omega⟩ (fun c7 => ?_) (fun c7 => ?_)
  · skip
    refine w_aload0 dX10_entry_12 ?_
    apply v_i0 (M := mX10_entry) dX10_entry_13 lk_RX10_277 mvX10_has (by decide) meX10_entry is_445 (Nat.le_of_ble_eq_true rfl)
    · exact t_X10_has H
    intro x13 h13 hP13
    obtain ⟨Vn, Xn, bn1, bn2, bn3⟩ := hP13
    obtain ⟨sn, Rn, Hn, Tn, Kn, On⟩ := id Vn
    refine wp_if_ne 22 dX10_entry_16 rfl ⟨by omega, by omega⟩ (fun c16 => ?_) (fun c16 => ?_)
    · skip
      refine w_aload0 dX10_entry_22 ?_
      obtain ⟨⟨a1, a2, a3⟩, a4, a5, ⟨b1, b2, b3, b4, b5⟩, b6, b7, b8⟩ := id (bn3 (by omega))
      have hs8 := zsd_le c
      refine w_iload1 dX10_entry_23 (w_iload2 dX10_entry_24 ?_)
      apply v_i2 (M := mX10_entry) dX10_entry_25 lk_RX10_280 mvX10_isCell (by decide) meX10_entry is_445 (Nat.le_of_ble_eq_true rfl)
      · exact t_X10_isCell zr_ zq_ (zsd_le c) a3
      intro x25 h25 hP25
      obtain ⟨eh25, hP25⟩ := hP25
      replace eh25 := eh25.symm
      subst eh25
      refine wp_if_eq 50 dX10_entry_28 rfl ⟨by omega, by omega⟩ (fun c28 => ?_) (fun c28 => ?_)
      · skip
        refine wp_iconst dX10_entry_50 ?_
        refine r_i dX10_entry_51 rfl meX10_entry ?_
        first
        | exact zPV_q Vn Xn ((zif_y (by first | omega | (dsimp only; omega))).trans ((zif_n (by first | omega | (dsimp only; omega))).trans (zif_y (by unfold zoS; (try dsimp only); omega)))) (a4 _ (by omega) _ (by omega) _ (by omega))
        | exact zPV_q Vn Xn ((zif_y (by first | omega | (dsimp only; omega))).trans ((zif_n (by first | omega | (dsimp only; omega))).trans (zif_n (by unfold zoS; (try dsimp only); omega)))) rfl
      · skip
        refine w_aload0 dX10_entry_31 (wp_getr 454 dX10_entry_32 fl_RX10_34 is_445 rfl (wp_bipush dX10_entry_35 (by decide) (w_iload1 dX10_entry_37 (wp_imul dX10_entry_38 (w_iload2 dX10_entry_39 (wp_iadd dX10_entry_40 (wp_bipush dX10_entry_41 (by decide) (wp_imul dX10_entry_43 (w_iload3 dX10_entry_44 ?_)))))))))
        refine wp_iadd dX10_entry_45 (x_iald ((8 * r_.toNat + q_.toNat) * 7 + e_.toNat) dX10_entry_46 is_454 (by omega) (by omega) (wp_goto 51 dX10_entry_47 rfl ?_))
        refine r_i dX10_entry_51 rfl meX10_entry ?_
        first
        | exact zPV_q Vn Xn ((zif_y (by first | omega | (dsimp only; omega))).trans ((zif_n (by first | omega | (dsimp only; omega))).trans (zif_y (by unfold zoS; (try dsimp only); omega)))) (a4 _ (by omega) _ (by omega) _ (by omega))
        | exact zPV_q Vn Xn ((zif_y (by first | omega | (dsimp only; omega))).trans ((zif_n (by first | omega | (dsimp only; omega))).trans (zif_n (by unfold zoS; (try dsimp only); omega)))) rfl
    · skip
      refine wp_bipush dX10_entry_19 (by decide) ?_
      refine r_i dX10_entry_21 rfl meX10_entry ?_
      exact zPV_q Vn Xn ((zif_y (by first | omega | (dsimp only; omega))).trans (zif_y (by first | omega | (dsimp only; omega)))) rfl
  · skip
    refine wp_iconst dX10_entry_10 ?_
    refine r_i dX10_entry_11 rfl meX10_entry ?_
    exact zPV_q H zFV_r (zif_n (by first | omega | (dsimp only; omega))) rfl
set_option maxRecDepth 100000 in
set_option maxHeartbeats 4000000 in
theorem t_X10_entryAt {h : zH} {p : Int} {c : Nat → Nat → Int} {hs : List (Int × (Nat → Nat → Int))} {tx : Nat → Int} {L : Nat} (H : zVd p c hs tx L h) {r_ q_ t : Int} (zr_ : zin r_) (zq_ : zin q_) (zt : zin t) : CI yX10_entryAt mX10_entryAt [vR 445, vI r_, vI q_, vI t] h (fun r h' => zPV (sp_entryAt (p, c, hs, tx, L) r_ q_ t) h r h') := by
  refine inV [some (vR 445), some (vI r_), some (vI q_), some (vI t)] mvX10_entryAt rfl (Nat.le_of_ble_eq_true rfl) rfl ?_
  obtain ⟨hs1, hR, hH, hT, hK, hO⟩ := id H
  have hp := hs1.p
  have hp0 : h 446 0 = p := hR.1
  have hpp : 0 < p := by omega
  have zr_1 := zr_.1
  have zr_2 := zr_.2
  have zq_1 := zq_.1
  have zq_2 := zq_.2
  have zt1 := zt.1
  have zt2 := zt.2
  refine w_aload0 dX10_entryAt_0 (w_iload3 dX10_entryAt_1 ?_)
  apply v_i1 (M := mX10_entryAt) dX10_entryAt_2 lk_RX10_142 mvX10_isNumber (by decide) meX10_entryAt is_445 (Nat.le_of_ble_eq_true rfl)
  · exact t_X10_isNumber zt hp hp0
  intro x2 h2 hP2
  obtain ⟨eh2, hP2⟩ := hP2
  replace eh2 := eh2.symm
  subst eh2
  refine wp_if_ne 10 dX10_entryAt_5 rfl ⟨by omega, by omega⟩ (fun c5 => ?_) (fun c5 => ?_)
  · skip
    refine w_aload0 dX10_entryAt_10 ?_
    apply v_i0 (M := mX10_entryAt) dX10_entryAt_11 lk_RX10_277 mvX10_has (by decide) meX10_entryAt is_445 (Nat.le_of_ble_eq_true rfl)
    · exact t_X10_has H
    intro x11 h11 hP11
    obtain ⟨Vn, Xn, bn1, bn2, bn3⟩ := hP11
    obtain ⟨sn, Rn, Hn, Tn, Kn, On⟩ := id Vn
    refine wp_if_ne 20 dX10_entryAt_14 rfl ⟨by omega, by omega⟩ (fun c14 => ?_) (fun c14 => ?_)
    · skip
      refine w_aload0 dX10_entryAt_20 ?_
      obtain ⟨⟨a1, a2, a3⟩, a4, a5, ⟨b1, b2, b3, b4, b5⟩, b6, b7, b8⟩ := id (bn3 (by omega))
      have hs8 := zsd_le c
      refine w_iload1 dX10_entryAt_21 (w_iload2 dX10_entryAt_22 ?_)
      apply v_i2 (M := mX10_entryAt) dX10_entryAt_23 lk_RX10_280 mvX10_isCell (by decide) meX10_entryAt is_445 (Nat.le_of_ble_eq_true rfl)
      · exact t_X10_isCell zr_ zq_ (zsd_le c) a3
      intro x23 h23 hP23
      obtain ⟨eh23, hP23⟩ := hP23
      replace eh23 := eh23.symm
      subst eh23
      refine wp_if_eq 39 dX10_entryAt_26 rfl ⟨by omega, by omega⟩ (fun c26 => ?_) (fun c26 => ?_)
      · skip
        refine wp_iconst dX10_entryAt_39 ?_
        refine r_i dX10_entryAt_40 rfl meX10_entryAt ?_
        first
        | exact zPV_q Vn Xn ((zif_y (by first | omega | (dsimp only; omega))).trans ((zif_n (by first | omega | (dsimp only; omega))).trans (zif_y (by unfold zoS; (try dsimp only); omega)))) rfl
        | exact zPV_q Vn Xn ((zif_y (by first | omega | (dsimp only; omega))).trans ((zif_n (by first | omega | (dsimp only; omega))).trans (zif_n (by unfold zoS; (try dsimp only); omega)))) rfl
      · skip
        refine w_aload0 dX10_entryAt_29 (w_iload1 dX10_entryAt_30 (w_iload2 dX10_entryAt_31 (w_iload3 dX10_entryAt_32 ?_)))
        apply v_i3 (M := mX10_entryAt) dX10_entryAt_33 lk_RX10_192 mvX10_entryValue (by decide) meX10_entryAt is_445 (Nat.le_of_ble_eq_true rfl)
        · exact t_X10_entryValue (r := r_.toNat) (q := q_.toNat) (E := zEn p c (8 * r_.toNat + q_.toNat)) (by omega) (by omega) (by omega) (by omega) (by omega) hp Rn.1 (fun e he => ⟨a4 _ (by omega) _ (by omega) e he, zEn_in (by omega)⟩)
        intro x33 h33 hP33
        obtain ⟨eh33, ex33⟩ := hP33
        replace eh33 := eh33.symm
        subst eh33
        replace ex33 := ex33.symm
        subst ex33
        refine wp_goto 40 dX10_entryAt_36 rfl ?_
        refine r_i dX10_entryAt_40 rfl meX10_entryAt ?_
        first
        | exact zPV_q Vn Xn ((zif_y (by first | omega | (dsimp only; omega))).trans ((zif_n (by first | omega | (dsimp only; omega))).trans (zif_y (by unfold zoS; (try dsimp only); omega)))) rfl
        | exact zPV_q Vn Xn ((zif_y (by first | omega | (dsimp only; omega))).trans ((zif_n (by first | omega | (dsimp only; omega))).trans (zif_n (by unfold zoS; (try dsimp only); omega)))) rfl
    · skip
      refine wp_bipush dX10_entryAt_17 (by decide) ?_
      refine r_i dX10_entryAt_19 rfl meX10_entryAt ?_
      exact zPV_q Vn Xn ((zif_y (by first | omega | (dsimp only; omega))).trans (zif_y (by first | omega | (dsimp only; omega)))) rfl
  · skip
    refine wp_iconst dX10_entryAt_8 ?_
    refine r_i dX10_entryAt_9 rfl meX10_entryAt ?_
    exact zPV_q H zFV_r (zif_n (by first | omega | (dsimp only; omega))) rfl
set_option maxRecDepth 100000 in
set_option maxHeartbeats 4000000 in
theorem t_X10_eliminantDegree {h : zH} {p : Int} {c : Nat → Nat → Int} {hs : List (Int × (Nat → Nat → Int))} {tx : Nat → Int} {L : Nat} (H : zVd p c hs tx L h) {b : Int} (zb : b = 0 ∨ b = 1) : CI yX10_eliminantDegree mX10_eliminantDegree [vR 445, vI b] h (fun r h' => zPV (sp_eliminantDegree (p, c, hs, tx, L) b) h r h') := by
  refine inV [some (vR 445), some (vI b)] mvX10_eliminantDegree rfl (Nat.le_of_ble_eq_true rfl) rfl ?_
  obtain ⟨hs1, hR, hH, hT, hK, hO⟩ := id H
  have hp := hs1.p
  have hp0 : h 446 0 = p := hR.1
  have hpp : 0 < p := by omega
  refine w_aload0 dX10_eliminantDegree_0 ?_
  apply v_i0 (M := mX10_eliminantDegree) dX10_eliminantDegree_1 lk_RX10_277 mvX10_has (by decide) meX10_eliminantDegree is_445 (Nat.le_of_ble_eq_true rfl)
  · exact t_X10_has H
  intro x1 h1 hP1
  obtain ⟨Vn, Xn, bn1, bn2, bn3⟩ := hP1
  obtain ⟨sn, Rn, Hn, Tn, Kn, On⟩ := id Vn
  refine wp_if_ne 12 dX10_eliminantDegree_4 rfl ⟨by omega, by omega⟩ (fun c4 => ?_) (fun c4 => ?_)
  · skip
    refine w_iload1 dX10_eliminantDegree_12 ?_
    refine wp_if_eq 23 dX10_eliminantDegree_13 rfl ⟨by omega, by omega⟩ (fun c13 => ?_) (fun c13 => ?_)
    · skip
      refine w_aload0 dX10_eliminantDegree_23 ?_
      obtain ⟨⟨a1, a2, a3⟩, a4, a5, ⟨b1, b2, b3, b4, b5⟩, b6, b7, b8⟩ := id (bn3 (by omega))
      have hs8 := zsd_le c
      have W0 : ∀ e, 0 ≤ zWp p c e ∧ zWp p c e < p := fun e => zWp_in (by omega) e
      have W1 : ∀ e, 0 ≤ zform p c 1 e ∧ zform p c 1 e < p := fun e => zform_in (by omega) e
      have Z0 : zform p c 0 = zWp p c := if_pos rfl
      refine wp_getr 456 dX10_eliminantDegree_24 fl_RX10_40 is_445 rfl ?_
      apply s_i1 (M := mX10_eliminantDegree) dX10_eliminantDegree_27 lk_RX10_252 mvX10_degreeIn (by decide) meX10_eliminantDegree (Nat.le_of_ble_eq_true rfl)
      · exact t_X10_degreeIn (by first | exact is_457 | exact is_456) (by intro e he; first | (rw [b6 e he]; have := W0 e; exact ⟨by omega, by omega⟩) | (rw [b7 e he]; have := W1 e; exact ⟨by omega, by omega⟩))
      intro x27 h27 hP27
      obtain ⟨eh27, ex27⟩ := hP27
      replace eh27 := eh27.symm
      subst eh27
      replace ex27 := ex27.symm
      subst ex27
      refine r_i dX10_eliminantDegree_30 rfl meX10_eliminantDegree ?_
      first
      | exact zPV_q Vn Xn (zif_n (by first | omega | (dsimp only; omega))) (by rw [show b = 0 by omega, Z0]; exact congrArg Int.ofNat (ztop_congr 49 b6))
      | exact zPV_q Vn Xn (zif_n (by first | omega | (dsimp only; omega))) (by rw [show b = 1 by omega]; exact congrArg Int.ofNat (ztop_congr 49 b7))
      | exact zPV_q Vn Xn (zif_y (by first | omega | (dsimp only; omega))) rfl
    · skip
      refine w_aload0 dX10_eliminantDegree_16 ?_
      obtain ⟨⟨a1, a2, a3⟩, a4, a5, ⟨b1, b2, b3, b4, b5⟩, b6, b7, b8⟩ := id (bn3 (by omega))
      have hs8 := zsd_le c
      have W0 : ∀ e, 0 ≤ zWp p c e ∧ zWp p c e < p := fun e => zWp_in (by omega) e
      have W1 : ∀ e, 0 ≤ zform p c 1 e ∧ zform p c 1 e < p := fun e => zform_in (by omega) e
      have Z0 : zform p c 0 = zWp p c := if_pos rfl
      refine wp_getr 457 dX10_eliminantDegree_17 fl_RX10_43 is_445 rfl (wp_goto 27 dX10_eliminantDegree_20 rfl ?_)
      apply s_i1 (M := mX10_eliminantDegree) dX10_eliminantDegree_27 lk_RX10_252 mvX10_degreeIn (by decide) meX10_eliminantDegree (Nat.le_of_ble_eq_true rfl)
      · exact t_X10_degreeIn (by first | exact is_457 | exact is_456) (by intro e he; first | (rw [b6 e he]; have := W0 e; exact ⟨by omega, by omega⟩) | (rw [b7 e he]; have := W1 e; exact ⟨by omega, by omega⟩))
      intro x27 h27 hP27
      obtain ⟨eh27, ex27⟩ := hP27
      replace eh27 := eh27.symm
      subst eh27
      replace ex27 := ex27.symm
      subst ex27
      refine r_i dX10_eliminantDegree_30 rfl meX10_eliminantDegree ?_
      first
      | exact zPV_q Vn Xn (zif_n (by first | omega | (dsimp only; omega))) (by rw [show b = 0 by omega, Z0]; exact congrArg Int.ofNat (ztop_congr 49 b6))
      | exact zPV_q Vn Xn (zif_n (by first | omega | (dsimp only; omega))) (by rw [show b = 1 by omega]; exact congrArg Int.ofNat (ztop_congr 49 b7))
      | exact zPV_q Vn Xn (zif_y (by first | omega | (dsimp only; omega))) rfl
  · skip
    refine wp_bipush dX10_eliminantDegree_7 (by decide) (wp_goto 30 dX10_eliminantDegree_9 rfl ?_)
    refine r_i dX10_eliminantDegree_30 rfl meX10_eliminantDegree ?_
    first
    | exact zPV_q Vn Xn (zif_n (by first | omega | (dsimp only; omega))) (by rw [show b = 0 by omega, Z0]; exact congrArg Int.ofNat (ztop_congr 49 b6))
    | exact zPV_q Vn Xn (zif_n (by first | omega | (dsimp only; omega))) (by rw [show b = 1 by omega]; exact congrArg Int.ofNat (ztop_congr 49 b7))
    | exact zPV_q Vn Xn (zif_y (by first | omega | (dsimp only; omega))) rfl
set_option maxRecDepth 100000 in
set_option maxHeartbeats 4000000 in
theorem t_X10_eliminant {h : zH} {p : Int} {c : Nat → Nat → Int} {hs : List (Int × (Nat → Nat → Int))} {tx : Nat → Int} {L : Nat} (H : zVd p c hs tx L h) {b e_ : Int} (zb : b = 0 ∨ b = 1) (ze_ : zin e_) : CI yX10_eliminant mX10_eliminant [vR 445, vI b, vI e_] h (fun r h' => zPV (sp_eliminant (p, c, hs, tx, L) b e_) h r h') := by
  refine inV [some (vR 445), some (vI b), some (vI e_)] mvX10_eliminant rfl (Nat.le_of_ble_eq_true rfl) rfl ?_
  obtain ⟨hs1, hR, hH, hT, hK, hO⟩ := id H
  have hp := hs1.p
  have hp0 : h 446 0 = p := hR.1
  have hpp : 0 < p := by omega
  have ze_1 := ze_.1
  have ze_2 := ze_.2
  refine w_iload2 dX10_eliminant_0 (wp_iconst dX10_eliminant_1 (wp_bipush dX10_eliminant_2 (by decide) ?_))
  apply s_i3 (M := mX10_eliminant) dX10_eliminant_4 lk_RX10_80 mvX10_in (by decide) meX10_eliminant (Nat.le_of_ble_eq_true rfl)
  · exact t_X10_in ze_ ⟨by decide, by decide⟩ ⟨by decide, by decide⟩
  intro x4 h4 hP4
  obtain ⟨eh4, hP4⟩ := hP4
  replace eh4 := eh4.symm
  subst eh4
  refine wp_if_ne 12 dX10_eliminant_7 rfl ⟨by omega, by omega⟩ (fun c7 => ?_) (fun c7 => ?_)
  · skip
    refine w_aload0 dX10_eliminant_12 ?_
    apply v_i0 (M := mX10_eliminant) dX10_eliminant_13 lk_RX10_277 mvX10_has (by decide) meX10_eliminant is_445 (Nat.le_of_ble_eq_true rfl)
    · exact t_X10_has H
    intro x13 h13 hP13
    obtain ⟨Vn, Xn, bn1, bn2, bn3⟩ := hP13
    obtain ⟨sn, Rn, Hn, Tn, Kn, On⟩ := id Vn
    refine wp_if_ne 24 dX10_eliminant_16 rfl ⟨by omega, by omega⟩ (fun c16 => ?_) (fun c16 => ?_)
    · skip
      refine w_iload1 dX10_eliminant_24 ?_
      refine wp_if_eq 37 dX10_eliminant_25 rfl ⟨by omega, by omega⟩ (fun c25 => ?_) (fun c25 => ?_)
      · skip
        refine w_aload0 dX10_eliminant_37 ?_
        obtain ⟨⟨a1, a2, a3⟩, a4, a5, ⟨b1, b2, b3, b4, b5⟩, b6, b7, b8⟩ := id (bn3 (by omega))
        have hs8 := zsd_le c
        have W0 : ∀ e, 0 ≤ zWp p c e ∧ zWp p c e < p := fun e => zWp_in (by omega) e
        have W1 : ∀ e, 0 ≤ zform p c 1 e ∧ zform p c 1 e < p := fun e => zform_in (by omega) e
        have Z0 : zform p c 0 = zWp p c := if_pos rfl
        refine wp_getr 456 dX10_eliminant_38 fl_RX10_40 is_445 rfl (w_iload2 dX10_eliminant_41 (x_iald e_.toNat dX10_eliminant_42 is_456 (by omega) (by omega) ?_))
        refine r_i dX10_eliminant_43 rfl meX10_eliminant ?_
        first
        | exact zPV_q Vn Xn ((zif_y (by first | omega | (dsimp only; omega))).trans (zif_n (by first | omega | (dsimp only; omega)))) (by rw [show b = 1 by omega]; exact b7 _ (by omega))
        | exact zPV_q Vn Xn ((zif_y (by first | omega | (dsimp only; omega))).trans (zif_n (by first | omega | (dsimp only; omega)))) (by rw [show b = 0 by omega, Z0]; exact b6 _ (by omega))
        | exact zPV_q Vn Xn ((zif_y (by first | omega | (dsimp only; omega))).trans (zif_y (by first | omega | (dsimp only; omega)))) rfl
      · skip
        refine w_aload0 dX10_eliminant_28 ?_
        obtain ⟨⟨a1, a2, a3⟩, a4, a5, ⟨b1, b2, b3, b4, b5⟩, b6, b7, b8⟩ := id (bn3 (by omega))
        have hs8 := zsd_le c
        have W0 : ∀ e, 0 ≤ zWp p c e ∧ zWp p c e < p := fun e => zWp_in (by omega) e
        have W1 : ∀ e, 0 ≤ zform p c 1 e ∧ zform p c 1 e < p := fun e => zform_in (by omega) e
        have Z0 : zform p c 0 = zWp p c := if_pos rfl
        refine wp_getr 457 dX10_eliminant_29 fl_RX10_43 is_445 rfl (w_iload2 dX10_eliminant_32 (x_iald e_.toNat dX10_eliminant_33 is_457 (by omega) (by omega) (wp_goto 43 dX10_eliminant_34 rfl ?_)))
        refine r_i dX10_eliminant_43 rfl meX10_eliminant ?_
        first
        | exact zPV_q Vn Xn ((zif_y (by first | omega | (dsimp only; omega))).trans (zif_n (by first | omega | (dsimp only; omega)))) (by rw [show b = 1 by omega]; exact b7 _ (by omega))
        | exact zPV_q Vn Xn ((zif_y (by first | omega | (dsimp only; omega))).trans (zif_n (by first | omega | (dsimp only; omega)))) (by rw [show b = 0 by omega, Z0]; exact b6 _ (by omega))
        | exact zPV_q Vn Xn ((zif_y (by first | omega | (dsimp only; omega))).trans (zif_y (by first | omega | (dsimp only; omega)))) rfl
    · skip
      refine wp_bipush dX10_eliminant_19 (by decide) (wp_goto 43 dX10_eliminant_21 rfl ?_)
      refine r_i dX10_eliminant_43 rfl meX10_eliminant ?_
      first
      | exact zPV_q Vn Xn ((zif_y (by first | omega | (dsimp only; omega))).trans (zif_n (by first | omega | (dsimp only; omega)))) (by rw [show b = 1 by omega]; exact b7 _ (by omega))
      | exact zPV_q Vn Xn ((zif_y (by first | omega | (dsimp only; omega))).trans (zif_n (by first | omega | (dsimp only; omega)))) (by rw [show b = 0 by omega, Z0]; exact b6 _ (by omega))
      | exact zPV_q Vn Xn ((zif_y (by first | omega | (dsimp only; omega))).trans (zif_y (by first | omega | (dsimp only; omega)))) rfl
  · skip
    refine wp_iconst dX10_eliminant_10 ?_
    refine r_i dX10_eliminant_11 rfl meX10_eliminant ?_
    exact zPV_q H zFV_r (zif_n (by first | omega | (dsimp only; omega))) rfl
set_option maxRecDepth 100000 in
set_option maxHeartbeats 4000000 in
theorem t_X10_eliminantAt {h : zH} {p : Int} {c : Nat → Nat → Int} {hs : List (Int × (Nat → Nat → Int))} {tx : Nat → Int} {L : Nat} (H : zVd p c hs tx L h) {b t : Int} (zb : b = 0 ∨ b = 1) (zt : zin t) : CI yX10_eliminantAt mX10_eliminantAt [vR 445, vI b, vI t] h (fun r h' => zPV (sp_eliminantAt (p, c, hs, tx, L) b t) h r h') := by
  refine inV [some (vR 445), some (vI b), some (vI t)] mvX10_eliminantAt rfl (Nat.le_of_ble_eq_true rfl) rfl ?_
  obtain ⟨hs1, hR, hH, hT, hK, hO⟩ := id H
  have hp := hs1.p
  have hp0 : h 446 0 = p := hR.1
  have hpp : 0 < p := by omega
  have zt1 := zt.1
  have zt2 := zt.2
  refine w_aload0 dX10_eliminantAt_0 (w_iload2 dX10_eliminantAt_1 ?_)
  apply v_i1 (M := mX10_eliminantAt) dX10_eliminantAt_2 lk_RX10_142 mvX10_isNumber (by decide) meX10_eliminantAt is_445 (Nat.le_of_ble_eq_true rfl)
  · exact t_X10_isNumber zt hp hp0
  intro x2 h2 hP2
  obtain ⟨eh2, hP2⟩ := hP2
  replace eh2 := eh2.symm
  subst eh2
  refine wp_if_ne 10 dX10_eliminantAt_5 rfl ⟨by omega, by omega⟩ (fun c5 => ?_) (fun c5 => ?_)
  · skip
    refine w_aload0 dX10_eliminantAt_10 ?_
    apply v_i0 (M := mX10_eliminantAt) dX10_eliminantAt_11 lk_RX10_277 mvX10_has (by decide) meX10_eliminantAt is_445 (Nat.le_of_ble_eq_true rfl)
    · exact t_X10_has H
    intro x11 h11 hP11
    obtain ⟨Vn, Xn, bn1, bn2, bn3⟩ := hP11
    obtain ⟨sn, Rn, Hn, Tn, Kn, On⟩ := id Vn
    refine wp_if_ne 22 dX10_eliminantAt_14 rfl ⟨by omega, by omega⟩ (fun c14 => ?_) (fun c14 => ?_)
    · skip
      refine w_aload0 dX10_eliminantAt_22 (w_iload1 dX10_eliminantAt_23 ?_)
      refine wp_if_eq 34 dX10_eliminantAt_24 rfl ⟨by omega, by omega⟩ (fun c24 => ?_) (fun c24 => ?_)
      · skip
        refine w_aload0 dX10_eliminantAt_34 ?_
        obtain ⟨⟨a1, a2, a3⟩, a4, a5, ⟨b1, b2, b3, b4, b5⟩, b6, b7, b8⟩ := id (bn3 (by omega))
        have hs8 := zsd_le c
        have W0 : ∀ e, 0 ≤ zWp p c e ∧ zWp p c e < p := fun e => zWp_in (by omega) e
        have W1 : ∀ e, 0 ≤ zform p c 1 e ∧ zform p c 1 e < p := fun e => zform_in (by omega) e
        have Z0 : zform p c 0 = zWp p c := if_pos rfl
        refine wp_getr 456 dX10_eliminantAt_35 fl_RX10_40 is_445 rfl (w_iload2 dX10_eliminantAt_38 ?_)
        apply v_i2 (M := mX10_eliminantAt) dX10_eliminantAt_39 lk_RX10_241 mvX10_valueAt (by decide) meX10_eliminantAt is_445 (Nat.le_of_ble_eq_true rfl)
        · exact t_X10_valueAt (by first | exact is_457 | exact is_456) (by omega) hp Rn.1 (by intro e he; first | (rw [b6 e he]; exact W0 e) | (rw [b7 e he]; exact W1 e))
        intro x39 h39 hP39
        obtain ⟨eh39, ex39⟩ := hP39
        replace eh39 := eh39.symm
        subst eh39
        replace ex39 := ex39.symm
        subst ex39
        refine r_i dX10_eliminantAt_42 rfl meX10_eliminantAt ?_
        first
        | exact zPV_q Vn Xn ((zif_y (by first | omega | (dsimp only; omega))).trans (zif_n (by first | omega | (dsimp only; omega)))) (by rw [show b = 0 by omega, Z0]; exact zhor_congr 49 _ _ b6)
        | exact zPV_q Vn Xn ((zif_y (by first | omega | (dsimp only; omega))).trans (zif_n (by first | omega | (dsimp only; omega)))) (by rw [show b = 1 by omega]; exact zhor_congr 49 _ _ b7)
        | exact zPV_q Vn Xn ((zif_y (by first | omega | (dsimp only; omega))).trans (zif_y (by first | omega | (dsimp only; omega)))) rfl
      · skip
        refine w_aload0 dX10_eliminantAt_27 ?_
        obtain ⟨⟨a1, a2, a3⟩, a4, a5, ⟨b1, b2, b3, b4, b5⟩, b6, b7, b8⟩ := id (bn3 (by omega))
        have hs8 := zsd_le c
        have W0 : ∀ e, 0 ≤ zWp p c e ∧ zWp p c e < p := fun e => zWp_in (by omega) e
        have W1 : ∀ e, 0 ≤ zform p c 1 e ∧ zform p c 1 e < p := fun e => zform_in (by omega) e
        have Z0 : zform p c 0 = zWp p c := if_pos rfl
        refine wp_getr 457 dX10_eliminantAt_28 fl_RX10_43 is_445 rfl (wp_goto 38 dX10_eliminantAt_31 rfl (w_iload2 dX10_eliminantAt_38 ?_))
        apply v_i2 (M := mX10_eliminantAt) dX10_eliminantAt_39 lk_RX10_241 mvX10_valueAt (by decide) meX10_eliminantAt is_445 (Nat.le_of_ble_eq_true rfl)
        · exact t_X10_valueAt (by first | exact is_457 | exact is_456) (by omega) hp Rn.1 (by intro e he; first | (rw [b6 e he]; exact W0 e) | (rw [b7 e he]; exact W1 e))
        intro x39 h39 hP39
        obtain ⟨eh39, ex39⟩ := hP39
        replace eh39 := eh39.symm
        subst eh39
        replace ex39 := ex39.symm
        subst ex39
        refine r_i dX10_eliminantAt_42 rfl meX10_eliminantAt ?_
        first
        | exact zPV_q Vn Xn ((zif_y (by first | omega | (dsimp only; omega))).trans (zif_n (by first | omega | (dsimp only; omega)))) (by rw [show b = 0 by omega, Z0]; exact zhor_congr 49 _ _ b6)
        | exact zPV_q Vn Xn ((zif_y (by first | omega | (dsimp only; omega))).trans (zif_n (by first | omega | (dsimp only; omega)))) (by rw [show b = 1 by omega]; exact zhor_congr 49 _ _ b7)
        | exact zPV_q Vn Xn ((zif_y (by first | omega | (dsimp only; omega))).trans (zif_y (by first | omega | (dsimp only; omega)))) rfl
    · skip
      refine wp_bipush dX10_eliminantAt_17 (by decide) (wp_goto 42 dX10_eliminantAt_19 rfl ?_)
      refine r_i dX10_eliminantAt_42 rfl meX10_eliminantAt ?_
      first
      | exact zPV_q Vn Xn ((zif_y (by first | omega | (dsimp only; omega))).trans (zif_n (by first | omega | (dsimp only; omega)))) (by rw [show b = 0 by omega, Z0]; exact zhor_congr 49 _ _ b6)
      | exact zPV_q Vn Xn ((zif_y (by first | omega | (dsimp only; omega))).trans (zif_n (by first | omega | (dsimp only; omega)))) (by rw [show b = 1 by omega]; exact zhor_congr 49 _ _ b7)
      | exact zPV_q Vn Xn ((zif_y (by first | omega | (dsimp only; omega))).trans (zif_y (by first | omega | (dsimp only; omega)))) rfl
  · skip
    refine wp_iconst dX10_eliminantAt_8 ?_
    refine r_i dX10_eliminantAt_9 rfl meX10_eliminantAt ?_
    exact zPV_q H zFV_r (zif_n (by first | omega | (dsimp only; omega))) rfl
set_option maxRecDepth 100000 in
set_option maxHeartbeats 4000000 in
theorem t_X10_rankDrops {h : zH} {p : Int} {c : Nat → Nat → Int} {hs : List (Int × (Nat → Nat → Int))} {tx : Nat → Int} {L : Nat} (H : zVd p c hs tx L h) : CI yX10_rankDrops mX10_rankDrops [vR 445] h (fun r h' => zPV (sp_rankDrops (p, c, hs, tx, L)) h r h') := by
  refine inV [some (vR 445), none, none] mvX10_rankDrops rfl (Nat.le_of_ble_eq_true rfl) rfl ?_
  obtain ⟨hs1, hR, hH, hT, hK, hO⟩ := id H
  have hp := hs1.p
  have hp0 : h 446 0 = p := hR.1
  have hpp : 0 < p := by omega
  have L14 : ∀ (zm14 : Nat) (t : Nat) (h' : zH) (vs : Int), p.toNat - t = zm14 → ((t : Int) ≤ p) → (vs = (zmk (fun t => zrk p c t < zgP p c) t : Int)) → (zsd c ≠ 0) → (zKn p c h') → (zVd p c hs tx L h') → (zFV h h') → WP mX10_rankDrops (zMQ mX10_rankDrops (zKI (fun r h' => zPV (sp_rankDrops (p, c, hs, tx, L)) h r h'))) 14 [some (vR 445), some (vI vs), some (vI (t : Int))] [] zN zGR h' := by
    intro zm14
    induction zm14 using Nat.strongRecOn with | _ zm14 ih14 => ?_
    intro t h' vs hzm14 ht hvs hz hk hV hX
    subst hzm14
    have hmb := zmk_b8 (P := fun t => zrk p c t < zgP p c) (i := t) (by omega)
    obtain ⟨-, -, a5, ⟨b1, -⟩, -⟩ := id hk
    refine w_iload2 dX10_rankDrops_14 (w_aload0 dX10_rankDrops_15 ?_)
    apply v_i0 (M := mX10_rankDrops) dX10_rankDrops_16 lk_RX10_76 mvX10_p (by decide) meX10_rankDrops is_445 (Nat.le_of_ble_eq_true rfl)
    · exact t_X10_p hV.2.1.1
    intro x16 h16 hP16
    obtain ⟨eh16, ex16⟩ := hP16
    replace eh16 := eh16.symm
    subst eh16
    replace ex16 := ex16.symm
    subst ex16
    refine wp_icmp_ge 51 dX10_rankDrops_19 rfl ⟨by omega, by omega⟩ ⟨by omega, by omega⟩ (fun c19 => ?_) (fun c19 => ?_)
    · skip
      refine w_iload1 dX10_rankDrops_51 ?_
      refine r_i dX10_rankDrops_52 rfl meX10_rankDrops ?_
      rw [show t = p.toNat by omega] at hvs
      exact zPV_q hV hX (zif_n (by first | omega | (dsimp only; omega))) hvs
    · skip
      refine w_iload1 dX10_rankDrops_22 (w_aload0 dX10_rankDrops_23 (wp_getr 455 dX10_rankDrops_24 fl_RX10_37 is_445 rfl (w_iload2 dX10_rankDrops_27 (x_iald t dX10_rankDrops_28 is_455 rfl (by omega) ?_))))
      rw [a5 t (by omega)]
      have hrk := zrk_le (p := p) (c := c) (t := t)
      have hs8 := zsd_le c
      have hgp : zgP p c ≤ zsd c := zgt_le (p := p) (c := c) p.toNat
      refine w_aload0 dX10_rankDrops_29 (wp_geti dX10_rankDrops_30 fl_RX10_204 is_445 ?_)
      refine wp_icmp_ge 42 dX10_rankDrops_33 rfl ⟨by omega, by omega⟩ ⟨by omega, by omega⟩ (fun c33 => ?_) (fun c33 => ?_)
      · skip
        refine wp_iconst dX10_rankDrops_42 (wp_ior dX10_rankDrops_43 (by omega) (by first | exact z_1s t (by omega) | exact ⟨by decide, by decide⟩) (w_istore1 dX10_rankDrops_44 rfl (by decide) (w_iinc2 dX10_rankDrops_45 rfl (by decide) (wp_goto 14 dX10_rankDrops_48 rfl ?_))))
        first
        | (have c9 : zrk p c t < zgP p c := by omega
           refine ih14 _ (by omega) (t + 1) _ _ rfl (by omega) ?_ hz hk hV hX
           rw [hvs, z_or1, zmk_or, zmk_y (P := fun t => zrk p c t < zgP p c) c9])
        | (have c9 : ¬ zrk p c t < zgP p c := by omega
           refine ih14 _ (by omega) (t + 1) _ _ rfl (by omega) ?_ hz hk hV hX
           rw [hvs, z_or0, zmk_n (P := fun t => zrk p c t < zgP p c) c9])
      · skip
        refine wp_iconst dX10_rankDrops_36 (w_iload2 dX10_rankDrops_37 (wp_ishl dX10_rankDrops_38 (by omega) (wp_goto 43 dX10_rankDrops_39 rfl (wp_ior dX10_rankDrops_43 (by omega) (by first | exact z_1s t (by omega) | exact ⟨by decide, by decide⟩) (w_istore1 dX10_rankDrops_44 rfl (by decide) (w_iinc2 dX10_rankDrops_45 rfl (by decide) (wp_goto 14 dX10_rankDrops_48 rfl ?_)))))))
        first
        | (have c9 : zrk p c t < zgP p c := by omega
           refine ih14 _ (by omega) (t + 1) _ _ rfl (by omega) ?_ hz hk hV hX
           rw [hvs, z_or1, zmk_or, zmk_y (P := fun t => zrk p c t < zgP p c) c9])
        | (have c9 : ¬ zrk p c t < zgP p c := by omega
           refine ih14 _ (by omega) (t + 1) _ _ rfl (by omega) ?_ hz hk hV hX
           rw [hvs, z_or0, zmk_n (P := fun t => zrk p c t < zgP p c) c9])
  refine w_aload0 dX10_rankDrops_0 ?_
  apply v_i0 (M := mX10_rankDrops) dX10_rankDrops_1 lk_RX10_277 mvX10_has (by decide) meX10_rankDrops is_445 (Nat.le_of_ble_eq_true rfl)
  · exact t_X10_has H
  intro x1 h1 hP1
  obtain ⟨Vn, Xn, bn1, bn2, bn3⟩ := hP1
  obtain ⟨sn, Rn, Hn, Tn, Kn, On⟩ := id Vn
  refine wp_if_ne 10 dX10_rankDrops_4 rfl ⟨by omega, by omega⟩ (fun c4 => ?_) (fun c4 => ?_)
  · skip
    refine wp_iconst dX10_rankDrops_10 (w_istore1 dX10_rankDrops_11 rfl (by decide) (wp_iconst dX10_rankDrops_12 (w_istore2 dX10_rankDrops_13 rfl (by decide) ?_)))
    exact L14 _ 0 _ _ rfl (by omega) rfl (by omega) (bn3 (by omega)) Vn Xn
  · skip
    refine wp_bipush dX10_rankDrops_7 (by decide) ?_
    refine r_i dX10_rankDrops_9 rfl meX10_rankDrops ?_
    exact zPV_q Vn Xn (zif_y (by first | omega | (dsimp only; omega))) rfl
