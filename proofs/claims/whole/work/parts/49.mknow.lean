

set_option maxRecDepth 100000 in
set_option maxHeartbeats 4000000 in
theorem t_X10_knows {h : zH} {p : Int} {c : Nat → Nat → Int} {hs : List (Int × (Nat → Nat → Int))} {tx : Nat → Int} {L : Nat} (H : zVd p c hs tx L h) (hz : zsd c ≠ 0) : CV yX10_knows mX10_knows [vR 445] h (fun h' => zVd p c hs tx L h' ∧ zFV h h' ∧ zKn p c h') := by
  refine inV [some (vR 445)] mvX10_knows rfl (Nat.le_of_ble_eq_true rfl) rfl ?_
  obtain ⟨hs1, hR, hH, hT, hK, hO⟩ := id H
  have hp := hs1.p
  have hp0 : h 446 0 = p := hR.1
  have hpp : 0 < p := by omega
  have hp := hs1.p
  have hpp : 0 < p := by omega
  have hs8 := zsd_le c
  have hs2 := zsd_2 hz
  have hg0 := zgd_le c 0
  have hg1 := zgd_le c 1
  have hsv := zsd_v hz
  obtain ⟨hg2, hg3⟩ := zgd_12 hz
  refine w_aload0 dX10_knows_0 (wp_getz dX10_knows_1 fl_RX10_95 is_445 ?_)
  refine wp_if_eq 8 dX10_knows_4 rfl (by unfold zMk at hK; rcases hK with q | q; exact ⟨by omega, by omega⟩; exact ⟨by omega, by omega⟩) (fun c4 => ?_) (fun c4 => ?_)
  · skip
    refine w_aload0 dX10_knows_8 (wp_iconst dX10_knows_9 (wp_putz dX10_knows_10 fl_RX10_95 is_445 rfl (by first | exact Or.inl rfl | exact Or.inr rfl) (w_aload0 dX10_knows_13 (w_aload0 dX10_knows_14 (wp_iconst dX10_knows_15 ?_)))))
    apply v_i1 (M := mX10_knows) dX10_knows_16 lk_RX10_170 mvX10_greatest (by decide) meX10_knows is_445 (Nat.le_of_ble_eq_true rfl)
    · exact t_X10_greatest (v := 0) rfl (by decide) hs1 (zMr_fr hR (fun j _ => by rw [zup_o (by omega)]))
    intro x16 h16 hP16
    obtain ⟨eh16, ex16⟩ := hP16
    replace eh16 := eh16.symm
    subst eh16
    replace ex16 := ex16.symm
    subst ex16
    refine wp_puti dX10_knows_19 fl_RX10_189 is_445 rfl (w_aload0 dX10_knows_22 (w_aload0 dX10_knows_23 (wp_iconst dX10_knows_24 ?_)))
    apply v_i1 (M := mX10_knows) dX10_knows_25 lk_RX10_170 mvX10_greatest (by decide) meX10_knows is_445 (Nat.le_of_ble_eq_true rfl)
    · exact t_X10_greatest (v := 1) rfl (by decide) hs1 (zMr_fr hR (fun j _ => by rw [zup_o (by omega), zup_o (by omega)]))
    intro x25 h25 hP25
    obtain ⟨eh25, ex25⟩ := hP25
    replace eh25 := eh25.symm
    subst eh25
    replace ex25 := ex25.symm
    subst ex25
    refine wp_puti dX10_knows_28 fl_RX10_256 is_445 rfl (w_aload0 dX10_knows_31 (wp_iconst dX10_knows_32 (w_aload0 dX10_knows_33 (wp_geti dX10_knows_34 fl_RX10_189 is_445 (wp_imul dX10_knows_37 (w_aload0 dX10_knows_38 (wp_geti dX10_knows_39 fl_RX10_256 is_445 (wp_imul dX10_knows_42 ?_))))))))
    rw [show zup (zup (zup h 445 8 1) 445 9 (zgd c 0 : Int)) 445 10 (zgd c 1 : Int) 445 9 = (zgd c 0 : Int) by rw [zup_o (by omega), zup_s], show zup (zup (zup h 445 8 1) 445 9 (zgd c 0 : Int)) 445 10 (zgd c 1 : Int) 445 10 = (zgd c 1 : Int) from zup_s, show (2 : Int) * (zgd c 0 : Int) * (zgd c 1 : Int) = (zsd c : Int) by rw [hsv, Int.natCast_mul, Int.natCast_mul]; rfl]
    refine wp_puti dX10_knows_43 fl_RX10_186 is_445 rfl (w_aload0 dX10_knows_46 ?_)
    apply v_v0 (M := mX10_knows) dX10_knows_47 lk_RX10_259 mvX10_findsDixon (by decide) meX10_knows is_445 (Nat.le_of_ble_eq_true rfl)
    · exact t_X10_findsDixon (m := zgd c 0) (sd := zsd c) hs1 (zMr_fr hR (fun j _ => by rw [zup_o (by omega), zup_o (by omega), zup_o (by omega), zup_o (by omega)])) hg2 (by rcases hg2 with w | w <;> rw [w] at hsv ⊢ <;> omega) (by rw [zup_o (by omega), zup_o (by omega), zup_s]) zup_s
    intro h47 hP47
    obtain ⟨f47, d47⟩ := hP47
    have hE47 : ∀ r, r < zsd c → ∀ q, q < zsd c → ∀ e, e < 7 → h47 454 ((8 * r + q) * 7 + e) = zEn p c (8 * r + q) e := fun r hr q hq e he => (d47 r hr q hq e he).trans (zDd_en hs1 hz hr hq he)
    have fr47 : ∀ a j, ¬ (450 ≤ a ∧ a ≤ 454) → ¬ (a = 445 ∧ 8 ≤ j ∧ j ≤ 11) → h47 a j = h a j := fun a j n1 n2 => by
      rw [f47 a j (by unfold zFdx; omega), zup_o (by omega), zup_o (by omega), zup_o (by omega), zup_o (by omega)]
    have h8 : h47 445 8 = 1 := by rw [f47 _ _ (by unfold zFdx; omega), zup_o (by omega), zup_o (by omega), zup_o (by omega), zup_s]
    have h9 : h47 445 9 = (zgd c 0 : Int) := by rw [f47 _ _ (by unfold zFdx; omega), zup_o (by omega), zup_o (by omega), zup_s]
    have h10 : h47 445 10 = (zgd c 1 : Int) := by rw [f47 _ _ (by unfold zFdx; omega), zup_o (by omega), zup_s]
    have h11 : h47 445 11 = (zsd c : Int) := by rw [f47 _ _ (by unfold zFdx; omega), zup_s]
    refine w_aload0 dX10_knows_50 ?_
    apply v_v0 (M := mX10_knows) dX10_knows_51 lk_RX10_262 mvX10_findsRanks (by decide) meX10_knows is_445 (Nat.le_of_ble_eq_true rfl)
    · exact t_X10_findsRanks hs2 hs8 hp ((fr47 446 0 (by omega) (by omega)).trans hR.1) h11 (fun r hr q hq e he => ⟨hE47 r hr q hq e he, zEn_in hpp⟩)
    intro h51 hP51
    obtain ⟨f51, r51, a51, b51, c51, d51, e51⟩ := hP51
    rw [zmrk_max hs1 hz] at a51
    rw [zmrk_piv hs1 hz] at b51
    rw [zmrk_max hs1 hz, zmrw_max hs1 hz] at c51
    rw [zmrk_piv hs1 hz, zIp_row hs1 hz] at d51
    rw [zmrk_piv hs1 hz, zIp_col hs1 hz] at e51
    have hE51 : ∀ r, r < zsd c → ∀ q, q < zsd c → ∀ e, e < 7 → h51 454 ((8 * r + q) * 7 + e) = zEn p c (8 * r + q) e := fun r hr q hq e he => by rw [f51 _ _ (by unfold zFfr2; omega)]; exact hE47 r hr q hq e he
    have fr51 : ∀ a j, ¬ zFfr2 a j → ¬ (450 ≤ a ∧ a ≤ 454) → ¬ (a = 445 ∧ 8 ≤ j ∧ j ≤ 11) → h51 a j = h a j := fun a j n1 n2 n3 => (f51 a j n1).trans (fr47 a j n2 n3)
    refine w_aload0 dX10_knows_54 ?_
    apply v_v0 (M := mX10_knows) dX10_knows_55 lk_RX10_265 mvX10_findsEliminant (by decide) meX10_knows is_445 (Nat.le_of_ble_eq_true rfl)
    · exact t_X10_findsEliminant (Pr := zTfl p (zRw p c (zpP p c))) (Pc := zTfl p (zCl p c (zpP p c))) (N := zsd c) (o := zgP p c) hs8 (by have := zRowO_gP hs1 hz; unfold zRowO at this; omega) (by have := zRowO_gP hs1 hz; unfold zRowO at this; omega) a51 d51 e51 hp ((fr51 446 0 (by unfold zFfr2; omega) (by omega) (by omega)).trans hR.1) (fun r hr q hq e he => ⟨hE51 r hr q hq e he, zEn_in hpp⟩)
    intro h55 hP55
    obtain ⟨f55, w55⟩ := hP55
    have hW55 : ∀ e, e < 49 → h55 456 e = zWp p c e ∧ h55 457 e = zWp p c e := fun e he => by
      have q := w55 e he
      rw [← zRowO_gP hs1 hz] at q
      exact q
    have fr55 : ∀ a j, ¬ (a = 456 ∨ a = 457 ∨ a = 461) → ¬ zFfr2 a j → ¬ (450 ≤ a ∧ a ≤ 454) → ¬ (a = 445 ∧ 8 ≤ j ∧ j ≤ 11) → h55 a j = h a j := fun a j n0 n1 n2 n3 => (f55 a j n0).trans (fr51 a j n1 n2 n3)
    refine w_aload0 dX10_knows_58 ?_
    apply v_v0 (M := mX10_knows) dX10_knows_59 lk_RX10_268 mvX10_reduces (by decide) meX10_knows is_445 (Nat.le_of_ble_eq_true rfl)
    · exact t_X10_reduces (W := zWp p c) hs1 (zMr_fr hR (fun j _ => fr55 _ _ (by omega) (by unfold zFfr2; omega) (by omega) (by omega))) (zMo_fr hO (fun a j ha => by unfold zKoF at ha; exact fr55 _ _ (by omega) (by unfold zFfr2; omega) (by omega) (by omega))) (znz_Wp hs1 hz) hW55
    intro h59 hP59
    obtain ⟨f59, k59, o59, x59, w59⟩ := hP59
    have fr59 : ∀ a j, ¬ (zFkr a j ∨ a = 457 ∨ (a = 445 ∧ j = 25)) → ¬ (a = 456 ∨ a = 457 ∨ a = 461) → ¬ zFfr2 a j → ¬ (450 ≤ a ∧ a ≤ 454) → ¬ (a = 445 ∧ 8 ≤ j ∧ j ≤ 11) → h59 a j = h a j := fun a j nm n0 n1 n2 n3 => (f59 a j nm).trans (fr55 a j n0 n1 n2 n3)
    have g59 : ∀ a j, ¬ (zFkr a j ∨ a = 457 ∨ (a = 445 ∧ j = 25)) → h59 a j = h55 a j := fun a j n => f59 a j n
    have hKn : zKn p c h59 := by
      refine ⟨⟨?_, ?_, ?_⟩, fun r hr q hq e he => ?_, fun t ht => ?_, ⟨?_, ?_, ?_, ?_, ?_⟩, fun e he => ?_, fun e he => ?_, x59⟩
      · rw [g59 _ _ (by unfold zFkr; omega), f55 _ _ (by omega), f51 _ _ (by unfold zFfr2; omega)]; exact h9
      · rw [g59 _ _ (by unfold zFkr; omega), f55 _ _ (by omega), f51 _ _ (by unfold zFfr2; omega)]; exact h10
      · rw [g59 _ _ (by unfold zFkr; omega), f55 _ _ (by omega), f51 _ _ (by unfold zFfr2; omega)]; exact h11
      · rw [g59 _ _ (by unfold zFkr; omega), f55 _ _ (by omega)]; exact hE51 r hr q hq e he
      · rw [g59 _ _ (by unfold zFkr; omega), f55 _ _ (by omega), r51 t ht, zmrk_rk hs1 hz ht]
      · rw [g59 _ _ (by unfold zFkr; omega), f55 _ _ (by omega)]; exact a51
      · rw [g59 _ _ (by unfold zFkr; omega), f55 _ _ (by omega)]; exact b51
      · rw [g59 _ _ (by unfold zFkr; omega), f55 _ _ (by omega)]; exact d51
      · rw [g59 _ _ (by unfold zFkr; omega), f55 _ _ (by omega)]; exact e51
      · rw [g59 _ _ (by unfold zFkr; omega), f55 _ _ (by omega)]; exact c51
      · rw [g59 _ _ (by unfold zFkr; omega)]; exact (hW55 e he).1
      · rw [w59 e he]; unfold zform; rw [if_neg (by decide)]
    have h859 : h59 445 8 = 1 := by rw [g59 _ _ (by unfold zFkr; omega), f55 _ _ (by omega), f51 _ _ (by unfold zFfr2; omega)]; exact h8
    refine r_v dX10_knows_62 rfl meX10_knows ?_
    exact ⟨⟨hs1, zMr_fr hR (fun j _ => fr59 _ _ (by unfold zFkr; omega) (by omega) (by unfold zFfr2; omega) (by omega) (by omega)), ⟨zMb_fr hH.1 (fun a j ha => fr59 _ _ (by unfold zFkr; omega) (by omega) (by unfold zFfr2; omega) (by omega) (by omega)), hH.2⟩, zMt_fr hT (fun a j ha => fr59 _ _ (by unfold zFkr; omega) (by omega) (by unfold zFfr2; omega) (by omega) (by omega)), Or.inr ⟨h859, hKn⟩, Or.inr ⟨k59, o59⟩⟩, fun a j ha => fr59 _ _ (by unfold zFkr; omega) (by omega) (by unfold zFfr2; omega) (by omega) (by omega), hKn⟩
  · skip
    refine r_v dX10_knows_7 rfl meX10_knows ?_
    exact ⟨H, zFV_r, by unfold zMk at hK; rcases hK with q | q <;> first | exact q.2 | omega⟩
set_option maxRecDepth 100000 in
set_option maxHeartbeats 4000000 in
theorem t_X10_has {h : zH} {p : Int} {c : Nat → Nat → Int} {hs : List (Int × (Nat → Nat → Int))} {tx : Nat → Int} {L : Nat} (H : zVd p c hs tx L h) : CI yX10_has mX10_has [vR 445] h (fun r h' => zVd p c hs tx L h' ∧ zFV h h' ∧ (r = 0 ∨ r = 1) ∧ (r = 0 ↔ zsd c = 0) ∧ (r = 1 → zKn p c h')) := by
  refine inV [some (vR 445), none] mvX10_has rfl (Nat.le_of_ble_eq_true rfl) rfl ?_
  obtain ⟨hs1, hR, hH, hT, hK, hO⟩ := id H
  have hp := hs1.p
  have hp0 : h 446 0 = p := hR.1
  have hpp : 0 < p := by omega
  refine w_aload0 dX10_has_0 ?_
  apply v_i0 (M := mX10_has) dX10_has_1 lk_RX10_271 mvX10_isMatrix (by decide) meX10_has is_445 (Nat.le_of_ble_eq_true rfl)
  · exact t_X10_isMatrix hs1 hR
  intro x1 h1 hP1
  obtain ⟨eh1, hP1⟩ := hP1
  replace eh1 := eh1.symm
  subst eh1
  refine w_istore1 dX10_has_4 rfl (by decide) (w_iload1 dX10_has_5 ?_)
  refine wp_if_eq 13 dX10_has_6 rfl ⟨by omega, by omega⟩ (fun c6 => ?_) (fun c6 => ?_)
  · skip
    refine w_iload1 dX10_has_13 ?_
    refine r_z dX10_has_14 rfl meX10_has (by first | exact Or.inl rfl | exact Or.inr rfl | omega) ?_
    first
    | (have c9 : zsd c = 0 := by omega
       exact ⟨H, zFV_r, by omega, by omega, fun q => by omega⟩)
    | exact ⟨V10, X10, by omega, by omega, fun _ => K10⟩
  · skip
    refine w_aload0 dX10_has_9 ?_
    apply v_v0 (M := mX10_has) dX10_has_10 lk_RX10_274 mvX10_knows (by decide) meX10_has is_445 (Nat.le_of_ble_eq_true rfl)
    · exact t_X10_knows H (by omega)
    intro h10 hP10
    obtain ⟨V10, X10, K10⟩ := hP10
    refine w_iload1 dX10_has_13 ?_
    refine r_z dX10_has_14 rfl meX10_has (by first | exact Or.inl rfl | exact Or.inr rfl | omega) ?_
    first
    | (have c9 : zsd c = 0 := by omega
       exact ⟨H, zFV_r, by omega, by omega, fun q => by omega⟩)
    | exact ⟨V10, X10, by omega, by omega, fun _ => K10⟩
