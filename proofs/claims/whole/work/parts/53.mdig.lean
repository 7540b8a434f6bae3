
theorem zmix_d {h : zH} {x v : Int} (e : h 445 40 = x) : zmix (h 445 40) v = zmix x v := by rw [e]

set_option maxRecDepth 100000 in
set_option maxHeartbeats 4000000 in
theorem t_X10_mixes {h : zH} {v : Int} (zv1 : zin v) : CV yX10_mixes mX10_mixes [vR 445, vI v] h (fun h' => h' = zup h 445 40 (zmix (h 445 40) v)) := by
  refine inV [some (vR 445), some (vI v)] mvX10_mixes rfl (Nat.le_of_ble_eq_true rfl) rfl ?_
  have v1 := zv1.1
  have v2 := zv1.2
  refine w_aload0 dX10_mixes_0 (wp_ldc2 dX10_mixes_1 kc_RX10_306 (w_aload0 dX10_mixes_4 (wp_getl dX10_mixes_5 fl_RX10_308 is_445 (wp_lmul dX10_mixes_8 (w_iload1 dX10_mixes_9 (wp_i2l dX10_mixes_10 ⟨by omega, by omega⟩ (wp_ladd dX10_mixes_11 (wp_putl dX10_mixes_12 fl_RX10_308 is_445 rfl ?_))))))))
  refine r_v dX10_mixes_15 rfl meX10_mixes ?_
  rfl
set_option maxRecDepth 100000 in
set_option maxHeartbeats 4000000 in
theorem t_X10_mixesPoly {h : zH} {b p x : Int} {f : Nat → Int} (hb : b = 0 ∨ b = 1) (hp : p ≤ 31) (hx : h 445 40 = x) (hfb : ∀ e, e < 49 → 0 ≤ f e ∧ f e < p) (hf0 : b = 0 → ∀ e, e < 49 → h 456 e = f e) (hf1 : b ≠ 0 → ∀ e, e < 49 → h 457 e = f e) : CV yX10_mixesPoly mX10_mixesPoly [vR 445, vI b] h (fun h' => zFr (fun a j => a = 445 ∧ j = 40) h h' ∧ h' 445 40 = zmixN f 49 (zmix x (ztop f 49 : Int))) := by
  refine inV [some (vR 445), some (vI b), none] mvX10_mixesPoly rfl (Nat.le_of_ble_eq_true rfl) rfl ?_
  have L24 : ∀ (zm24 : Nat) (i : Nat) (h' : zH), 49 - i = zm24 → (i ≤ 49) → (zFr (fun a j => a = 445 ∧ j = 40) h h') → (h' 445 40 = zmixN f i (zmix x (ztop f 49 : Int))) → WP mX10_mixesPoly (zMQ mX10_mixesPoly (zKV (fun h' => zFr (fun a j => a = 445 ∧ j = 40) h h' ∧ h' 445 40 = zmixN f 49 (zmix x (ztop f 49 : Int))))) 24 [some (vR 445), some (vI b), some (vI (i : Int))] [] zN zGR h' := by
    intro zm24
    induction zm24 using Nat.strongRecOn with | _ zm24 ih24 => ?_
    intro i h' hzm24 hi hF hm
    subst hzm24
    have hg0 : b = 0 → i < 49 → h' 456 i = f i := fun w w2 => by rw [hF _ _ (by omega)]; exact hf0 w i w2
    have hg1 : b ≠ 0 → i < 49 → h' 457 i = f i := fun w w2 => by rw [hF _ _ (by omega)]; exact hf1 w i w2
    refine w_iload2 dX10_mixesPoly_24 (wp_bipush dX10_mixesPoly_25 (by decide) ?_)
    refine wp_icmp_ge 59 dX10_mixesPoly_27 rfl ⟨by omega, by omega⟩ ⟨by omega, by omega⟩ (fun c27 => ?_) (fun c27 => ?_)
    · skip
      refine r_v dX10_mixesPoly_59 rfl meX10_mixesPoly ?_
      exact ⟨hF, by rw [hm, show i = 49 by omega]⟩
    · skip
      refine w_aload0 dX10_mixesPoly_30 (w_iload1 dX10_mixesPoly_31 ?_)
      refine wp_if_eq 44 dX10_mixesPoly_32 rfl ⟨by omega, by omega⟩ (fun c32 => ?_) (fun c32 => ?_)
      · skip
        refine w_aload0 dX10_mixesPoly_44 (wp_getr 456 dX10_mixesPoly_45 fl_RX10_40 is_445 rfl (w_iload2 dX10_mixesPoly_48 (x_iald i dX10_mixesPoly_49 is_456 rfl (by omega) ?_)))
        try (rw [hg0 (by omega) (by omega)])
        have hgb := hfb i (by omega)
        apply v_v1 (M := mX10_mixesPoly) dX10_mixesPoly_50 lk_RX10_312 mvX10_mixes (by decide) meX10_mixesPoly is_445 (Nat.le_of_ble_eq_true rfl)
        · exact t_X10_mixes ⟨by omega, by omega⟩
        intro h50 hP50
        subst hP50
        refine w_iinc2 dX10_mixesPoly_53 rfl (by decide) (wp_goto 24 dX10_mixesPoly_56 rfl ?_)
        refine ih24 _ (by omega) (i + 1) _ rfl (by omega) (hF.up ⟨rfl, rfl⟩) ?_
        rw [zup_s, hm]
        rfl
      · skip
        refine w_aload0 dX10_mixesPoly_35 (wp_getr 457 dX10_mixesPoly_36 fl_RX10_43 is_445 rfl (w_iload2 dX10_mixesPoly_39 (x_iald i dX10_mixesPoly_40 is_457 rfl (by omega) ?_)))
        rw [hg1 (by omega) (by omega)]
        have hgb := hfb i (by omega)
        refine wp_goto 50 dX10_mixesPoly_41 rfl ?_
        try (rw [hg0 (by omega) (by omega)])
        have hgb := hfb i (by omega)
        apply v_v1 (M := mX10_mixesPoly) dX10_mixesPoly_50 lk_RX10_312 mvX10_mixes (by decide) meX10_mixesPoly is_445 (Nat.le_of_ble_eq_true rfl)
        · exact t_X10_mixes ⟨by omega, by omega⟩
        intro h50 hP50
        subst hP50
        refine w_iinc2 dX10_mixesPoly_53 rfl (by decide) (wp_goto 24 dX10_mixesPoly_56 rfl ?_)
        refine ih24 _ (by omega) (i + 1) _ rfl (by omega) (hF.up ⟨rfl, rfl⟩) ?_
        rw [zup_s, hm]
        rfl
  refine w_aload0 dX10_mixesPoly_0 (w_iload1 dX10_mixesPoly_1 ?_)
  refine wp_if_eq 12 dX10_mixesPoly_2 rfl ⟨by omega, by omega⟩ (fun c2 => ?_) (fun c2 => ?_)
  · skip
    refine w_aload0 dX10_mixesPoly_12 (wp_getr 456 dX10_mixesPoly_13 fl_RX10_40 is_445 rfl ?_)
    apply s_i1 (M := mX10_mixesPoly) dX10_mixesPoly_16 lk_RX10_252 mvX10_degreeIn (by decide) meX10_mixesPoly (Nat.le_of_ble_eq_true rfl)
    · exact t_X10_degreeIn (by first | exact is_457 | exact is_456) (fun e he => by have := hfb e he; first | (rw [hf0 (by omega) e he]; exact ⟨by omega, by omega⟩) | (rw [hf1 (by omega) e he]; exact ⟨by omega, by omega⟩))
    intro x16 h16 hP16
    obtain ⟨eh16, ex16⟩ := hP16
    replace eh16 := eh16.symm
    subst eh16
    replace ex16 := ex16.symm
    subst ex16
    apply v_v1 (M := mX10_mixesPoly) dX10_mixesPoly_19 lk_RX10_312 mvX10_mixes (by decide) meX10_mixesPoly is_445 (Nat.le_of_ble_eq_true rfl)
    · exact t_X10_mixes (by have := ztop_lt (f := h 456) 49 (by decide); have := ztop_lt (f := h 457) 49 (by decide); exact ⟨by omega, by omega⟩)
    intro h19 hP19
    subst hP19
    refine wp_iconst dX10_mixesPoly_22 (w_istore2 dX10_mixesPoly_23 rfl (by decide) ?_)
    first
    | exact L24 _ 0 _ rfl (Nat.zero_le _) (fun a j n => zup_o n) (by rw [zup_s, hx, ztop_congr 49 (hf0 (by omega))]; rfl)
    | exact L24 _ 0 _ rfl (Nat.zero_le _) (fun a j n => zup_o n) (by rw [zup_s, hx, ztop_congr 49 (hf1 (by omega))]; rfl)
  · skip
    refine w_aload0 dX10_mixesPoly_5 (wp_getr 457 dX10_mixesPoly_6 fl_RX10_43 is_445 rfl (wp_goto 16 dX10_mixesPoly_9 rfl ?_))
    apply s_i1 (M := mX10_mixesPoly) dX10_mixesPoly_16 lk_RX10_252 mvX10_degreeIn (by decide) meX10_mixesPoly (Nat.le_of_ble_eq_true rfl)
    · exact t_X10_degreeIn (by first | exact is_457 | exact is_456) (fun e he => by have := hfb e he; first | (rw [hf0 (by omega) e he]; exact ⟨by omega, by omega⟩) | (rw [hf1 (by omega) e he]; exact ⟨by omega, by omega⟩))
    intro x16 h16 hP16
    obtain ⟨eh16, ex16⟩ := hP16
    replace eh16 := eh16.symm
    subst eh16
    replace ex16 := ex16.symm
    subst ex16
    apply v_v1 (M := mX10_mixesPoly) dX10_mixesPoly_19 lk_RX10_312 mvX10_mixes (by decide) meX10_mixesPoly is_445 (Nat.le_of_ble_eq_true rfl)
    · exact t_X10_mixes (by have := ztop_lt (f := h 456) 49 (by decide); have := ztop_lt (f := h 457) 49 (by decide); exact ⟨by omega, by omega⟩)
    intro h19 hP19
    subst hP19
    refine wp_iconst dX10_mixesPoly_22 (w_istore2 dX10_mixesPoly_23 rfl (by decide) ?_)
    first
    | exact L24 _ 0 _ rfl (Nat.zero_le _) (fun a j n => zup_o n) (by rw [zup_s, hx, ztop_congr 49 (hf0 (by omega))]; rfl)
    | exact L24 _ 0 _ rfl (Nat.zero_le _) (fun a j n => zup_o n) (by rw [zup_s, hx, ztop_congr 49 (hf1 (by omega))]; rfl)
