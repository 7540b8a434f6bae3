
theorem z_isSt {s : Nat} (h : s < 8) : zPo (98 + 5 * s) := by
  have q : ∀ s, s < 8 → 98 + 5 * s ∈ zPoL := by decide
  exact q s h
theorem z_st2 {s : Nat} : 98 + 5 * s ≠ 2 := by omega
/-- polynomials b copied into a -/
def zcp (h : zH) (a b : Nat) : zH := fun q j => if q = a ∧ j = 0 then h b 0 else if (a + 2 ≤ q ∧ q < a + 2 + 3) ∧ j < 27 then h (b + (q - a)) j else h q j
theorem zcp_o {h : zH} {a b q j : Nat} (e : q < a ∨ a + 5 ≤ q) : zcp h a b q j = h q j := by
  unfold zcp
  rw [if_neg (by omega), if_neg (by omega)]
theorem zcp_pol {p : Int} {c : Nat → Nat → Int} {h : zH} {a b : Nat} (H : zPol p c b h) : zPol p c a (zcp h a b) := by
  refine ⟨?_, fun k hk j hj => ?_⟩
  · unfold zcp
    rw [if_pos ⟨rfl, rfl⟩]
    exact H.1
  · unfold zcp
    rw [if_neg (by omega), if_pos (by omega), show b + (a + 2 + k - a) = b + 2 + k by omega]
    exact H.2 k hk j hj
/-- the remembered states, the latest first -/
def zHi (hs : List (Int × (Nat → Nat → Int))) (h : zH) : Prop := ∃ nx : Nat, h 96 1 = (nx : Int) ∧ nx < 8 ∧ h 96 0 = (hs.length : Int) ∧ hs.length ≤ 8 ∧ ∀ (i : Nat) (q : Int × (Nat → Nat → Int)), hs[i]? = some q → zPol q.1 q.2 (98 + 5 * ((nx + 7 - i) % 8)) h
def zFHi (a j : Nat) : Prop := (a = 96 ∧ (j = 0 ∨ j = 1)) ∨ (98 ≤ a ∧ a < 138)
theorem zPol_eq {p : Int} {c : Nat → Nat → Int} {a : Nat} {h h' : zH} (H : zPol p c a h) (e : ∀ b j, a ≤ b → b < a + 5 → h' b j = h b j) : zPol p c a h' := by
  refine ⟨(e a 0 (by omega) (by omega)).trans H.1, fun k hk j hj => ?_⟩
  rw [e _ _ (by omega) (by omega)]
  exact H.2 k hk j hj

set_option maxRecDepth 100000 in
set_option maxHeartbeats 4000000 in
theorem t_X2_stateIn {h : zH} {s : Nat} (hs : s < 8) : CR yX2_stateIn mX2_stateIn [vR 96, vI (s : Int)] h (fun x h' => h' = h ∧ x = 98 + 5 * s) := by
  refine inV [some (vR 96), some (vI (s : Int))] mvX2_stateIn rfl (Nat.le_of_ble_eq_true rfl) rfl ?_
  have hpo := z_isSt hs
  refine w_iload1 dX2_stateIn_0 ?_
  refine wp_if_lt 19 dX2_stateIn_1 rfl ⟨by omega, by omega⟩ (fun c1 => absurd c1 (by omega)) (fun c1 => ?_)
  refine w_iload1 dX2_stateIn_4 (wp_bipush dX2_stateIn_5 (by decide) ?_)
  refine wp_icmp_ge 19 dX2_stateIn_7 rfl ⟨by omega, by omega⟩ ⟨by omega, by omega⟩ (fun c7 => absurd c7 (by omega)) (fun c7 => ?_)
  refine w_aload0 dX2_stateIn_10 (wp_getr 97 dX2_stateIn_11 fl_RX2_11 is_96 rfl (w_iload1 dX2_stateIn_14 (x_aald s (98 + 5 * s) dX2_stateIn_15 is_97 (Or.inr rfl) rfl (by omega) rfl (wp_goto 20 dX2_stateIn_16 rfl ?_))))
  refine r_ao dX2_stateIn_20 rfl meX2_stateIn ?_
  exact ⟨rfl, rfl⟩
set_option maxRecDepth 100000 in
set_option maxHeartbeats 4000000 in
theorem t_X2_remember {h : zH} {hs : List (Int × (Nat → Nat → Int))} (H : zHi hs h) {p : Int} {c : Nat → Nat → Int} (hP : zPol p c 2 h) : CV yX2_remember mX2_remember [vR 96, vR 2] h (fun h' => zFr zFHi h h' ∧ zHi (((p, c) :: hs).take 8) h') := by
  refine inV [some (vR 96), some (vR 2), none] mvX2_remember rfl (Nat.le_of_ble_eq_true rfl) rfl ?_
  obtain ⟨nx, h1, h2, h3, h4, h5⟩ := H
  have hpo := z_isSt h2
  have L40 : ∀ (h15 : zH) (v : Int), (h15 = zcp h (98 + 5 * nx) 2) → (v = (((nx + 1) % 8 : Nat) : Int)) → WP mX2_remember (zMQ mX2_remember (zKV (fun h' => zFr zFHi h h' ∧ zHi (((p, c) :: hs).take 8) h'))) 40 [some (vR 96), some (vR 2), some (vR (98 + 5 * nx))] [vI v, vR 96] zN zGR h15 := by
    intro h15 v hP15 hv
    have k0 : zup h15 96 1 v 96 0 = (hs.length : Int) := by rw [zup_o (by omega), hP15, zcp_o (by omega)]; exact h3
    refine wp_puti dX2_remember_40 fl_RX2_18 is_96 rfl (w_aload0 dX2_remember_43 (w_aload0 dX2_remember_44 (wp_geti dX2_remember_45 fl_RX2_30 is_96 (wp_iconst dX2_remember_48 (wp_iadd dX2_remember_49 (wp_bipush dX2_remember_50 (by decide) ?_))))))
    rw [k0]
    refine x_mmin dX2_remember_52 lk_RX2_33 ⟨by omega, by omega⟩ ⟨by omega, by omega⟩ (by decide) (Nat.le_of_ble_eq_true rfl) meX2_remember (wp_puti dX2_remember_55 fl_RX2_30 is_96 rfl ?_)
    refine r_v dX2_remember_58 rfl meX2_remember ?_
    have hlen : (((p, c) :: hs).take 8).length = min (hs.length + 1) 8 := by rw [List.length_take, List.length_cons]; omega
    refine ⟨fun a j n => ?_, (nx + 1) % 8, ?_, by omega, ?_, by rw [hlen]; omega, fun i q hq => ?_⟩
    · unfold zFHi at n
      rw [zup_o (by omega), zup_o (by omega), hP15, zcp_o (by omega)]
    · rw [zup_o (by omega), zup_s]
      exact hv
    · rw [zup_s, hlen]
      omega
    · rw [List.getElem?_take] at hq
      split at hq
      · next hi8 =>
        have hbase : zPol q.1 q.2 (98 + 5 * (((nx + 1) % 8 + 7 - i) % 8)) h15 := by
          rw [hP15]
          cases i with
          | zero =>
            simp only [List.getElem?_cons_zero, Option.some.injEq] at hq
            rw [← hq, show ((nx + 1) % 8 + 7 - 0) % 8 = nx by omega]
            exact zcp_pol hP
          | succ i =>
            rw [List.getElem?_cons_succ] at hq
            have h9 := h5 i q hq
            rw [show ((nx + 1) % 8 + 7 - (i + 1)) % 8 = (nx + 7 - i) % 8 by omega]
            refine zPol_eq h9 (fun b j hb1 hb2 => zcp_o ?_)
            have : (nx + 7 - i) % 8 ≠ nx := by omega
            omega
        refine zPol_eq hbase (fun b j hb1 hb2 => ?_)
        rw [zup_o (by omega), zup_o (by omega)]
      · cases hq
  refine w_aload0 dX2_remember_0 (w_aload0 dX2_remember_1 (wp_geti dX2_remember_2 fl_RX2_18 is_96 ?_))
  rw [h1]
  apply v_r1 (M := mX2_remember) dX2_remember_5 lk_RX2_22 mvX2_stateIn (by decide) meX2_remember is_96 (Nat.le_of_ble_eq_true rfl)
  · exact t_X2_stateIn h2
  intro x5 h5 hP5
  obtain ⟨eh5, ex5⟩ := hP5
  replace eh5 := eh5.symm
  subst eh5
  replace ex5 := ex5.symm
  subst ex5
  refine w_astore2 dX2_remember_8 rfl (by decide) (w_aload2 dX2_remember_9 (wp_ifnull dX2_remember_10 (by have := ((zPo_is hpo)).2.1; omega) (w_aload2 dX2_remember_13 (w_aload1 dX2_remember_14 ?_))))
  apply v_v1 (M := mX2_remember) dX2_remember_15 lk_RX2_26 mvX4_copyFrom (by decide) meX2_remember (zPo_is hpo) (Nat.le_of_ble_eq_true rfl)
  · exact t_X4_copyFrom hpo zPo_2 (by omega)
  intro h15 hP15
  replace hP15 : h15 = zcp h (98 + 5 * nx) 2 := hP15
  have k1 : h15 96 1 = (nx : Int) := by rw [hP15, zcp_o (by omega)]; exact h1
  have k0 : ∀ v, zup h15 96 1 v 96 0 = (hs.length : Int) := fun v => by rw [zup_o (by omega), hP15, zcp_o (by omega)]; exact h3
  refine w_aload0 dX2_remember_18 (w_aload0 dX2_remember_19 (wp_geti dX2_remember_20 fl_RX2_18 is_96 (wp_iconst dX2_remember_23 (wp_iadd dX2_remember_24 (wp_bipush dX2_remember_25 (by decide) ?_)))))
  rw [k1]
  refine wp_icmp_ge 39 dX2_remember_27 rfl ⟨by omega, by omega⟩ ⟨by omega, by omega⟩ (fun c27 => ?_) (fun c27 => ?_)
  · skip
    refine wp_iconst dX2_remember_39 ?_
    exact L40 h15 _ hP15 (by omega)
  · skip
    refine w_aload0 dX2_remember_30 (wp_geti dX2_remember_31 fl_RX2_18 is_96 (wp_iconst dX2_remember_34 (wp_iadd dX2_remember_35 ?_)))
    rw [k1]
    refine wp_goto 40 dX2_remember_36 rfl ?_
    exact L40 h15 _ hP15 (by omega)
set_option maxRecDepth 100000 in
set_option maxHeartbeats 4000000 in
theorem t_X2_restore {h : zH} {q : Int × (Nat → Nat → Int)} {hs : List (Int × (Nat → Nat → Int))} (H : zHi (q :: hs) h) : CV yX2_restore mX2_restore [vR 96, vR 2] h (fun h' => zFr (fun a j => (a = 96 ∧ (j = 0 ∨ j = 1)) ∨ (a = 2 ∧ j = 0) ∨ (4 ≤ a ∧ a ≤ 6)) h h' ∧ zHi hs h' ∧ zPol q.1 q.2 2 h') := by
  refine inV [some (vR 96), some (vR 2), none] mvX2_restore rfl (Nat.le_of_ble_eq_true rfl) rfl ?_
  obtain ⟨nx, h1, h2, h3, h4, h5⟩ := H
  rw [List.length_cons] at h3 h4
  have hpo := z_isSt (s := (nx + 7) % 8) (by omega)
  have L27 : ∀ (v : Int), (v = (((nx + 7) % 8 : Nat) : Int)) → WP mX2_restore (zMQ mX2_restore (zKV (fun h' => zFr (fun a j => (a = 96 ∧ (j = 0 ∨ j = 1)) ∨ (a = 2 ∧ j = 0) ∨ (4 ≤ a ∧ a ≤ 6)) h h' ∧ zHi hs h' ∧ zPol q.1 q.2 2 h'))) 27 [some (vR 96), some (vR 2), none] [vI v, vR 96] zN zGR h := by
    intro v hv
    have k0 : zup h 96 1 v 96 0 = ((hs.length + 1 : Nat) : Int) := by rw [zup_o (by omega)]; exact h3
    have k1 : ∀ w, zup (zup h 96 1 v) 96 0 w 96 1 = (((nx + 7) % 8 : Nat) : Int) := fun w => by rw [zup_o (by omega), zup_s]; exact hv
    refine wp_puti dX2_restore_27 fl_RX2_18 is_96 rfl (w_aload0 dX2_restore_30 (wp_dup dX2_restore_31 rfl (wp_geti dX2_restore_32 fl_RX2_30 is_96 (wp_iconst dX2_restore_35 ?_))))
    rw [k0]
    refine wp_isub dX2_restore_36 (wp_puti dX2_restore_37 fl_RX2_30 is_96 rfl (w_aload0 dX2_restore_40 (w_aload0 dX2_restore_41 (wp_geti dX2_restore_42 fl_RX2_18 is_96 ?_))))
    rw [k1]
    apply v_r1 (M := mX2_restore) dX2_restore_45 lk_RX2_22 mvX2_stateIn (by decide) meX2_restore is_96 (Nat.le_of_ble_eq_true rfl)
    · exact t_X2_stateIn (s := (nx + 7) % 8) (by omega)
    intro x45 h45 hP45
    obtain ⟨eh45, ex45⟩ := hP45
    replace eh45 := eh45.symm
    subst eh45
    replace ex45 := ex45.symm
    subst ex45
    refine w_astore2 dX2_restore_48 rfl (by decide) (w_aload2 dX2_restore_49 (wp_ifnull dX2_restore_50 (by have := ((zPo_is hpo)).2.1; omega) (w_aload1 dX2_restore_53 (w_aload2 dX2_restore_54 ?_))))
    apply v_v1 (M := mX2_restore) dX2_restore_55 lk_RX2_26 mvX4_copyFrom (by decide) meX2_restore is_2 (Nat.le_of_ble_eq_true rfl)
    · exact t_X4_copyFrom zPo_2 hpo (by omega)
    intro h55 hP55
    skip
    refine r_v dX2_restore_58 rfl meX2_restore ?_
    replace hP55 : h55 = zcp _ 2 (98 + 5 * ((nx + 7) % 8)) := hP55
    refine ⟨fun a j n => ?_, ⟨(nx + 7) % 8, ?_, by omega, ?_, by omega, fun i r hr => ?_⟩, ?_⟩
    · rw [hP55]
      unfold zcp
      rw [if_neg (by omega), if_neg (by omega), zup_o (by omega), zup_o (by omega)]
    · rw [hP55, zcp_o (by omega), zup_o (by omega), zup_s]
      exact hv
    · rw [hP55, zcp_o (by omega), zup_s]
      omega
    · have h9 := h5 (i + 1) r (by rw [List.getElem?_cons_succ]; exact hr)
      have hi : i < hs.length := (List.getElem?_eq_some_iff.mp hr).1
      rw [show ((nx + 7) % 8 + 7 - i) % 8 = (nx + 7 - (i + 1)) % 8 by omega]
      refine zPol_eq h9 (fun b j hb1 hb2 => ?_)
      rw [hP55, zcp_o (by omega), zup_o (by omega), zup_o (by omega)]
    · have h9 := h5 0 q rfl
      rw [hP55]
      refine zcp_pol ?_
      rw [show (nx + 7 - 0) % 8 = (nx + 7) % 8 by omega] at h9
      refine zPol_eq h9 (fun b j hb1 hb2 => ?_)
      rw [zup_o (by omega), zup_o (by omega)]
  refine w_aload0 dX2_restore_0 (wp_geti dX2_restore_1 fl_RX2_30 is_96 ?_)
  rw [h3]
  refine wp_if_ne 8 dX2_restore_4 rfl ⟨by omega, by omega⟩ (fun c4 => ?_) (fun c4 => absurd c4 (by omega))
  refine w_aload0 dX2_restore_8 (w_aload0 dX2_restore_9 (wp_geti dX2_restore_10 fl_RX2_18 is_96 ?_))
  rw [h1]
  refine wp_if_le 25 dX2_restore_13 rfl ⟨by omega, by omega⟩ (fun c13 => ?_) (fun c13 => ?_)
  · skip
    refine wp_bipush dX2_restore_25 (by decide) ?_
    exact L27 _ (by omega)
  · skip
    refine w_aload0 dX2_restore_16 (wp_geti dX2_restore_17 fl_RX2_18 is_96 (wp_iconst dX2_restore_20 ?_))
    rw [h1]
    refine wp_isub dX2_restore_21 (wp_goto 27 dX2_restore_22 rfl ?_)
    exact L27 _ (by omega)
