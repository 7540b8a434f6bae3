
def zsumN (f : Nat → Nat) : Nat → Nat
  | 0 => 0
  | n + 1 => zsumN f n + f n
theorem zsumN_congr {f g : Nat → Nat} : ∀ n, (∀ i, i < n → f i = g i) → zsumN f n = zsumN g n := by
  intro n
  induction n with
  | zero => intro _; rfl
  | succ n ih =>
    intro h
    show zsumN f n + f n = zsumN g n + g n
    rw [ih (fun i hi => h i (by omega)), h n (by omega)]
theorem zsumN_out {f : Nat → Nat} {n : Nat} : ∀ m, n ≤ m → (∀ i, n ≤ i → i < m → f i = 0) → zsumN f m = zsumN f n := by
  intro m
  induction m with
  | zero => intro h _; rw [show n = 0 by omega]
  | succ m ih =>
    intro h hP
    by_cases e : n = m + 1
    · rw [e]
    · show zsumN f m + f m = _
      rw [hP m (by omega) (by omega), ih (by omega) (fun i h1 h2 => hP i h1 (by omega)), Nat.add_zero]
theorem zsumN_le {f : Nat → Nat} {M : Nat} : ∀ n, (∀ i, i < n → f i ≤ M) → zsumN f n ≤ n * M := by
  intro n
  induction n with
  | zero => intro _; exact Nat.zero_le _
  | succ n ih =>
    intro h
    show zsumN f n + f n ≤ _
    have h1 := ih (fun i hi => h i (by omega))
    have h2 := h n (by omega)
    rw [Nat.succ_mul]
    omega
theorem zsumN_mono {f : Nat → Nat} {n : Nat} : ∀ m, n ≤ m → zsumN f n ≤ zsumN f m := by
  intro m
  induction m with
  | zero => intro h; rw [show n = 0 by omega]; exact Nat.le_refl _
  | succ m ih =>
    intro h
    by_cases e : n = m + 1
    · rw [e]; exact Nat.le_refl _
    · show _ ≤ zsumN f m + f m
      have := ih (by omega)
      omega
noncomputable def zcx (p : Int) (c : Nat → Nat → Int) (t : Int) (x : Nat) : Nat := zct (zRt p c t (x : Int)) p.toNat
noncomputable def zcn (p : Int) (c : Nat → Nat → Int) (t : Int) : Nat := zsumN (zcx p c t) p.toNat
/-- the common root with an index -/
def zRtI (p : Int) (c : Nat → Nat → Int) (t : Int) (idx : Nat) (r : Int) : Prop := (∃ x y : Nat, (x : Int) < p ∧ (y : Int) < p ∧ zRt p c t (x : Int) y ∧ zsumN (zcx p c t) x + zct (zRt p c t (x : Int)) y = idx ∧ r = 100 * (x : Int) + (y : Int)) ∨ (zcn p c t ≤ idx ∧ r = -9)
theorem zcx_le {p : Int} (hp : p ≤ 31) {c : Nat → Nat → Int} {t : Int} (x : Nat) : zcx p c t x ≤ 31 := by
  unfold zcx
  have := zct_le (P := zRt p c t (x : Int)) p.toNat
  omega
noncomputable def zrw (p : Int) (c : Nat → Nat → Int) (t : Int) (x : Nat) : Nat := if (x : Int) < p then zmk (zRt p c t (x : Int)) p.toNat else 0
theorem zrw_lt {p : Int} (hp : p ≤ 31) {c : Nat → Nat → Int} {t : Int} {x : Nat} : zrw p c t x < 2147483648 := by
  unfold zrw
  split
  · exact Nat.lt_of_lt_of_le (zmk_lt _) (z_pow31 (by omega))
  · decide
theorem zrw_pc {p : Int} (hp : p ≤ 31) {c : Nat → Nat → Int} {t : Int} {x : Nat} : zpc (zrw p c t x) = if (x : Int) < p then zcx p c t x else 0 := by
  unfold zrw
  split
  · exact zpc_mk (by omega)
  · exact zpc_0
theorem zRoT_rw {p : Int} {c : Nat → Nat → Int} {t : Nat} {h : zH} (H : zRoT p c t h) {x : Nat} (hx : x < 31) : h (143 + t) x = (zrw p c t x : Int) := by
  rw [H x hx]
  unfold zrw
  split <;> rfl
theorem zcn_31 {p : Int} (hp : 0 ≤ p ∧ p ≤ 31) {c : Nat → Nat → Int} {t : Int} : zsumN (fun x => zpc (zrw p c t x)) 31 = zcn p c t := by
  rw [zsumN_out (n := p.toNat) 31 (by omega) (fun i h1 _ => by rw [zrw_pc hp.2, if_neg (by omega)])]
  exact zsumN_congr _ (fun i hi => by rw [zrw_pc hp.2, if_pos (by omega)])
theorem zct_mono {P : Nat → Prop} {n : Nat} : ∀ m, n ≤ m → zct P n ≤ zct P m := by
  intro m
  induction m with
  | zero => intro h; rw [show n = 0 by omega]; exact Nat.le_refl _
  | succ m ih =>
    intro h
    by_cases e : n = m + 1
    · rw [e]; exact Nat.le_refl _
    · have := ih (by omega)
      by_cases q : P m
      · rw [zct_y q]; omega
      · rw [zct_n q]; omega

set_option maxRecDepth 100000 in
set_option maxHeartbeats 4000000 in
theorem t_X6_countAt {h : zH} {tt : Int} {t : Nat} (ht : tt = t) {p : Int} {c : Nat → Nat → Int} (hp : 5 ≤ p ∧ p ≤ 31) (ht31 : t < 31) (hT : zRoT p c t h) : CI yX6_countAt mX6_countAt [vR 141, vI tt] h (fun r h' => h' = h ∧ r = (zcn p c t : Int)) := by
  refine inV [some (vR 141), some (vI tt), none, none, none] mvX6_countAt rfl (Nat.le_of_ble_eq_true rfl) rfl ?_
  have L24 : ∀ (zm24 : Nat) (i : Nat) (s vi : Int), 31 - i = zm24 → (i ≤ 31) → (vi = (i : Int)) → (s = (zsumN (fun x => zpc (zrw p c t x)) i : Int)) → WP mX6_countAt (zMQ mX6_countAt (zKI (fun r h' => h' = h ∧ r = (zcn p c t : Int)))) 24 [some (vR 141), some (vI tt), some (vI s), some (vR (143 + t)), some (vI vi)] [] zN zGR h := by
    intro zm24
    induction zm24 using Nat.strongRecOn with | _ zm24 ih24 => ?_
    intro i s vi hzm24 hi hvi hs
    subst hzm24
    refine w_iload4 dX6_countAt_24 (w_aload3 dX6_countAt_26 (wp_alen dX6_countAt_27 (z_is143 ht31) (by decide) ?_))
    refine wp_icmp_ge 47 dX6_countAt_28 rfl ⟨by omega, by omega⟩ ⟨by omega, by omega⟩ (fun c28 => ?_) (fun c28 => ?_)
    · skip
      refine w_iload2 dX6_countAt_47 ?_
      refine r_i dX6_countAt_48 rfl meX6_countAt ?_
      refine ⟨rfl, ?_⟩
      rw [hs, show i = 31 by omega, zcn_31 (by omega)]
    · skip
      refine w_iload2 dX6_countAt_31 (w_aload3 dX6_countAt_32 (w_iload4 dX6_countAt_33 (x_iald i dX6_countAt_35 (z_is143 ht31) hvi (by omega) ?_)))
      apply s_i1 (M := mX6_countAt) dX6_countAt_36 lk_RX6_53 mvJ6_bitCount_0f7a4 (by decide) meX6_countAt (Nat.le_of_ble_eq_true rfl)
      · exact t_J6_bitCount_0f7a4 (zRoT_rw hT (by omega)) (zrw_lt hp.2)
      intro x36 h36 hP36
      obtain ⟨eh36, ex36⟩ := hP36
      replace eh36 := eh36.symm
      subst eh36
      replace ex36 := ex36.symm
      subst ex36
      refine wp_iadd dX6_countAt_39 (w_istore2 dX6_countAt_40 rfl (by decide) (w_iinc4 dX6_countAt_41 rfl (by decide) (wp_goto 24 dX6_countAt_44 rfl ?_)))
      refine ih24 _ (by omega) (i + 1) _ _ rfl (by omega) (by omega) ?_
      show _ = ((zsumN (fun x => zpc (zrw p c t x)) i + zpc (zrw p c t i) : Nat) : Int)
      omega
  refine w_iload1 dX6_countAt_0 ?_
  refine wp_if_lt 10 dX6_countAt_1 rfl ⟨by omega, by omega⟩ (fun c1 => absurd c1 (by omega)) (fun c1 => ?_)
  refine w_iload1 dX6_countAt_4 (wp_bipush dX6_countAt_5 (by decide) ?_)
  refine wp_icmp_lt 12 dX6_countAt_7 rfl ⟨by omega, by omega⟩ ⟨by omega, by omega⟩ (fun c7 => ?_) (fun c7 => absurd c7 (by omega))
  refine wp_iconst dX6_countAt_12 (w_istore2 dX6_countAt_13 rfl (by decide) (w_aload0 dX6_countAt_14 (wp_getr 142 dX6_countAt_15 fl_RX6_11 is_141 rfl (w_iload1 dX6_countAt_18 (x_aald t (143 + t) dX6_countAt_19 is_142 (Or.inl rfl) ht ht31 rfl (w_astore3 dX6_countAt_20 rfl (by decide) (wp_iconst dX6_countAt_21 (w_istore4 dX6_countAt_22 rfl (by decide) ?_))))))))
  exact L24 _ 0 0 0 rfl (Nat.zero_le _) rfl rfl
set_option maxRecDepth 100000 in
set_option maxHeartbeats 4000000 in
theorem t_X6_memberOf {h : zH} {ss ii : Int} {m idx : Nat} (hm : ss = m) (hi : ii = idx) (hm31 : m < 2147483648) (hlt : idx < zpc m) : CI yX6_memberOf mX6_memberOf [vI ss, vI ii] h (fun r h' => h' = h ∧ ∃ y : Nat, y < 31 ∧ m / 2 ^ y % 2 = 1 ∧ zct (fun i => m / 2 ^ i % 2 = 1) y = idx ∧ r = (y : Int)) := by
  refine inS [some (vI ss), some (vI ii), none, none] mvX6_memberOf rfl (Nat.le_of_ble_eq_true rfl) rfl ?_
  subst hm
  have hz31 : zpc m ≤ 31 := zct_le 31
  have L4 : ∀ (zm4 : Nat) (y : Nat) (l vy : Int), 31 - y = zm4 → (y ≤ 31) → (vy = (y : Int)) → (l = (idx : Int) - (zct (fun i => m / 2 ^ i % 2 = 1) y : Int)) → (0 ≤ l) → WP mX6_memberOf (zMQ mX6_memberOf (zKI (fun r h' => h' = h ∧ ∃ y : Nat, y < 31 ∧ m / 2 ^ y % 2 = 1 ∧ zct (fun i => m / 2 ^ i % 2 = 1) y = idx ∧ r = (y : Int)))) 4 [some (vI (m : Int)), some (vI ii), some (vI l), some (vI vy)] [] zN zGR h := by
    intro zm4
    induction zm4 using Nat.strongRecOn with | _ zm4 ih4 => ?_
    intro y l vy hzm4 hy hvy hl hl0
    subst hzm4
    subst hvy
    refine w_iload3 dX6_memberOf_4 (wp_bipush dX6_memberOf_5 (by decide) ?_)
    refine wp_icmp_ge 33 dX6_memberOf_7 rfl ⟨by omega, by omega⟩ ⟨by omega, by omega⟩ (fun c7 => ?_) (fun c7 => ?_)
    · skip
      refine wp_iconst dX6_memberOf_33 ?_
      refine r_i dX6_memberOf_34 rfl meX6_memberOf ?_
      exfalso
      have e : y = 31 := by omega
      rw [e] at hl
      have hlt2 : (idx : Int) < (zct (fun i => m / 2 ^ i % 2 = 1) 31 : Int) := by exact_mod_cast hlt
      omega
    · skip
      refine w_iload0 dX6_memberOf_10 (w_iload3 dX6_memberOf_11 (wp_ishr dX6_memberOf_12 ⟨by omega, by omega⟩ (by omega) (wp_iconst dX6_memberOf_13 (wp_iand dX6_memberOf_14 (z_sh y hm31) (by omega) ?_))))
      rw [z_bt]
      refine wp_if_eq 27 dX6_memberOf_15 rfl ⟨by omega, by omega⟩ (fun c15 => ?_) (fun c15 => ?_)
      · skip
        refine w_iinc3 dX6_memberOf_27 rfl (by decide) (wp_goto 4 dX6_memberOf_30 rfl ?_)
        first
        | (refine ih4 _ (by omega) (y + 1) _ _ rfl (by omega) (by omega) ?_ (by omega)
           rw [zct_y (P := fun i => m / 2 ^ i % 2 = 1) (by show m / 2 ^ y % 2 = 1; omega)]
           omega)
        | (refine ih4 _ (by omega) (y + 1) _ _ rfl (by omega) (by omega) ?_ (by omega)
           rw [zct_n (P := fun i => m / 2 ^ i % 2 = 1) (by show ¬ m / 2 ^ y % 2 = 1; omega)]
           omega)
      · skip
        refine w_iload2 dX6_memberOf_18 ?_
        refine wp_if_ne 24 dX6_memberOf_19 rfl ⟨by omega, by omega⟩ (fun c19 => ?_) (fun c19 => ?_)
        · skip
          refine w_iinc2 dX6_memberOf_24 rfl (by decide) (w_iinc3 dX6_memberOf_27 rfl (by decide) (wp_goto 4 dX6_memberOf_30 rfl ?_))
          first
          | (refine ih4 _ (by omega) (y + 1) _ _ rfl (by omega) (by omega) ?_ (by omega)
             rw [zct_y (P := fun i => m / 2 ^ i % 2 = 1) (by show m / 2 ^ y % 2 = 1; omega)]
             omega)
          | (refine ih4 _ (by omega) (y + 1) _ _ rfl (by omega) (by omega) ?_ (by omega)
             rw [zct_n (P := fun i => m / 2 ^ i % 2 = 1) (by show ¬ m / 2 ^ y % 2 = 1; omega)]
             omega)
        · skip
          refine w_iload3 dX6_memberOf_22 ?_
          refine r_i dX6_memberOf_23 rfl meX6_memberOf ?_
          refine ⟨rfl, y, by omega, by omega, by omega, rfl⟩
  refine w_iload1 dX6_memberOf_0 (w_istore2 dX6_memberOf_1 rfl (by decide) (wp_iconst dX6_memberOf_2 (w_istore3 dX6_memberOf_3 rfl (by decide) ?_)))
  exact L4 _ 0 _ 0 rfl (Nat.zero_le _) rfl (by rw [hi]; show _ = (idx : Int) - ((0 : Nat) : Int); omega) (by omega)
set_option maxRecDepth 100000 in
set_option maxHeartbeats 4000000 in
theorem t_X6_rootAt {h : zH} {tt ii : Int} {t idx : Nat} (ht : tt = t) (hii : ii = idx) (hib : idx < 2147483648) {p : Int} {c : Nat → Nat → Int} (hp : 5 ≤ p ∧ p ≤ 31) (ht31 : t < 31) (hT : zRoT p c t h) : CI yX6_rootAt mX6_rootAt [vR 141, vI tt, vI ii] h (fun r h' => h' = h ∧ zRtI p c t idx r) := by
  refine inV [some (vR 141), some (vI tt), some (vI ii), none, none, none, none] mvX6_rootAt rfl (Nat.le_of_ble_eq_true rfl) rfl ?_
  have L26 : ∀ (zm26 : Nat) (x : Nat) (l vx : Int), 31 - x = zm26 → (x ≤ 31) → (vx = (x : Int)) → (l = (idx : Int) - (zsumN (fun x => zpc (zrw p c t x)) x : Int)) → (0 ≤ l) → WP mX6_rootAt (zMQ mX6_rootAt (zKI (fun r h' => h' = h ∧ zRtI p c t idx r))) 26 [some (vR 141), some (vI tt), some (vI ii), some (vR (143 + t)), some (vI l), some (vI vx), none] [] zN zGR h := by
    intro zm26
    induction zm26 using Nat.strongRecOn with | _ zm26 ih26 => ?_
    intro x l vx hzm26 hx hvx hl hl0
    subst hzm26
    have hpc : zpc (zrw p c t x) ≤ 31 := by
      have := zcx_le hp.2 (c := c) (t := t) x
      rw [zrw_pc hp.2]
      split <;> omega
    refine w_iload5 dX6_rootAt_26 (w_aload3 dX6_rootAt_28 (wp_alen dX6_rootAt_29 (z_is143 ht31) (by decide) ?_))
    refine wp_icmp_ge 78 dX6_rootAt_30 rfl ⟨by omega, by omega⟩ ⟨by omega, by omega⟩ (fun c30 => ?_) (fun c30 => ?_)
    · skip
      refine wp_bipush dX6_rootAt_78 (by decide) ?_
      refine r_i dX6_rootAt_80 rfl meX6_rootAt ?_
      refine ⟨rfl, Or.inr ⟨?_, rfl⟩⟩
      rw [show x = 31 by omega, zcn_31 (by omega)] at hl
      omega
    · skip
      refine w_aload3 dX6_rootAt_33 (w_iload5 dX6_rootAt_34 (x_iald x dX6_rootAt_36 (z_is143 ht31) hvx (by omega) ?_))
      apply s_i1 (M := mX6_rootAt) dX6_rootAt_37 lk_RX6_53 mvJ6_bitCount_0f7a4 (by decide) meX6_rootAt (Nat.le_of_ble_eq_true rfl)
      · exact t_J6_bitCount_0f7a4 (zRoT_rw hT (by omega)) (zrw_lt hp.2)
      intro x37 h37 hP37
      obtain ⟨eh37, ex37⟩ := hP37
      replace eh37 := eh37.symm
      subst eh37
      replace ex37 := ex37.symm
      subst ex37
      refine w_istore6 dX6_rootAt_40 rfl (by decide) (w_iload4 dX6_rootAt_42 (w_iload6 dX6_rootAt_44 ?_))
      refine wp_icmp_ge 65 dX6_rootAt_46 rfl ⟨by omega, by omega⟩ ⟨by omega, by omega⟩ (fun c46 => ?_) (fun c46 => ?_)
      · skip
        refine w_iload4 dX6_rootAt_65 (w_iload6 dX6_rootAt_67 (wp_isub dX6_rootAt_69 (w_istore4 dX6_rootAt_70 rfl (by decide) (w_iinc5 dX6_rootAt_72 rfl (by decide) (wp_goto 26 dX6_rootAt_75 rfl ?_)))))
        refine w_forget6 ?_
        refine ih26 _ (by omega) (x + 1) _ _ rfl (by omega) (by omega) ?_ (by omega)
        show _ = (idx : Int) - ((zsumN (fun x => zpc (zrw p c t x)) x + zpc (zrw p c t x) : Nat) : Int)
        omega
      · skip
        refine wp_bipush dX6_rootAt_49 (by decide) (w_iload5 dX6_rootAt_51 (wp_imul dX6_rootAt_53 (w_aload3 dX6_rootAt_54 (w_iload5 dX6_rootAt_55 (x_iald x dX6_rootAt_57 (z_is143 ht31) hvx (by omega) (w_iload4 dX6_rootAt_58 ?_))))))
        apply s_i2 (M := mX6_rootAt) dX6_rootAt_60 lk_RX6_58 mvX6_memberOf (by decide) meX6_rootAt (Nat.le_of_ble_eq_true rfl)
        · exact t_X6_memberOf (m := zrw p c t x) (idx := l.toNat) (zRoT_rw hT (by omega)) (by omega) (zrw_lt hp.2) (by omega)
        intro x60 h60 hP60
        obtain ⟨eh60, y, hy31, hbit, hcnt, ex60⟩ := hP60
        replace eh60 := eh60.symm
        subst eh60
        subst ex60
        refine wp_iadd dX6_rootAt_63 ?_
        refine r_i dX6_rootAt_64 rfl meX6_rootAt ?_
        refine ⟨rfl, Or.inl ?_⟩
        have hxp : (x : Int) < p := by
          refine Int.lt_of_not_ge (fun q => ?_)
          have : zpc (zrw p c t x) = 0 := by rw [zrw_pc hp.2, if_neg (by omega)]
          omega
        have hrw : zrw p c t x = zmk (zRt p c t (x : Int)) p.toNat := if_pos hxp
        rw [hrw] at hbit hcnt
        have hyp : y < p.toNat := by
          refine Nat.lt_of_not_le (fun q => ?_)
          rw [Nat.div_eq_of_lt (Nat.lt_of_lt_of_le (zmk_lt _) (Nat.pow_le_pow_right (by decide) q))] at hbit
          exact absurd hbit (by decide)
        refine ⟨x, y, hxp, by omega, (zmk_bit _ y hyp).mp hbit, ?_, by omega⟩
        rw [← zct_congr y (fun i hi => zmk_bit (P := zRt p c t (x : Int)) p.toNat i (by omega)), hcnt]
        have e1 : zsumN (zcx p c t) x = zsumN (fun x => zpc (zrw p c t x)) x := zsumN_congr x (fun i hi => by rw [zrw_pc hp.2, if_pos (by omega)])
        rw [e1]
        omega
  refine w_iload1 dX6_rootAt_0 ?_
  refine wp_if_lt 10 dX6_rootAt_1 rfl ⟨by omega, by omega⟩ (fun c1 => absurd c1 (by omega)) (fun c1 => ?_)
  refine w_iload1 dX6_rootAt_4 (wp_bipush dX6_rootAt_5 (by decide) ?_)
  refine wp_icmp_lt 13 dX6_rootAt_7 rfl ⟨by omega, by omega⟩ ⟨by omega, by omega⟩ (fun c7 => ?_) (fun c7 => absurd c7 (by omega))
  refine w_aload0 dX6_rootAt_13 (wp_getr 142 dX6_rootAt_14 fl_RX6_11 is_141 rfl (w_iload1 dX6_rootAt_17 (x_aald t (143 + t) dX6_rootAt_18 is_142 (Or.inl rfl) ht ht31 rfl (w_astore3 dX6_rootAt_19 rfl (by decide) (w_iload2 dX6_rootAt_20 (w_istore4 dX6_rootAt_21 rfl (by decide) (wp_iconst dX6_rootAt_23 (w_istore5 dX6_rootAt_24 rfl (by decide) ?_))))))))
  exact L26 _ 0 _ 0 rfl (Nat.zero_le _) rfl (by rw [hii]; show _ = (idx : Int) - ((0 : Nat) : Int); omega) (by omega)
