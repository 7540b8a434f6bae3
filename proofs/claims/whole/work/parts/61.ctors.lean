theorem oi_RX0 : Cond.methodLink RX0 3 Lib.objectInit ∈ zbig := zmem 122 (by decide +kernel) (by decide +kernel)
theorem oi_RX1 : Cond.methodLink RX1 3 Lib.objectInit ∈ zbig := zmem 310 (by decide +kernel) (by decide +kernel)
theorem oi_RX2 : Cond.methodLink RX2 3 Lib.objectInit ∈ zbig := zmem 246 (by decide +kernel) (by decide +kernel)
theorem oi_RX4 : Cond.methodLink RX4 3 Lib.objectInit ∈ zbig := zmem 101 (by decide +kernel) (by decide +kernel)
theorem oi_RX5 : Cond.methodLink RX5 3 Lib.objectInit ∈ zbig := zmem 158 (by decide +kernel) (by decide +kernel)
theorem oi_RX6 : Cond.methodLink RX6 3 Lib.objectInit ∈ zbig := zmem 287 (by decide +kernel) (by decide +kernel)
theorem oi_RX7 : Cond.methodLink RX7 3 Lib.objectInit ∈ zbig := zmem 164 (by decide +kernel) (by decide +kernel)
theorem oi_RX8 : Cond.methodLink RX8 3 Lib.objectInit ∈ zbig := zmem 266 (by decide +kernel) (by decide +kernel)
theorem oi_RX9 : Cond.methodLink RX9 1 Lib.objectInit ∈ zbig := zmem 93 (by decide +kernel) (by decide +kernel)
theorem oi_RX10 : Cond.methodLink RX10 1 Lib.objectInit ∈ zbig := zmem 930 (by decide +kernel) (by decide +kernel)
def mcX4_init (n : Nat) : zM := (RX4, cX4_init, 1, none, true, 1, 4, 84, n, none)
def mcX2_init (n : Nat) : zM := (RX2, cX2_init, 2, none, true, 2, 41, 696, n, none)
theorem okX2_init_96 : zOK (mcX2_init 96) := by unfold zOK; decide +kernel
theorem okX4g {n : Nat} (hs1 : zSH (n + 1) = (11, 3)) (hr : ∀ i, i < 3 → zSH (n + 2 + i) = (10, 27)) : zOK (mcX4_init n) := by
  have := zSL_rows hs1 hr 3 (Nat.le_refl 3)
  exact this
set_option maxRecDepth 100000 in
set_option maxHeartbeats 4000000 in
theorem t_X4g {n m : Nat} {g : zG} {h : zH} (hm : m = n + 4) (hs0 : zSH n = (3, 2)) (h0 : 0 < n) (hs1 : zSH (n + 1) = (11, 3)) (hr : ∀ i, i < 3 → zSH (n + 2 + i) = (10, 27)) (hn : n + 4 < 999) (zh : zZh n h) : CALL yX4_init (mcX4_init n) [vR n] g h (fun r n' g' h' => r = none ∧ n' = m ∧ g' = zug (zgr g n 3) n 1 (n + 1) ∧ h' = zup h n 0 31) := by
  subst hm
  have ok := okX4g hs1 hr
  refine CALL_intro (M := mcX4_init n) (miX4_init _ _ _ _) rfl (by show 1 ≤ 1; decide) ?_
  show WP (mcX4_init n) _ 0 [some (vR n)] [] n g h
  refine w_aload0 dX4_init_0 ?_
  refine wp_oi dX4_init_1 oi_RX4 ⟨hs0, h0, Nat.le_refl n⟩ (by decide) (by show 0 < 1; decide) (Nat.le_of_ble_eq_true rfl) ?_
  refine w_aload0 dX4_init_4 (wp_bipush dX4_init_5 (by decide) ?_)
  refine wp_puti dX4_init_7 fl_RX4_9 ⟨hs0, h0, Nat.le_refl n⟩ rfl ?_
  refine w_aload0 dX4_init_10 (wp_iconst dX4_init_11 (wp_bipush dX4_init_12 (by decide) ?_))
  refine c_mna (n + 1) (n + 4) rfl rfl dX4_init_14 rfl kl_RX4_15 ⟨by decide, by decide⟩ ⟨by decide, by decide⟩ hs1 hr (zh.uh (Nat.le_refl n)) (by show n + 1 + 3 < 999; omega) ok (Nat.le_refl _) ?_
  refine wp_putrF dX4_init_18 fl_RX4_17 ⟨hs0, h0, by omega⟩ rfl rfl rfl ?_
  exact c_ret dX4_init_21 rfl ok rfl rfl rfl rfl
def zgX2 (g : zG) : Nat → zG
  | 0 => zug g 96 2 97
  | i + 1 => zug (zug (zgr (zgX2 g i) (98 + 5 * i) 3) (98 + 5 * i) 1 (98 + 5 * i + 1)) 97 i (98 + 5 * i)
def zhX2 (h : zH) : Nat → zH
  | 0 => h
  | i + 1 => zup (zhX2 h i) (98 + 5 * i) 0 31
theorem zgX2_z {g : zG} (zg : zZg 96 g) : ∀ i, zZg (97 + 5 * i) (zgX2 g i) := by
  intro i
  induction i with
  | zero => exact (zg.up (by omega)).ug (by omega)
  | succ i ih => exact (((ih.up (show 97 + 5 * i ≤ 98 + 5 * i by omega)).gr (show 98 + 5 * i + 1 + 3 ≤ 97 + 5 * (i + 1) by omega)).ug (by omega)).ug (by omega)
theorem zhX2_z {h : zH} (zh : zZh 96 h) : ∀ i, zZh (97 + 5 * i) (zhX2 h i) := by
  intro i
  induction i with
  | zero => exact zh.up (by omega)
  | succ i ih => exact (ih.up (show 97 + 5 * i ≤ 97 + 5 * (i + 1) by omega)).uh (by omega)
theorem zgX2_2 {g : zG} : ∀ i, zgX2 g i 96 2 = 97 := by
  intro i
  induction i with
  | zero => exact zug_s
  | succ i ih =>
    show zug (zug (zgr (zgX2 g i) (98 + 5 * i) 3) (98 + 5 * i) 1 (98 + 5 * i + 1)) 97 i (98 + 5 * i) 96 2 = 97
    rw [zug_o (by omega), zug_o (by omega), zgr_a (by omega), ih]
theorem zSH_st : ∀ i, i < 8 → zSH (98 + 5 * i) = (3, 2) ∧ zSH (98 + 5 * i + 1) = (11, 3) ∧ ∀ j, j < 3 → zSH (98 + 5 * i + 2 + j) = (10, 27) := by decide +kernel
theorem zg_X2_init_96 {g : zG} (zg : zZg 96 g) : zZg 137 (zgX2 g 8) := zgX2_z zg 8
theorem zh_X2_init_96 {h : zH} (zh : zZh 96 h) : zZh 137 (zhX2 h 8) := zhX2_z zh 8
set_option maxRecDepth 100000 in
set_option maxHeartbeats 4000000 in
theorem t_X2_init_96 {g : zG} {h : zH} (zg : zZg 96 g) (zh : zZh 96 h) : CALL yX2_init (mcX2_init 96) [vR 96] g h (fun r n' g' h' => r = none ∧ n' = 137 ∧ g' = zgX2 g 8 ∧ h' = zhX2 h 8) := by
  have ok := okX2_init_96
  refine CALL_intro (M := mcX2_init 96) (miX2_init _ _ _ _) rfl (by decide) ?_
  show WP (mcX2_init 96) _ 0 [some (vR 96), none] [] 96 g h
  have L15 : ∀ (k i : Nat) (vi : Int), 8 - i = k → i ≤ 8 → vi = (i : Int) → WP (mcX2_init 96) (zMQ (mcX2_init 96) (fun r n' g' h' => r = none ∧ n' = 137 ∧ g' = zgX2 g 8 ∧ h' = zhX2 h 8)) 15 [some (vR 96), some (vI vi)] [] (97 + 5 * i) (zgX2 g i) (zhX2 h i) := by
    intro k
    induction k with
    | zero =>
      intro i vi e hi hv
      have e8 : i = 8 := by omega
      subst e8
      subst hv
      refine w_iload1 dX2_init_15 (wp_bipush dX2_init_16 (by decide) ?_)
      refine wp_icmp_ge 40 dX2_init_18 rfl ⟨by omega, by omega⟩ ⟨by omega, by omega⟩ (fun c18 => ?_) (fun c18 => absurd c18 (by omega))
      exact c_ret dX2_init_40 rfl ok rfl rfl rfl rfl
    | succ k ih =>
      intro i vi e hi hv
      have f := zSH_st i (by omega)
      refine w_iload1 dX2_init_15 (wp_bipush dX2_init_16 (by decide) ?_)
      refine wp_icmp_ge 40 dX2_init_18 rfl ⟨by omega, by omega⟩ ⟨by omega, by omega⟩ (fun c18 => absurd c18 (by omega)) (fun c18 => ?_)
      refine w_aload0 dX2_init_21 (wp_getr 97 dX2_init_22 fl_RX2_11 ⟨rfl, by decide, by omega⟩ (zgX2_2 i) (w_iload1 dX2_init_25 ?_))
      refine c_new (ci := 3) (98 + 5 * i) (by omega) dX2_init_26 (by decide) rfl kl_RX2_9 ki_3 kn_3 f.1 (zgX2_z zg i) (zhX2_z zh i) (by omega) ok (by show 97 + 5 * i + 1 ≤ 96 + 41; omega) ?_
      refine wp_dup dX2_init_29 rfl ?_
      refine c_callI (As := []) (np := 0) (M' := mcX4_init (98 + 5 * i)) (97 + 5 * (i + 1)) (by show _ = 98 + 5 * i + 4; omega) dX2_init_30 lk_RX2_17 (miX4_init _ _ _ _) rfl rfl mjX4_init rfl (by show 1 < 2; decide) ⟨f.1, by omega, Nat.le_refl _⟩ (by decide) rfl ok (okX4g f.2.1 f.2.2) (by show 98 + 5 * i + 4 ≤ 96 + 41; omega) (Or.inl rfl) (Nat.le_of_ble_eq_true rfl) rfl (t_X4g (by omega) f.1 (by omega) f.2.1 f.2.2 (by omega) ((zhX2_z zh i).up (by omega))) ?_
      refine wp_aastP dX2_init_33 ⟨rfl, by decide, by omega⟩ ⟨f.1, by omega, by omega⟩ ⟨by omega, by omega⟩ ?_
      refine w_iinc1 dX2_init_34 rfl (by decide) (wp_goto 15 dX2_init_37 rfl ?_)
      subst hv
      exact ih (i + 1) ((i : Int) + 1) (by omega) (by omega) (by omega)
  refine w_aload0 dX2_init_0 ?_
  refine wp_oi dX2_init_1 oi_RX2 ⟨rfl, by decide, by decide⟩ (by decide) (by decide) (Nat.le_of_ble_eq_true rfl) ?_
  refine w_aload0 dX2_init_4 (wp_bipush dX2_init_5 (by decide) ?_)
  refine c_anewP 97 rfl dX2_init_7 rfl kl_RX2_9 ⟨by decide, by decide⟩ rfl zg (by decide) ok (Nat.le_of_ble_eq_true rfl) ?_
  refine wp_putrF dX2_init_10 fl_RX2_11 ⟨rfl, by decide, by decide⟩ rfl rfl rfl ?_
  refine wp_iconst dX2_init_13 (w_istore1 dX2_init_14 rfl (by decide) ?_)
  exact L15 8 0 0 rfl (by decide) rfl
def mbc (n : Nat) : zM := (RJ6, cJ6_bitCount_0f7a4, 1, some .int, false, 0, 0, 0, n, none)
set_option maxRecDepth 100000 in
set_option maxHeartbeats 4000000 in
theorem t_bcg {n : Nat} {g : zG} {h : zH} {v : Int} {m : Nat} (hv : v = m) (hm : m < 2147483648) : CALL yJ6_bitCount_0f7a4 (mbc n) [vI v] g h (fun r n' g' h' => ∃ x, r = some (vI x) ∧ n' = n ∧ g' = g ∧ h' = h ∧ x = (zpc m : Int)) := by
  refine CALL_intro (M := mbc n) (np := 1) mvJ6_bitCount_0f7a4.1 rfl (by show 1 ≤ 1; decide) ?_
  show WP (mbc n) _ 0 [some (vI v)] [] n g h
  subst hv
  have b1 := zw_b1 m
  have b2 := zw_b2 m
  have b3 := zw_b3 m
  have L48 : ∀ (v : Int), (v = (zw5 m : Int)) → WP (mbc n) (zMQ (mbc n) (fun r n' g' h' => ∃ x, r = some (vI x) ∧ n' = n ∧ g' = g ∧ h' = h ∧ x = (zpc m : Int))) 48 [some (vI v)] [] n g h := by
    intro v hv
    refine w_iload0 dJ6_bitCount_0f7a4_48 (wp_bipush dJ6_bitCount_0f7a4_49 (by decide) (wp_iand dJ6_bitCount_0f7a4_51 (by rw [hv]; unfold zw5 zw4; omega) (by omega) ?_))
    refine wp_iret dJ6_bitCount_0f7a4_52 rfl ⟨rfl, rfl⟩ ⟨_, rfl, rfl, rfl, rfl, ?_⟩
    rw [hv, ← z_swar hm]
    rfl
  have L41 : ∀ (v : Int), (v = (zw4 m : Int)) → WP (mbc n) (zMQ (mbc n) (fun r n' g' h' => ∃ x, r = some (vI x) ∧ n' = n ∧ g' = g ∧ h' = h ∧ x = (zpc m : Int))) 41 [some (vI v)] [] n g h := by
    intro v hv
    refine w_iload0 dJ6_bitCount_0f7a4_41 (w_iload0 dJ6_bitCount_0f7a4_42 (wp_bipush dJ6_bitCount_0f7a4_43 (by decide) (wp_iushr dJ6_bitCount_0f7a4_45 (by omega) (wp_iadd dJ6_bitCount_0f7a4_46 (w_istore0 dJ6_bitCount_0f7a4_47 (Nat.le_of_ble_eq_true rfl) ?_)))))
    exact L48 _ (by rw [hv, show (((zw4 m : Nat) : Int) % 4294967296 / 2 ^ (16 : Int).toNat) = ((zw4 m / 2 ^ 16 : Nat) : Int) from z_us (by unfold zw4; omega) 16]; rfl)
  have L34 : ∀ (v : Int), (v = (zw3 m : Int)) → WP (mbc n) (zMQ (mbc n) (fun r n' g' h' => ∃ x, r = some (vI x) ∧ n' = n ∧ g' = g ∧ h' = h ∧ x = (zpc m : Int))) 34 [some (vI v)] [] n g h := by
    intro v hv
    refine w_iload0 dJ6_bitCount_0f7a4_34 (w_iload0 dJ6_bitCount_0f7a4_35 (wp_bipush dJ6_bitCount_0f7a4_36 (by decide) (wp_iushr dJ6_bitCount_0f7a4_38 (by omega) (wp_iadd dJ6_bitCount_0f7a4_39 (w_istore0 dJ6_bitCount_0f7a4_40 (Nat.le_of_ble_eq_true rfl) ?_)))))
    exact L41 _ (by rw [hv, show (((zw3 m : Nat) : Int) % 4294967296 / 2 ^ (8 : Int).toNat) = ((zw3 m / 2 ^ 8 : Nat) : Int) from z_us (by omega) 8]; rfl)
  have L24 : ∀ (v : Int), (v = (zw2 m : Int)) → WP (mbc n) (zMQ (mbc n) (fun r n' g' h' => ∃ x, r = some (vI x) ∧ n' = n ∧ g' = g ∧ h' = h ∧ x = (zpc m : Int))) 24 [some (vI v)] [] n g h := by
    intro v hv
    refine w_iload0 dJ6_bitCount_0f7a4_24 (w_iload0 dJ6_bitCount_0f7a4_25 (wp_iconst dJ6_bitCount_0f7a4_26 ?_))
    skip
    refine wp_iushr dJ6_bitCount_0f7a4_27 (by omega) (wp_iadd dJ6_bitCount_0f7a4_28 (wp_ldcw dJ6_bitCount_0f7a4_29 kc_RJ6_267 (wp_iand dJ6_bitCount_0f7a4_32 (by rw [hv, show (((zw2 m : Nat) : Int) % 4294967296 / 2 ^ (4 : Int).toNat) = ((zw2 m / 2 ^ 4 : Nat) : Int) from z_us (by omega) 4]; omega) (by omega) (w_istore0 dJ6_bitCount_0f7a4_33 (Nat.le_of_ble_eq_true rfl) ?_))))
    exact L34 _ (by rw [hv, show (((zw2 m : Nat) : Int) % 4294967296 / 2 ^ (4 : Int).toNat) = ((zw2 m / 2 ^ 4 : Nat) : Int) from z_us (by omega) 4]; rfl)
  have L10 : ∀ (v : Int), (v = (zw1 m : Int)) → WP (mbc n) (zMQ (mbc n) (fun r n' g' h' => ∃ x, r = some (vI x) ∧ n' = n ∧ g' = g ∧ h' = h ∧ x = (zpc m : Int))) 10 [some (vI v)] [] n g h := by
    intro v hv
    refine w_iload0 dJ6_bitCount_0f7a4_10 (wp_ldcw dJ6_bitCount_0f7a4_11 kc_RJ6_266 (wp_iand dJ6_bitCount_0f7a4_14 (by omega) (by omega) (w_iload0 dJ6_bitCount_0f7a4_15 (wp_iconst dJ6_bitCount_0f7a4_16 ?_))))
    rw [hv]
    refine wp_iushr dJ6_bitCount_0f7a4_17 (by omega) (wp_ldcw dJ6_bitCount_0f7a4_18 kc_RJ6_266 (wp_iand dJ6_bitCount_0f7a4_21 (by rw [show (((zw1 m : Nat) : Int) % 4294967296 / 2 ^ (2 : Int).toNat) = ((zw1 m / 2 ^ 2 : Nat) : Int) from z_us (by omega) 2]; omega) (by omega) (wp_iadd dJ6_bitCount_0f7a4_22 (w_istore0 dJ6_bitCount_0f7a4_23 (Nat.le_of_ble_eq_true rfl) ?_))))
    exact L24 _ (by rw [show (((zw1 m : Nat) : Int) % 4294967296 / 2 ^ (2 : Int).toNat) = ((zw1 m / 2 ^ 2 : Nat) : Int) from z_us (by omega) 2]; rfl)
  refine w_iload0 dJ6_bitCount_0f7a4_0 (w_iload0 dJ6_bitCount_0f7a4_1 (wp_iconst dJ6_bitCount_0f7a4_2 ?_))
  skip
  refine wp_iushr dJ6_bitCount_0f7a4_3 (by omega) (wp_ldcw dJ6_bitCount_0f7a4_4 kc_RJ6_265 (wp_iand dJ6_bitCount_0f7a4_7 (by rw [show (((m : Nat) : Int) % 4294967296 / 2 ^ (1 : Int).toNat) = ((m / 2 ^ 1 : Nat) : Int) from z_us (by omega) 1]; omega) (by omega) (wp_isub dJ6_bitCount_0f7a4_8 (w_istore0 dJ6_bitCount_0f7a4_9 (Nat.le_of_ble_eq_true rfl) ?_))))
  exact L10 _ (by rw [show (((m : Nat) : Int) % 4294967296 / 2 ^ (1 : Int).toNat) = ((m / 2 ^ 1 : Nat) : Int) from z_us (by omega) 1]; show (m : Int) - ((m / 2 &&& 1431655765 : Nat) : Int) = _; unfold zw1; have : m / 2 &&& 1431655765 ≤ m := Nat.le_trans Nat.and_le_left (Nat.div_le_self _ _); omega)
def mcX1_init (n : Nat) : zM := (RX1, cX1_init, 5, none, true, 1, 262, 6819, n, none)
theorem okX1_init_182 : zOK (mcX1_init 182) := by unfold zOK; decide +kernel
def zgX1s (g : zG) : zG := (zug (zug (zug (zug (zug (zug (zug (zug (zug g 182 0 183) 182 1 184) 182 6 185) 182 7 186) 182 8 187) 182 9 188) 182 3 2) 182 4 7) 182 5 78)
def zgX1i (g : zG) (i : Nat) : zG := fun a j => if a = 188 ∧ j < i then 189 + j else zgX1s g a j
def zgX1 (g : zG) : zG := zgX1i g 256
theorem zgX1s_z {g : zG} (zg : zZg 182 g) : zZg 188 (zgX1s g) := by
  have zg1 := (zZg.up zg (Nat.le_of_ble_eq_true rfl : 182 ≤ 183))
  have zg2 := (zZg.ug (a := 182) (k := 0) (v := 183) zg1 (Nat.le_of_ble_eq_true rfl : 182 ≤ 183))
  have zg3 := (zZg.up zg2 (Nat.le_of_ble_eq_true rfl : 183 ≤ 184))
  have zg4 := (zZg.ug (a := 182) (k := 1) (v := 184) zg3 (Nat.le_of_ble_eq_true rfl : 182 ≤ 184))
  have zg5 := (zZg.up zg4 (Nat.le_of_ble_eq_true rfl : 184 ≤ 185))
  have zg6 := (zZg.ug (a := 182) (k := 6) (v := 185) zg5 (Nat.le_of_ble_eq_true rfl : 182 ≤ 185))
  have zg7 := (zZg.up zg6 (Nat.le_of_ble_eq_true rfl : 185 ≤ 186))
  have zg8 := (zZg.ug (a := 182) (k := 7) (v := 186) zg7 (Nat.le_of_ble_eq_true rfl : 182 ≤ 186))
  have zg9 := (zZg.up zg8 (Nat.le_of_ble_eq_true rfl : 186 ≤ 187))
  have zg10 := (zZg.ug (a := 182) (k := 8) (v := 187) zg9 (Nat.le_of_ble_eq_true rfl : 182 ≤ 187))
  have zg11 := (zZg.up zg10 (Nat.le_of_ble_eq_true rfl : 187 ≤ 188))
  have zg12 := (zZg.ug (a := 182) (k := 9) (v := 188) zg11 (Nat.le_of_ble_eq_true rfl : 182 ≤ 188))
  have zg13 := (zZg.ug (a := 182) (k := 3) (v := 2) zg12 (Nat.le_of_ble_eq_true rfl : 182 ≤ 188))
  have zg14 := (zZg.ug (a := 182) (k := 4) (v := 7) zg13 (Nat.le_of_ble_eq_true rfl : 182 ≤ 188))
  have zg15 := (zZg.ug (a := 182) (k := 5) (v := 78) zg14 (Nat.le_of_ble_eq_true rfl : 182 ≤ 188))
  exact zg15
theorem zgX1i_z {g : zG} (zg : zZg 182 g) (i : Nat) : zZg 188 (zgX1i g i) := fun a j ha => by
  unfold zgX1i
  rw [if_neg (by omega)]
  exact zgX1s_z zg a j ha
theorem zg_X1_init_182 {g : zG} (zg : zZg 182 g) : zZg 444 (zgX1 g) := (zgX1i_z zg 256).up (by decide)
theorem zh_X1_init_182 {h : zH} (zh : zZh 182 h) : zZh 444 h := zh.up (by decide)
theorem zgX1s_9 {g : zG} : zgX1s g 182 9 = 188 := by
  unfold zgX1s
  repeat (first | rw [zug_s] | rw [zug_o (by decide)])
theorem zgX1i_9 {g : zG} (i : Nat) : zgX1i g i 182 9 = 188 := by
  unfold zgX1i
  rw [if_neg (by omega)]
  exact zgX1s_9
theorem zgX1i_0 {g : zG} : zgX1i g 0 = zgX1s g := by
  funext a j
  exact if_neg (by omega)
theorem zgX1i_s {g : zG} (i : Nat) : zug (zgX1i g i) 188 i (189 + i) = zgX1i g (i + 1) := by
  funext a j
  unfold zug zgX1i
  by_cases e : a = 188 ∧ j = i
  · rw [if_pos e, if_pos (by omega)]
    omega
  · rw [if_neg e]
    by_cases e2 : a = 188 ∧ j < i
    · rw [if_pos e2, if_pos (by omega)]
    · rw [if_neg e2, if_neg (by omega)]
set_option maxRecDepth 100000 in
set_option maxHeartbeats 4000000 in
theorem t_X1_init_182 {g : zG} {h : zH} (zg : zZg 182 g) (zh : zZh 182 h) : CALL yX1_init (mcX1_init 182) [vR 182, vR 2, vR 7, vR 78] g h (fun r n' g' h' => r = none ∧ n' = 444 ∧ g' = zgX1 g ∧ h' = h) := by
  have ok := okX1_init_182
  refine CALL_intro (M := mcX1_init 182) (miX1_init _ _ _ _) rfl (by decide) ?_
  show WP (mcX1_init 182) _ 0 [some (vR 182), some (vR 2), some (vR 7), some (vR 78), none] [] 182 g h
  have L72 : ∀ (k i : Nat) (vi : Int), 256 - i = k → i ≤ 256 → vi = (i : Int) → WP (mcX1_init 182) (zMQ (mcX1_init 182) (fun r n' g' h' => r = none ∧ n' = 444 ∧ g' = zgX1 g ∧ h' = h)) 72 [some (vR 182), some (vR 2), some (vR 7), some (vR 78), some (vI vi)] [] (188 + i) (zgX1i g i) h := by
    intro k
    induction k with
    | zero =>
      intro i vi e hi hv
      have e8 : i = 256 := by omega
      subst e8
      subst hv
      refine w_iload4 dX1_init_72 (w_aload0 dX1_init_74 (wp_getr 188 dX1_init_75 fl_RX1_28 ⟨rfl, by decide, by decide⟩ (zgX1i_9 _) ?_))
      refine wp_alen (k := 11) (N := 256) dX1_init_78 ⟨rfl, by decide, by decide⟩ (by decide) ?_
      refine wp_icmp_ge 107 dX1_init_79 rfl ⟨by omega, by omega⟩ ⟨by omega, by omega⟩ (fun c79 => ?_) (fun c79 => absurd c79 (by omega))
      exact c_ret dX1_init_107 rfl ok rfl rfl rfl rfl
    | succ k ih =>
      intro i vi e hi hv
      have f := (z_is189 (s := i) (by omega)).1
      refine w_iload4 dX1_init_72 (w_aload0 dX1_init_74 (wp_getr 188 dX1_init_75 fl_RX1_28 ⟨rfl, by decide, by omega⟩ (zgX1i_9 _) ?_))
      refine wp_alen (k := 11) (N := 256) dX1_init_78 ⟨rfl, by decide, by omega⟩ (by decide) ?_
      refine wp_icmp_ge 107 dX1_init_79 rfl ⟨by omega, by omega⟩ ⟨by omega, by omega⟩ (fun c79 => absurd c79 (by omega)) (fun c79 => ?_)
      refine w_aload0 dX1_init_82 (wp_getr 188 dX1_init_83 fl_RX1_28 ⟨rfl, by decide, by omega⟩ (zgX1i_9 _) ?_)
      refine w_iload4 dX1_init_86 (wp_bipush dX1_init_88 (by decide) (w_iload4 dX1_init_90 ?_))
      refine wp_callS (As := [vI vi]) (rest := [vI 6, vI vi, vR 188]) (M' := mbc (188 + i)) (np := 1) dX1_init_92 lk_RX1_44 mvJ6_bitCount_0f7a4.1 mvJ6_bitCount_0f7a4.2.1 rfl (Nat.le_of_ble_eq_true rfl) rfl ⟨by show 188 + i + 0 ≤ 182 + 262; omega, ?_⟩ (by rfl) (Nat.le_of_ble_eq_true rfl) rfl (t_bcg (m := i) hv (by omega)) (fun r n' g' h' q => ?_)
      · exact Nat.le_trans (Nat.le_of_eq (Nat.add_zero _)) (ok.le (n := 188 + i) (N := 0) (by show 188 + i + 0 ≤ 182 + 262; omega))
      · obtain ⟨x, rfl, rfl, rfl, rfl, rfl⟩ := q
        have hb := zpc_b8 (s := i) (by omega)
        refine wp_imul dX1_init_95 (wp_iconst dX1_init_96 (wp_iadd dX1_init_97 ?_))
        have hzb : zb8 i ≤ 8 := zb8_o 8 (by decide) i (by omega) (by omega)
        refine c_newa (189 + i) (by omega) dX1_init_98 ⟨by omega, by omega⟩ (by rw [f, hb]; congr 1; try omega) (zh.up (by omega)) (by omega) ok (by show 188 + i + 1 ≤ 182 + 262; omega) ?_
        refine wp_aastI (N := 256) dX1_init_100 rfl ⟨rfl, by decide, by omega⟩ ⟨f, by omega, Nat.le_refl _⟩ ⟨by omega, by omega⟩ ?_
        refine w_iinc4 dX1_init_101 rfl (by decide) (wp_goto 72 dX1_init_104 rfl ?_)
        subst hv
        rw [Int.toNat_natCast, zgX1i_s, show 189 + i = 188 + (i + 1) by omega]
        exact ih (i + 1) ((i : Int) + 1) (by omega) (by omega) (by omega)
  refine w_aload0 dX1_init_0 ?_
  refine wp_oi dX1_init_1 oi_RX1 ⟨rfl, by decide, by decide⟩ (by decide) (by decide) (by decide) ?_
  refine w_aload0 dX1_init_4 ?_
  refine wp_bipush dX1_init_5 (by decide) ?_
  refine c_newa 183 rfl dX1_init_7 ⟨by decide, by decide⟩ rfl zh (by decide) ok (Nat.le_of_ble_eq_true rfl) ?_
  have zg1 := (zZg.up zg (Nat.le_of_ble_eq_true rfl : 182 ≤ 183))
  have zh1 := (zZh.up zh (Nat.le_of_ble_eq_true rfl : 182 ≤ 183))
  refine wp_putrF dX1_init_9 fl_RX1_9 ⟨rfl, by decide, by decide⟩ rfl rfl rfl ?_
  have zg2 := (zZg.ug (a := 182) (k := 0) (v := 183) zg1 (Nat.le_of_ble_eq_true rfl : 182 ≤ 183))
  have zh2 := zh1
  refine w_aload0 dX1_init_12 ?_
  refine wp_bipush dX1_init_13 (by decide) ?_
  refine c_newa 184 rfl dX1_init_15 ⟨by decide, by decide⟩ rfl zh2 (by decide) ok (Nat.le_of_ble_eq_true rfl) ?_
  have zg3 := (zZg.up zg2 (Nat.le_of_ble_eq_true rfl : 183 ≤ 184))
  have zh3 := (zZh.up zh2 (Nat.le_of_ble_eq_true rfl : 183 ≤ 184))
  refine wp_putrF dX1_init_17 fl_RX1_15 ⟨rfl, by decide, by decide⟩ rfl rfl rfl ?_
  have zg4 := (zZg.ug (a := 182) (k := 1) (v := 184) zg3 (Nat.le_of_ble_eq_true rfl : 182 ≤ 184))
  have zh4 := zh3
  refine w_aload0 dX1_init_20 ?_
  refine wp_bipush dX1_init_21 (by decide) ?_
  refine c_newa 185 rfl dX1_init_23 ⟨by decide, by decide⟩ rfl zh4 (by decide) ok (Nat.le_of_ble_eq_true rfl) ?_
  have zg5 := (zZg.up zg4 (Nat.le_of_ble_eq_true rfl : 184 ≤ 185))
  have zh5 := (zZh.up zh4 (Nat.le_of_ble_eq_true rfl : 184 ≤ 185))
  refine wp_putrF dX1_init_25 fl_RX1_18 ⟨rfl, by decide, by decide⟩ rfl rfl rfl ?_
  have zg6 := (zZg.ug (a := 182) (k := 6) (v := 185) zg5 (Nat.le_of_ble_eq_true rfl : 182 ≤ 185))
  have zh6 := zh5
  refine w_aload0 dX1_init_28 ?_
  refine wp_bipush dX1_init_29 (by decide) ?_
  refine c_newa 186 rfl dX1_init_31 ⟨by decide, by decide⟩ rfl zh6 (by decide) ok (Nat.le_of_ble_eq_true rfl) ?_
  have zg7 := (zZg.up zg6 (Nat.le_of_ble_eq_true rfl : 185 ≤ 186))
  have zh7 := (zZh.up zh6 (Nat.le_of_ble_eq_true rfl : 185 ≤ 186))
  refine wp_putrF dX1_init_33 fl_RX1_21 ⟨rfl, by decide, by decide⟩ rfl rfl rfl ?_
  have zg8 := (zZg.ug (a := 182) (k := 7) (v := 186) zg7 (Nat.le_of_ble_eq_true rfl : 182 ≤ 186))
  have zh8 := zh7
  refine w_aload0 dX1_init_36 ?_
  refine wp_bipush dX1_init_37 (by decide) ?_
  refine c_newa 187 rfl dX1_init_39 ⟨by decide, by decide⟩ rfl zh8 (by decide) ok (Nat.le_of_ble_eq_true rfl) ?_
  have zg9 := (zZg.up zg8 (Nat.le_of_ble_eq_true rfl : 186 ≤ 187))
  have zh9 := (zZh.up zh8 (Nat.le_of_ble_eq_true rfl : 186 ≤ 187))
  refine wp_putrF dX1_init_41 fl_RX1_24 ⟨rfl, by decide, by decide⟩ rfl rfl rfl ?_
  have zg10 := (zZg.ug (a := 182) (k := 8) (v := 187) zg9 (Nat.le_of_ble_eq_true rfl : 182 ≤ 187))
  have zh10 := zh9
  refine w_aload0 dX1_init_44 ?_
  refine wp_sipush dX1_init_45 (by decide) ?_
  refine c_anewI 188 rfl dX1_init_48 rfl kl_RX1_27 ⟨by decide, by decide⟩ rfl zg10 (by decide) ok (Nat.le_of_ble_eq_true rfl) ?_
  have zg11 := (zZg.up zg10 (Nat.le_of_ble_eq_true rfl : 187 ≤ 188))
  have zh11 := (zZh.up zh10 (Nat.le_of_ble_eq_true rfl : 187 ≤ 188))
  refine wp_putrF dX1_init_51 fl_RX1_28 ⟨rfl, by decide, by decide⟩ rfl rfl rfl ?_
  have zg12 := (zZg.ug (a := 182) (k := 9) (v := 188) zg11 (Nat.le_of_ble_eq_true rfl : 182 ≤ 188))
  have zh12 := zh11
  refine w_aload0 dX1_init_54 ?_
  refine w_aload1 dX1_init_55 ?_
  refine wp_putrF dX1_init_56 fl_RX1_32 ⟨rfl, by decide, by decide⟩ rfl rfl rfl ?_
  have zg13 := (zZg.ug (a := 182) (k := 3) (v := 2) zg12 (Nat.le_of_ble_eq_true rfl : 182 ≤ 188))
  have zh13 := zh12
  refine w_aload0 dX1_init_59 ?_
  refine w_aload2 dX1_init_60 ?_
  refine wp_putrF dX1_init_61 fl_RX1_36 ⟨rfl, by decide, by decide⟩ rfl rfl rfl ?_
  have zg14 := (zZg.ug (a := 182) (k := 4) (v := 7) zg13 (Nat.le_of_ble_eq_true rfl : 182 ≤ 188))
  have zh14 := zh13
  refine w_aload0 dX1_init_64 ?_
  refine w_aload3 dX1_init_65 ?_
  refine wp_putrF dX1_init_66 fl_RX1_40 ⟨rfl, by decide, by decide⟩ rfl rfl rfl ?_
  have zg15 := (zZg.ug (a := 182) (k := 5) (v := 78) zg14 (Nat.le_of_ble_eq_true rfl : 182 ≤ 188))
  have zh15 := zh14
  refine wp_iconst dX1_init_69 (w_istore4 dX1_init_70 rfl (by decide) ?_)
  show WP _ _ 72 _ [] 188 (zgX1s g) h
  rw [← zgX1i_0]
  exact L72 256 0 0 rfl (by decide) rfl
def mcX9_init (n : Nat) : zM := (RX9, cX9_init, 4, none, true, 3, 443, 9604, n, none)
theorem okX9_init_1 : zOK (mcX9_init 1) := by unfold zOK; decide +kernel
theorem okX4_init_2 : zOK (mcX4_init 2) := by unfold zOK; decide +kernel
set_option maxRecDepth 100000 in
set_option maxHeartbeats 4000000 in
theorem t_X4_init_2 {g : zG} {h : zH} (zg : zZg 2 g) (zh : zZh 2 h) : CALL yX4_init (mcX4_init 2) [vR 2] g h (fun r n' g' h' => r = none ∧ n' = 6 ∧ g' = (zug (zgr g 2 3) 2 1 3) ∧ h' = (zup h 2 0 31)) := by
  have ok := okX4_init_2
  refine CALL_intro (M := mcX4_init 2) (miX4_init _ _ _ _) rfl (by decide) ?_
  show WP (mcX4_init 2) _ 0 [some (vR 2)] [] 2 g h
  refine w_aload0 dX4_init_0 ?_
  refine wp_oi dX4_init_1 oi_RX4 ⟨rfl, by decide, by decide⟩ (by decide) (by decide) (by decide) ?_
  refine w_aload0 dX4_init_4 ?_
  refine wp_bipush dX4_init_5 (by decide) ?_
  refine wp_puti dX4_init_7 fl_RX4_9 ⟨rfl, by decide, by decide⟩ rfl ?_
  have zg1 := zg
  have zh1 := (zZh.uh (a := 2) (k := 0) (v := 31) zh (Nat.le_of_ble_eq_true rfl : 2 ≤ 2))
  refine w_aload0 dX4_init_10 ?_
  refine wp_iconst dX4_init_11 ?_
  refine wp_bipush dX4_init_12 (by decide) ?_
  refine c_mna 3 6 rfl rfl dX4_init_14 rfl kl_RX4_15 ⟨by decide, by decide⟩ ⟨by decide, by decide⟩ rfl (by decide +kernel) zh1 (by decide) ok (Nat.le_of_ble_eq_true rfl) ?_
  have zg2 := (zZg.gr zg1 (Nat.le_of_ble_eq_true rfl : 2 + 1 + 3 ≤ 6))
  have zh2 := (zZh.up zh1 (Nat.le_of_ble_eq_true rfl : 2 ≤ 6))
  refine wp_putrF dX4_init_18 fl_RX4_17 ⟨rfl, by decide, by decide⟩ rfl rfl rfl ?_
  have zg3 := (zZg.ug (a := 2) (k := 1) (v := 3) zg2 (Nat.le_of_ble_eq_true rfl : 2 ≤ 6))
  have zh3 := zh2
  exact c_ret dX4_init_21 rfl ok rfl rfl rfl rfl
theorem zg_X4_init_2 {g : zG} (zg : zZg 2 g) : zZg 6 (zug (zgr g 2 3) 2 1 3) := by
  have zg1 := zg
  have zg2 := (zZg.gr zg1 (Nat.le_of_ble_eq_true rfl : 2 + 1 + 3 ≤ 6))
  have zg3 := (zZg.ug (a := 2) (k := 1) (v := 3) zg2 (Nat.le_of_ble_eq_true rfl : 2 ≤ 6))
  exact zg3
theorem zh_X4_init_2 {h : zH} (zh : zZh 2 h) : zZh 6 (zup h 2 0 31) := by
  have zh1 := (zZh.uh (a := 2) (k := 0) (v := 31) zh (Nat.le_of_ble_eq_true rfl : 2 ≤ 2))
  have zh2 := (zZh.up zh1 (Nat.le_of_ble_eq_true rfl : 2 ≤ 6))
  have zh3 := zh2
  exact zh3
def mcX0_init (n : Nat) : zM := (RX0, cX0_init, 2, none, true, 1, 70, 537, n, none)
theorem okX0_init_7 : zOK (mcX0_init 7) := by unfold zOK; decide +kernel
set_option maxRecDepth 100000 in
set_option maxHeartbeats 4000000 in
theorem t_X0_init_7 {g : zG} {h : zH} (zg : zZg 7 g) (zh : zZh 7 h) : CALL yX0_init (mcX0_init 7) [vR 7, vR 2] g h (fun r n' g' h' => r = none ∧ n' = 77 ∧ g' = (zug (zug (zug (zgr (zug (zgr g 7 64) 7 5 8) 72 3) 7 6 73) 7 7 77) 7 4 2) ∧ h' = h) := by
  have ok := okX0_init_7
  refine CALL_intro (M := mcX0_init 7) (miX0_init _ _ _ _) rfl (by decide) ?_
  show WP (mcX0_init 7) _ 0 [some (vR 7), some (vR 2)] [] 7 g h
  refine w_aload0 dX0_init_0 ?_
  refine wp_oi dX0_init_1 oi_RX0 ⟨rfl, by decide, by decide⟩ (by decide) (by decide) (by decide) ?_
  refine w_aload0 dX0_init_4 ?_
  refine wp_bipush dX0_init_5 (by decide) ?_
  refine wp_bipush dX0_init_7 (by decide) ?_
  refine c_mna 8 72 rfl rfl dX0_init_9 rfl kl_RX0_9 ⟨by decide, by decide⟩ ⟨by decide, by decide⟩ rfl (by decide +kernel) zh (by decide) ok (Nat.le_of_ble_eq_true rfl) ?_
  have zg1 := (zZg.gr zg (Nat.le_of_ble_eq_true rfl : 7 + 1 + 64 ≤ 72))
  have zh1 := (zZh.up zh (Nat.le_of_ble_eq_true rfl : 7 ≤ 72))
  refine wp_putrF dX0_init_13 fl_RX0_11 ⟨rfl, by decide, by decide⟩ rfl rfl rfl ?_
  have zg2 := (zZg.ug (a := 7) (k := 5) (v := 8) zg1 (Nat.le_of_ble_eq_true rfl : 7 ≤ 72))
  have zh2 := zh1
  refine w_aload0 dX0_init_16 ?_
  refine wp_iconst dX0_init_17 ?_
  refine wp_iconst dX0_init_18 ?_
  refine c_mna 73 76 rfl rfl dX0_init_19 rfl kl_RX0_9 ⟨by decide, by decide⟩ ⟨by decide, by decide⟩ rfl (by decide +kernel) zh2 (by decide) ok (Nat.le_of_ble_eq_true rfl) ?_
  have zg3 := (zZg.gr zg2 (Nat.le_of_ble_eq_true rfl : 72 + 1 + 3 ≤ 76))
  have zh3 := (zZh.up zh2 (Nat.le_of_ble_eq_true rfl : 72 ≤ 76))
  refine wp_putrF dX0_init_23 fl_RX0_16 ⟨rfl, by decide, by decide⟩ rfl rfl rfl ?_
  have zg4 := (zZg.ug (a := 7) (k := 6) (v := 73) zg3 (Nat.le_of_ble_eq_true rfl : 7 ≤ 76))
  have zh4 := zh3
  refine w_aload0 dX0_init_26 ?_
  refine wp_bipush dX0_init_27 (by decide) ?_
  refine c_newa 77 rfl dX0_init_29 ⟨by decide, by decide⟩ rfl zh4 (by decide) ok (Nat.le_of_ble_eq_true rfl) ?_
  have zg5 := (zZg.up zg4 (Nat.le_of_ble_eq_true rfl : 76 ≤ 77))
  have zh5 := (zZh.up zh4 (Nat.le_of_ble_eq_true rfl : 76 ≤ 77))
  refine wp_putrF dX0_init_31 fl_RX0_19 ⟨rfl, by decide, by decide⟩ rfl rfl rfl ?_
  have zg6 := (zZg.ug (a := 7) (k := 7) (v := 77) zg5 (Nat.le_of_ble_eq_true rfl : 7 ≤ 77))
  have zh6 := zh5
  refine w_aload0 dX0_init_34 ?_
  refine w_aload1 dX0_init_35 ?_
  refine wp_putrF dX0_init_36 fl_RX0_23 ⟨rfl, by decide, by decide⟩ rfl rfl rfl ?_
  have zg7 := (zZg.ug (a := 7) (k := 4) (v := 2) zg6 (Nat.le_of_ble_eq_true rfl : 7 ≤ 77))
  have zh7 := zh6
  exact c_ret dX0_init_39 rfl ok rfl rfl rfl rfl
theorem zg_X0_init_7 {g : zG} (zg : zZg 7 g) : zZg 77 (zug (zug (zug (zgr (zug (zgr g 7 64) 7 5 8) 72 3) 7 6 73) 7 7 77) 7 4 2) := by
  have zg1 := (zZg.gr zg (Nat.le_of_ble_eq_true rfl : 7 + 1 + 64 ≤ 72))
  have zg2 := (zZg.ug (a := 7) (k := 5) (v := 8) zg1 (Nat.le_of_ble_eq_true rfl : 7 ≤ 72))
  have zg3 := (zZg.gr zg2 (Nat.le_of_ble_eq_true rfl : 72 + 1 + 3 ≤ 76))
  have zg4 := (zZg.ug (a := 7) (k := 6) (v := 73) zg3 (Nat.le_of_ble_eq_true rfl : 7 ≤ 76))
  have zg5 := (zZg.up zg4 (Nat.le_of_ble_eq_true rfl : 76 ≤ 77))
  have zg6 := (zZg.ug (a := 7) (k := 7) (v := 77) zg5 (Nat.le_of_ble_eq_true rfl : 7 ≤ 77))
  have zg7 := (zZg.ug (a := 7) (k := 4) (v := 2) zg6 (Nat.le_of_ble_eq_true rfl : 7 ≤ 77))
  exact zg7
theorem zh_X0_init_7 {h : zH} (zh : zZh 7 h) : zZh 77 h := by
  have zh1 := (zZh.up zh (Nat.le_of_ble_eq_true rfl : 7 ≤ 72))
  have zh2 := zh1
  have zh3 := (zZh.up zh2 (Nat.le_of_ble_eq_true rfl : 72 ≤ 76))
  have zh4 := zh3
  have zh5 := (zZh.up zh4 (Nat.le_of_ble_eq_true rfl : 76 ≤ 77))
  have zh6 := zh5
  have zh7 := zh6
  exact zh7
def mcX5_init (n : Nat) : zM := (RX5, cX5_init, 3, none, true, 2, 17, 298, n, none)
theorem okX5_init_78 : zOK (mcX5_init 78) := by unfold zOK; decide +kernel
def mcX7_init (n : Nat) : zM := (RX7, cX7_init, 1, none, true, 1, 12, 168, n, none)
theorem okX7_init_79 : zOK (mcX7_init 79) := by unfold zOK; decide +kernel
set_option maxRecDepth 100000 in
set_option maxHeartbeats 4000000 in
theorem t_X7_init_79 {g : zG} {h : zH} (zg : zZg 79 g) (zh : zZh 79 h) : CALL yX7_init (mcX7_init 79) [vR 79] g h (fun r n' g' h' => r = none ∧ n' = 91 ∧ g' = (zug (zug (zgr (zug (zug g 79 1 80) 79 2 81) 81 8) 79 3 82) 79 4 91) ∧ h' = h) := by
  have ok := okX7_init_79
  refine CALL_intro (M := mcX7_init 79) (miX7_init _ _ _ _) rfl (by decide) ?_
  show WP (mcX7_init 79) _ 0 [some (vR 79)] [] 79 g h
  refine w_aload0 dX7_init_0 ?_
  refine wp_oi dX7_init_1 oi_RX7 ⟨rfl, by decide, by decide⟩ (by decide) (by decide) (by decide) ?_
  refine w_aload0 dX7_init_4 ?_
  refine wp_bipush dX7_init_5 (by decide) ?_
  refine c_newa 80 rfl dX7_init_7 ⟨by decide, by decide⟩ rfl zh (by decide) ok (Nat.le_of_ble_eq_true rfl) ?_
  have zg1 := (zZg.up zg (Nat.le_of_ble_eq_true rfl : 79 ≤ 80))
  have zh1 := (zZh.up zh (Nat.le_of_ble_eq_true rfl : 79 ≤ 80))
  refine wp_putrF dX7_init_9 fl_RX7_9 ⟨rfl, by decide, by decide⟩ rfl rfl rfl ?_
  have zg2 := (zZg.ug (a := 79) (k := 1) (v := 80) zg1 (Nat.le_of_ble_eq_true rfl : 79 ≤ 80))
  have zh2 := zh1
  refine w_aload0 dX7_init_12 ?_
  refine wp_bipush dX7_init_13 (by decide) ?_
  refine c_newa 81 rfl dX7_init_15 ⟨by decide, by decide⟩ rfl zh2 (by decide) ok (Nat.le_of_ble_eq_true rfl) ?_
  have zg3 := (zZg.up zg2 (Nat.le_of_ble_eq_true rfl : 80 ≤ 81))
  have zh3 := (zZh.up zh2 (Nat.le_of_ble_eq_true rfl : 80 ≤ 81))
  refine wp_putrF dX7_init_17 fl_RX7_15 ⟨rfl, by decide, by decide⟩ rfl rfl rfl ?_
  have zg4 := (zZg.ug (a := 79) (k := 2) (v := 81) zg3 (Nat.le_of_ble_eq_true rfl : 79 ≤ 81))
  have zh4 := zh3
  refine w_aload0 dX7_init_20 ?_
  refine wp_bipush dX7_init_21 (by decide) ?_
  refine wp_bipush dX7_init_23 (by decide) ?_
  refine c_mna 82 90 rfl rfl dX7_init_25 rfl kl_RX7_18 ⟨by decide, by decide⟩ ⟨by decide, by decide⟩ rfl (by decide +kernel) zh4 (by decide) ok (Nat.le_of_ble_eq_true rfl) ?_
  have zg5 := (zZg.gr zg4 (Nat.le_of_ble_eq_true rfl : 81 + 1 + 8 ≤ 90))
  have zh5 := (zZh.up zh4 (Nat.le_of_ble_eq_true rfl : 81 ≤ 90))
  refine wp_putrF dX7_init_29 fl_RX7_20 ⟨rfl, by decide, by decide⟩ rfl rfl rfl ?_
  have zg6 := (zZg.ug (a := 79) (k := 3) (v := 82) zg5 (Nat.le_of_ble_eq_true rfl : 79 ≤ 90))
  have zh6 := zh5
  refine w_aload0 dX7_init_32 ?_
  refine wp_bipush dX7_init_33 (by decide) ?_
  refine c_newa 91 rfl dX7_init_35 ⟨by decide, by decide⟩ rfl zh6 (by decide) ok (Nat.le_of_ble_eq_true rfl) ?_
  have zg7 := (zZg.up zg6 (Nat.le_of_ble_eq_true rfl : 90 ≤ 91))
  have zh7 := (zZh.up zh6 (Nat.le_of_ble_eq_true rfl : 90 ≤ 91))
  refine wp_putrF dX7_init_37 fl_RX7_23 ⟨rfl, by decide, by decide⟩ rfl rfl rfl ?_
  have zg8 := (zZg.ug (a := 79) (k := 4) (v := 91) zg7 (Nat.le_of_ble_eq_true rfl : 79 ≤ 91))
  have zh8 := zh7
  exact c_ret dX7_init_40 rfl ok rfl rfl rfl rfl
theorem zg_X7_init_79 {g : zG} (zg : zZg 79 g) : zZg 91 (zug (zug (zgr (zug (zug g 79 1 80) 79 2 81) 81 8) 79 3 82) 79 4 91) := by
  have zg1 := (zZg.up zg (Nat.le_of_ble_eq_true rfl : 79 ≤ 80))
  have zg2 := (zZg.ug (a := 79) (k := 1) (v := 80) zg1 (Nat.le_of_ble_eq_true rfl : 79 ≤ 80))
  have zg3 := (zZg.up zg2 (Nat.le_of_ble_eq_true rfl : 80 ≤ 81))
  have zg4 := (zZg.ug (a := 79) (k := 2) (v := 81) zg3 (Nat.le_of_ble_eq_true rfl : 79 ≤ 81))
  have zg5 := (zZg.gr zg4 (Nat.le_of_ble_eq_true rfl : 81 + 1 + 8 ≤ 90))
  have zg6 := (zZg.ug (a := 79) (k := 3) (v := 82) zg5 (Nat.le_of_ble_eq_true rfl : 79 ≤ 90))
  have zg7 := (zZg.up zg6 (Nat.le_of_ble_eq_true rfl : 90 ≤ 91))
  have zg8 := (zZg.ug (a := 79) (k := 4) (v := 91) zg7 (Nat.le_of_ble_eq_true rfl : 79 ≤ 91))
  exact zg8
theorem zh_X7_init_79 {h : zH} (zh : zZh 79 h) : zZh 91 h := by
  have zh1 := (zZh.up zh (Nat.le_of_ble_eq_true rfl : 79 ≤ 80))
  have zh2 := zh1
  have zh3 := (zZh.up zh2 (Nat.le_of_ble_eq_true rfl : 80 ≤ 81))
  have zh4 := zh3
  have zh5 := (zZh.up zh4 (Nat.le_of_ble_eq_true rfl : 81 ≤ 90))
  have zh6 := zh5
  have zh7 := (zZh.up zh6 (Nat.le_of_ble_eq_true rfl : 90 ≤ 91))
  have zh8 := zh7
  exact zh8
set_option maxRecDepth 100000 in
set_option maxHeartbeats 4000000 in
theorem t_X5_init_78 {g : zG} {h : zH} (zg : zZg 78 g) (zh : zZh 78 h) : CALL yX5_init (mcX5_init 78) [vR 78, vR 2, vR 7] g h (fun r n' g' h' => r = none ∧ n' = 95 ∧ g' = (zug (zug (zug (zug (zug (zug (zug (zug (zug (zgr (zug (zug g 79 1 80) 79 2 81) 81 8) 79 3 82) 79 4 91) 78 8 79) 78 9 92) 78 10 93) 78 11 94) 78 12 95) 78 6 2) 78 7 7) ∧ h' = h) := by
  have ok := okX5_init_78
  refine CALL_intro (M := mcX5_init 78) (miX5_init _ _ _ _) rfl (by decide) ?_
  show WP (mcX5_init 78) _ 0 [some (vR 78), some (vR 2), some (vR 7)] [] 78 g h
  refine w_aload0 dX5_init_0 ?_
  refine wp_oi dX5_init_1 oi_RX5 ⟨rfl, by decide, by decide⟩ (by decide) (by decide) (by decide) ?_
  refine w_aload0 dX5_init_4 ?_
  refine c_new (ci := 6) 79 rfl dX5_init_5 (by decide) rfl kl_RX5_9 ki_6 kn_6 rfl zg zh (by decide) ok (Nat.le_of_ble_eq_true rfl) ?_
  have zg1 := (zZg.up zg (Nat.le_of_ble_eq_true rfl : 78 ≤ 79))
  have zh1 := (zZh.up zh (Nat.le_of_ble_eq_true rfl : 78 ≤ 79))
  refine wp_dup dX5_init_8 rfl ?_
  refine c_callI (As := []) (np := 0) (M' := mcX7_init 79) 91 rfl dX5_init_9 lk_RX5_11 (miX7_init _ _ _ _) rfl rfl mjX7_init rfl (by decide) ⟨rfl, by decide, by decide⟩ (by decide) rfl ok (okX7_init_79) (Nat.le_of_ble_eq_true rfl) (Or.inl rfl) (Nat.le_of_ble_eq_true rfl) rfl (t_X7_init_79 zg1 zh1) ?_
  have zg2 := (zg_X7_init_79 zg1)
  have zh2 := (zh_X7_init_79 zh1)
  refine wp_putrF dX5_init_12 fl_RX5_12 ⟨rfl, by decide, by decide⟩ rfl rfl rfl ?_
  have zg3 := (zZg.ug (a := 78) (k := 8) (v := 79) zg2 (Nat.le_of_ble_eq_true rfl : 78 ≤ 91))
  have zh3 := zh2
  refine w_aload0 dX5_init_15 ?_
  refine wp_bipush dX5_init_16 (by decide) ?_
  refine c_newa 92 rfl dX5_init_18 ⟨by decide, by decide⟩ rfl zh3 (by decide) ok (Nat.le_of_ble_eq_true rfl) ?_
  have zg4 := (zZg.up zg3 (Nat.le_of_ble_eq_true rfl : 91 ≤ 92))
  have zh4 := (zZh.up zh3 (Nat.le_of_ble_eq_true rfl : 91 ≤ 92))
  refine wp_putrF dX5_init_20 fl_RX5_18 ⟨rfl, by decide, by decide⟩ rfl rfl rfl ?_
  have zg5 := (zZg.ug (a := 78) (k := 9) (v := 92) zg4 (Nat.le_of_ble_eq_true rfl : 78 ≤ 92))
  have zh5 := zh4
  refine w_aload0 dX5_init_23 ?_
  refine wp_bipush dX5_init_24 (by decide) ?_
  refine c_newa 93 rfl dX5_init_26 ⟨by decide, by decide⟩ rfl zh5 (by decide) ok (Nat.le_of_ble_eq_true rfl) ?_
  have zg6 := (zZg.up zg5 (Nat.le_of_ble_eq_true rfl : 92 ≤ 93))
  have zh6 := (zZh.up zh5 (Nat.le_of_ble_eq_true rfl : 92 ≤ 93))
  refine wp_putrF dX5_init_28 fl_RX5_22 ⟨rfl, by decide, by decide⟩ rfl rfl rfl ?_
  have zg7 := (zZg.ug (a := 78) (k := 10) (v := 93) zg6 (Nat.le_of_ble_eq_true rfl : 78 ≤ 93))
  have zh7 := zh6
  refine w_aload0 dX5_init_31 ?_
  refine wp_bipush dX5_init_32 (by decide) ?_
  refine c_newa 94 rfl dX5_init_34 ⟨by decide, by decide⟩ rfl zh7 (by decide) ok (Nat.le_of_ble_eq_true rfl) ?_
  have zg8 := (zZg.up zg7 (Nat.le_of_ble_eq_true rfl : 93 ≤ 94))
  have zh8 := (zZh.up zh7 (Nat.le_of_ble_eq_true rfl : 93 ≤ 94))
  refine wp_putrF dX5_init_36 fl_RX5_25 ⟨rfl, by decide, by decide⟩ rfl rfl rfl ?_
  have zg9 := (zZg.ug (a := 78) (k := 11) (v := 94) zg8 (Nat.le_of_ble_eq_true rfl : 78 ≤ 94))
  have zh9 := zh8
  refine w_aload0 dX5_init_39 ?_
  refine wp_bipush dX5_init_40 (by decide) ?_
  refine c_newa 95 rfl dX5_init_42 ⟨by decide, by decide⟩ rfl zh9 (by decide) ok (Nat.le_of_ble_eq_true rfl) ?_
  have zg10 := (zZg.up zg9 (Nat.le_of_ble_eq_true rfl : 94 ≤ 95))
  have zh10 := (zZh.up zh9 (Nat.le_of_ble_eq_true rfl : 94 ≤ 95))
  refine wp_putrF dX5_init_44 fl_RX5_28 ⟨rfl, by decide, by decide⟩ rfl rfl rfl ?_
  have zg11 := (zZg.ug (a := 78) (k := 12) (v := 95) zg10 (Nat.le_of_ble_eq_true rfl : 78 ≤ 95))
  have zh11 := zh10
  refine w_aload0 dX5_init_47 ?_
  refine w_aload1 dX5_init_48 ?_
  refine wp_putrF dX5_init_49 fl_RX5_31 ⟨rfl, by decide, by decide⟩ rfl rfl rfl ?_
  have zg12 := (zZg.ug (a := 78) (k := 6) (v := 2) zg11 (Nat.le_of_ble_eq_true rfl : 78 ≤ 95))
  have zh12 := zh11
  refine w_aload0 dX5_init_52 ?_
  refine w_aload2 dX5_init_53 ?_
  refine wp_putrF dX5_init_54 fl_RX5_35 ⟨rfl, by decide, by decide⟩ rfl rfl rfl ?_
  have zg13 := (zZg.ug (a := 78) (k := 7) (v := 7) zg12 (Nat.le_of_ble_eq_true rfl : 78 ≤ 95))
  have zh13 := zh12
  exact c_ret dX5_init_57 rfl ok rfl rfl rfl rfl
theorem zg_X5_init_78 {g : zG} (zg : zZg 78 g) : zZg 95 (zug (zug (zug (zug (zug (zug (zug (zug (zug (zgr (zug (zug g 79 1 80) 79 2 81) 81 8) 79 3 82) 79 4 91) 78 8 79) 78 9 92) 78 10 93) 78 11 94) 78 12 95) 78 6 2) 78 7 7) := by
  have zg1 := (zZg.up zg (Nat.le_of_ble_eq_true rfl : 78 ≤ 79))
  have zg2 := (zg_X7_init_79 zg1)
  have zg3 := (zZg.ug (a := 78) (k := 8) (v := 79) zg2 (Nat.le_of_ble_eq_true rfl : 78 ≤ 91))
  have zg4 := (zZg.up zg3 (Nat.le_of_ble_eq_true rfl : 91 ≤ 92))
  have zg5 := (zZg.ug (a := 78) (k := 9) (v := 92) zg4 (Nat.le_of_ble_eq_true rfl : 78 ≤ 92))
  have zg6 := (zZg.up zg5 (Nat.le_of_ble_eq_true rfl : 92 ≤ 93))
  have zg7 := (zZg.ug (a := 78) (k := 10) (v := 93) zg6 (Nat.le_of_ble_eq_true rfl : 78 ≤ 93))
  have zg8 := (zZg.up zg7 (Nat.le_of_ble_eq_true rfl : 93 ≤ 94))
  have zg9 := (zZg.ug (a := 78) (k := 11) (v := 94) zg8 (Nat.le_of_ble_eq_true rfl : 78 ≤ 94))
  have zg10 := (zZg.up zg9 (Nat.le_of_ble_eq_true rfl : 94 ≤ 95))
  have zg11 := (zZg.ug (a := 78) (k := 12) (v := 95) zg10 (Nat.le_of_ble_eq_true rfl : 78 ≤ 95))
  have zg12 := (zZg.ug (a := 78) (k := 6) (v := 2) zg11 (Nat.le_of_ble_eq_true rfl : 78 ≤ 95))
  have zg13 := (zZg.ug (a := 78) (k := 7) (v := 7) zg12 (Nat.le_of_ble_eq_true rfl : 78 ≤ 95))
  exact zg13
theorem zh_X5_init_78 {h : zH} (zh : zZh 78 h) : zZh 95 h := by
  have zh1 := (zZh.up zh (Nat.le_of_ble_eq_true rfl : 78 ≤ 79))
  have zh2 := (zh_X7_init_79 zh1)
  have zh3 := zh2
  have zh4 := (zZh.up zh3 (Nat.le_of_ble_eq_true rfl : 91 ≤ 92))
  have zh5 := zh4
  have zh6 := (zZh.up zh5 (Nat.le_of_ble_eq_true rfl : 92 ≤ 93))
  have zh7 := zh6
  have zh8 := (zZh.up zh7 (Nat.le_of_ble_eq_true rfl : 93 ≤ 94))
  have zh9 := zh8
  have zh10 := (zZh.up zh9 (Nat.le_of_ble_eq_true rfl : 94 ≤ 95))
  have zh11 := zh10
  have zh12 := zh11
  have zh13 := zh12
  exact zh13
def mcX8_init (n : Nat) : zM := (RX8, cX8_init, 1, none, true, 1, 2, 87, n, none)
theorem okX8_init_138 : zOK (mcX8_init 138) := by unfold zOK; decide +kernel
set_option maxRecDepth 100000 in
set_option maxHeartbeats 4000000 in
theorem t_X8_init_138 {g : zG} {h : zH} (zg : zZg 138 g) (zh : zZh 138 h) : CALL yX8_init (mcX8_init 138) [vR 138] g h (fun r n' g' h' => r = none ∧ n' = 140 ∧ g' = (zug (zug g 138 1 139) 138 2 140) ∧ h' = h) := by
  have ok := okX8_init_138
  refine CALL_intro (M := mcX8_init 138) (miX8_init _ _ _ _) rfl (by decide) ?_
  show WP (mcX8_init 138) _ 0 [some (vR 138)] [] 138 g h
  refine w_aload0 dX8_init_0 ?_
  refine wp_oi dX8_init_1 oi_RX8 ⟨rfl, by decide, by decide⟩ (by decide) (by decide) (by decide) ?_
  refine w_aload0 dX8_init_4 ?_
  refine wp_bipush dX8_init_5 (by decide) ?_
  refine c_newa 139 rfl dX8_init_7 ⟨by decide, by decide⟩ rfl zh (by decide) ok (Nat.le_of_ble_eq_true rfl) ?_
  have zg1 := (zZg.up zg (Nat.le_of_ble_eq_true rfl : 138 ≤ 139))
  have zh1 := (zZh.up zh (Nat.le_of_ble_eq_true rfl : 138 ≤ 139))
  refine wp_putrF dX8_init_9 fl_RX8_9 ⟨rfl, by decide, by decide⟩ rfl rfl rfl ?_
  have zg2 := (zZg.ug (a := 138) (k := 1) (v := 139) zg1 (Nat.le_of_ble_eq_true rfl : 138 ≤ 139))
  have zh2 := zh1
  refine w_aload0 dX8_init_12 ?_
  refine wp_bipush dX8_init_13 (by decide) ?_
  refine c_newa 140 rfl dX8_init_15 ⟨by decide, by decide⟩ rfl zh2 (by decide) ok (Nat.le_of_ble_eq_true rfl) ?_
  have zg3 := (zZg.up zg2 (Nat.le_of_ble_eq_true rfl : 139 ≤ 140))
  have zh3 := (zZh.up zh2 (Nat.le_of_ble_eq_true rfl : 139 ≤ 140))
  refine wp_putrF dX8_init_17 fl_RX8_15 ⟨rfl, by decide, by decide⟩ rfl rfl rfl ?_
  have zg4 := (zZg.ug (a := 138) (k := 2) (v := 140) zg3 (Nat.le_of_ble_eq_true rfl : 138 ≤ 140))
  have zh4 := zh3
  exact c_ret dX8_init_20 rfl ok rfl rfl rfl rfl
theorem zg_X8_init_138 {g : zG} (zg : zZg 138 g) : zZg 140 (zug (zug g 138 1 139) 138 2 140) := by
  have zg1 := (zZg.up zg (Nat.le_of_ble_eq_true rfl : 138 ≤ 139))
  have zg2 := (zZg.ug (a := 138) (k := 1) (v := 139) zg1 (Nat.le_of_ble_eq_true rfl : 138 ≤ 139))
  have zg3 := (zZg.up zg2 (Nat.le_of_ble_eq_true rfl : 139 ≤ 140))
  have zg4 := (zZg.ug (a := 138) (k := 2) (v := 140) zg3 (Nat.le_of_ble_eq_true rfl : 138 ≤ 140))
  exact zg4
theorem zh_X8_init_138 {h : zH} (zh : zZh 138 h) : zZh 140 h := by
  have zh1 := (zZh.up zh (Nat.le_of_ble_eq_true rfl : 138 ≤ 139))
  have zh2 := zh1
  have zh3 := (zZh.up zh2 (Nat.le_of_ble_eq_true rfl : 139 ≤ 140))
  have zh4 := zh3
  exact zh4
def mcX6_init (n : Nat) : zM := (RX6, cX6_init, 2, none, true, 1, 40, 1034, n, none)
theorem okX6_init_141 : zOK (mcX6_init 141) := by unfold zOK; decide +kernel
set_option maxRecDepth 100000 in
set_option maxHeartbeats 4000000 in
theorem t_X6_init_141 {g : zG} {h : zH} (zg : zZg 141 g) (zh : zZh 141 h) : CALL yX6_init (mcX6_init 141) [vR 141, vR 2] g h (fun r n' g' h' => r = none ∧ n' = 181 ∧ g' = (zug (zug (zgr (zug (zgr (zug (zgr g 141 31) 141 1 142) 173 3) 141 2 174) 177 3) 141 3 178) 141 0 2) ∧ h' = h) := by
  have ok := okX6_init_141
  refine CALL_intro (M := mcX6_init 141) (miX6_init _ _ _ _) rfl (by decide) ?_
  show WP (mcX6_init 141) _ 0 [some (vR 141), some (vR 2)] [] 141 g h
  refine w_aload0 dX6_init_0 ?_
  refine wp_oi dX6_init_1 oi_RX6 ⟨rfl, by decide, by decide⟩ (by decide) (by decide) (by decide) ?_
  refine w_aload0 dX6_init_4 ?_
  refine wp_bipush dX6_init_5 (by decide) ?_
  refine wp_bipush dX6_init_7 (by decide) ?_
  refine c_mna 142 173 rfl rfl dX6_init_9 rfl kl_RX6_9 ⟨by decide, by decide⟩ ⟨by decide, by decide⟩ rfl (by decide +kernel) zh (by decide) ok (Nat.le_of_ble_eq_true rfl) ?_
  have zg1 := (zZg.gr zg (Nat.le_of_ble_eq_true rfl : 141 + 1 + 31 ≤ 173))
  have zh1 := (zZh.up zh (Nat.le_of_ble_eq_true rfl : 141 ≤ 173))
  refine wp_putrF dX6_init_13 fl_RX6_11 ⟨rfl, by decide, by decide⟩ rfl rfl rfl ?_
  have zg2 := (zZg.ug (a := 141) (k := 1) (v := 142) zg1 (Nat.le_of_ble_eq_true rfl : 141 ≤ 173))
  have zh2 := zh1
  refine w_aload0 dX6_init_16 ?_
  refine wp_iconst dX6_init_17 ?_
  refine wp_bipush dX6_init_18 (by decide) ?_
  refine c_mna 174 177 rfl rfl dX6_init_20 rfl kl_RX6_9 ⟨by decide, by decide⟩ ⟨by decide, by decide⟩ rfl (by decide +kernel) zh2 (by decide) ok (Nat.le_of_ble_eq_true rfl) ?_
  have zg3 := (zZg.gr zg2 (Nat.le_of_ble_eq_true rfl : 173 + 1 + 3 ≤ 177))
  have zh3 := (zZh.up zh2 (Nat.le_of_ble_eq_true rfl : 173 ≤ 177))
  refine wp_putrF dX6_init_24 fl_RX6_16 ⟨rfl, by decide, by decide⟩ rfl rfl rfl ?_
  have zg4 := (zZg.ug (a := 141) (k := 2) (v := 174) zg3 (Nat.le_of_ble_eq_true rfl : 141 ≤ 177))
  have zh4 := zh3
  refine w_aload0 dX6_init_27 ?_
  refine wp_iconst dX6_init_28 ?_
  refine wp_iconst dX6_init_29 ?_
  refine c_mna 178 181 rfl rfl dX6_init_30 rfl kl_RX6_9 ⟨by decide, by decide⟩ ⟨by decide, by decide⟩ rfl (by decide +kernel) zh4 (by decide) ok (Nat.le_of_ble_eq_true rfl) ?_
  have zg5 := (zZg.gr zg4 (Nat.le_of_ble_eq_true rfl : 177 + 1 + 3 ≤ 181))
  have zh5 := (zZh.up zh4 (Nat.le_of_ble_eq_true rfl : 177 ≤ 181))
  refine wp_putrF dX6_init_34 fl_RX6_19 ⟨rfl, by decide, by decide⟩ rfl rfl rfl ?_
  have zg6 := (zZg.ug (a := 141) (k := 3) (v := 178) zg5 (Nat.le_of_ble_eq_true rfl : 141 ≤ 181))
  have zh6 := zh5
  refine w_aload0 dX6_init_37 ?_
  refine w_aload1 dX6_init_38 ?_
  refine wp_putrF dX6_init_39 fl_RX6_22 ⟨rfl, by decide, by decide⟩ rfl rfl rfl ?_
  have zg7 := (zZg.ug (a := 141) (k := 0) (v := 2) zg6 (Nat.le_of_ble_eq_true rfl : 141 ≤ 181))
  have zh7 := zh6
  exact c_ret dX6_init_42 rfl ok rfl rfl rfl rfl
theorem zg_X6_init_141 {g : zG} (zg : zZg 141 g) : zZg 181 (zug (zug (zgr (zug (zgr (zug (zgr g 141 31) 141 1 142) 173 3) 141 2 174) 177 3) 141 3 178) 141 0 2) := by
  have zg1 := (zZg.gr zg (Nat.le_of_ble_eq_true rfl : 141 + 1 + 31 ≤ 173))
  have zg2 := (zZg.ug (a := 141) (k := 1) (v := 142) zg1 (Nat.le_of_ble_eq_true rfl : 141 ≤ 173))
  have zg3 := (zZg.gr zg2 (Nat.le_of_ble_eq_true rfl : 173 + 1 + 3 ≤ 177))
  have zg4 := (zZg.ug (a := 141) (k := 2) (v := 174) zg3 (Nat.le_of_ble_eq_true rfl : 141 ≤ 177))
  have zg5 := (zZg.gr zg4 (Nat.le_of_ble_eq_true rfl : 177 + 1 + 3 ≤ 181))
  have zg6 := (zZg.ug (a := 141) (k := 3) (v := 178) zg5 (Nat.le_of_ble_eq_true rfl : 141 ≤ 181))
  have zg7 := (zZg.ug (a := 141) (k := 0) (v := 2) zg6 (Nat.le_of_ble_eq_true rfl : 141 ≤ 181))
  exact zg7
theorem zh_X6_init_141 {h : zH} (zh : zZh 141 h) : zZh 181 h := by
  have zh1 := (zZh.up zh (Nat.le_of_ble_eq_true rfl : 141 ≤ 173))
  have zh2 := zh1
  have zh3 := (zZh.up zh2 (Nat.le_of_ble_eq_true rfl : 173 ≤ 177))
  have zh4 := zh3
  have zh5 := (zZh.up zh4 (Nat.le_of_ble_eq_true rfl : 177 ≤ 181))
  have zh6 := zh5
  have zh7 := zh6
  exact zh7
set_option maxRecDepth 100000 in
set_option maxHeartbeats 4000000 in
theorem t_X9_init_1 {g : zG} {h : zH} (zg : zZg 1 g) (zh : zZh 1 h) : CALL yX9_init (mcX9_init 1) [vR 1] g h (fun r n' g' h' => r = none ∧ n' = 444 ∧ g' = (zug (zgX1 (zug (zug (zug (zug (zug (zgr (zug (zgr (zug (zgr (zug (zug (zug (zug (zgX2 (zug (zug (zug (zug (zug (zug (zug (zug (zug (zug (zgr (zug (zug (zug (zug (zug (zgr (zug (zgr (zug (zgr g 2 3) 2 1 3) 7 64) 7 5 8) 72 3) 7 6 73) 7 7 77) 7 4 2) 79 1 80) 79 2 81) 81 8) 79 3 82) 79 4 91) 78 8 79) 78 9 92) 78 10 93) 78 11 94) 78 12 95) 78 6 2) 78 7 7) 1 0 2) 8) 1 1 96) 138 1 139) 138 2 140) 1 2 138) 141 31) 141 1 142) 173 3) 141 2 174) 177 3) 141 3 178) 141 0 2) 1 3 141) 1 4 7) 1 5 78)) 1 6 182) ∧ h' = (zhX2 (zup h 2 0 31) 8)) := by
  have ok := okX9_init_1
  refine CALL_intro (M := mcX9_init 1) (miX9_init _ _ _ _) rfl (by decide) ?_
  show WP (mcX9_init 1) _ 0 [some (vR 1), none, none, none] [] 1 g h
  refine w_aload0 dX9_init_0 ?_
  refine wp_oi dX9_init_1 oi_RX9 ⟨rfl, by decide, by decide⟩ (by decide) (by decide) (by decide) ?_
  refine c_new (ci := 3) 2 rfl dX9_init_4 (by decide) rfl kl_RX9_7 ki_3 kn_3 rfl zg zh (by decide) ok (Nat.le_of_ble_eq_true rfl) ?_
  have zg1 := (zZg.up zg (Nat.le_of_ble_eq_true rfl : 1 ≤ 2))
  have zh1 := (zZh.up zh (Nat.le_of_ble_eq_true rfl : 1 ≤ 2))
  refine wp_dup dX9_init_7 rfl ?_
  refine c_callI (As := []) (np := 0) (M' := mcX4_init 2) 6 rfl dX9_init_8 lk_RX9_9 (miX4_init _ _ _ _) rfl rfl mjX4_init rfl (by decide) ⟨rfl, by decide, by decide⟩ (by decide) rfl ok (okX4_init_2) (Nat.le_of_ble_eq_true rfl) (Or.inl rfl) (Nat.le_of_ble_eq_true rfl) rfl (t_X4_init_2 zg1 zh1) ?_
  have zg2 := (zg_X4_init_2 zg1)
  have zh2 := (zh_X4_init_2 zh1)
  refine w_astore1 dX9_init_11 rfl (by decide) ?_
  refine c_new (ci := 0) 7 rfl dX9_init_12 (by decide) rfl kl_RX9_10 ki_0 kn_0 rfl zg2 zh2 (by decide) ok (Nat.le_of_ble_eq_true rfl) ?_
  have zg3 := (zZg.up zg2 (Nat.le_of_ble_eq_true rfl : 6 ≤ 7))
  have zh3 := (zZh.up zh2 (Nat.le_of_ble_eq_true rfl : 6 ≤ 7))
  refine wp_dup dX9_init_15 rfl ?_
  refine w_aload1 dX9_init_16 ?_
  refine c_callI (As := [vR 2]) (np := 1) (M' := mcX0_init 7) 77 rfl dX9_init_17 lk_RX9_12 (miX0_init _ _ _ _) rfl rfl mjX0_init rfl (by decide) ⟨rfl, by decide, by decide⟩ (by decide) rfl ok (okX0_init_7) (Nat.le_of_ble_eq_true rfl) (Or.inl rfl) (Nat.le_of_ble_eq_true rfl) rfl (t_X0_init_7 zg3 zh3) ?_
  have zg4 := (zg_X0_init_7 zg3)
  have zh4 := (zh_X0_init_7 zh3)
  refine w_astore2 dX9_init_20 rfl (by decide) ?_
  refine c_new (ci := 4) 78 rfl dX9_init_21 (by decide) rfl kl_RX9_15 ki_4 kn_4 rfl zg4 zh4 (by decide) ok (Nat.le_of_ble_eq_true rfl) ?_
  have zg5 := (zZg.up zg4 (Nat.le_of_ble_eq_true rfl : 77 ≤ 78))
  have zh5 := (zZh.up zh4 (Nat.le_of_ble_eq_true rfl : 77 ≤ 78))
  refine wp_dup dX9_init_24 rfl ?_
  refine w_aload1 dX9_init_25 ?_
  refine w_aload2 dX9_init_26 ?_
  refine c_callI (As := [vR 2, vR 7]) (np := 2) (M' := mcX5_init 78) 95 rfl dX9_init_27 lk_RX9_17 (miX5_init _ _ _ _) rfl rfl mjX5_init rfl (by decide) ⟨rfl, by decide, by decide⟩ (by decide) rfl ok (okX5_init_78) (Nat.le_of_ble_eq_true rfl) (Or.inl rfl) (Nat.le_of_ble_eq_true rfl) rfl (t_X5_init_78 zg5 zh5) ?_
  have zg6 := (zg_X5_init_78 zg5)
  have zh6 := (zh_X5_init_78 zh5)
  refine w_astore3 dX9_init_30 rfl (by decide) ?_
  refine w_aload0 dX9_init_31 ?_
  refine w_aload1 dX9_init_32 ?_
  refine wp_putrF dX9_init_33 fl_RX9_20 ⟨rfl, by decide, by decide⟩ rfl rfl rfl ?_
  have zg7 := (zZg.ug (a := 1) (k := 0) (v := 2) zg6 (Nat.le_of_ble_eq_true rfl : 1 ≤ 95))
  have zh7 := zh6
  refine w_aload0 dX9_init_36 ?_
  refine c_new (ci := 2) 96 rfl dX9_init_37 (by decide) rfl kl_RX9_26 ki_2 kn_2 rfl zg7 zh7 (by decide) ok (Nat.le_of_ble_eq_true rfl) ?_
  have zg8 := (zZg.up zg7 (Nat.le_of_ble_eq_true rfl : 95 ≤ 96))
  have zh8 := (zZh.up zh7 (Nat.le_of_ble_eq_true rfl : 95 ≤ 96))
  refine wp_dup dX9_init_40 rfl ?_
  refine c_callI (As := []) (np := 0) (M' := mcX2_init 96) 137 rfl dX9_init_41 lk_RX9_28 (miX2_init _ _ _ _) rfl rfl mjX2_init rfl (by decide) ⟨rfl, by decide, by decide⟩ (by decide) rfl ok (okX2_init_96) (Nat.le_of_ble_eq_true rfl) (Or.inl rfl) (Nat.le_of_ble_eq_true rfl) rfl (t_X2_init_96 zg8 zh8) ?_
  have zg9 := (zg_X2_init_96 zg8)
  have zh9 := (zh_X2_init_96 zh8)
  refine wp_putrF dX9_init_44 fl_RX9_29 ⟨rfl, by decide, by decide⟩ rfl rfl rfl ?_
  have zg10 := (zZg.ug (a := 1) (k := 1) (v := 96) zg9 (Nat.le_of_ble_eq_true rfl : 1 ≤ 137))
  have zh10 := zh9
  refine w_aload0 dX9_init_47 ?_
  refine c_new (ci := 7) 138 rfl dX9_init_48 (by decide) rfl kl_RX9_33 ki_7 kn_7 rfl zg10 zh10 (by decide) ok (Nat.le_of_ble_eq_true rfl) ?_
  have zg11 := (zZg.up zg10 (Nat.le_of_ble_eq_true rfl : 137 ≤ 138))
  have zh11 := (zZh.up zh10 (Nat.le_of_ble_eq_true rfl : 137 ≤ 138))
  refine wp_dup dX9_init_51 rfl ?_
  refine c_callI (As := []) (np := 0) (M' := mcX8_init 138) 140 rfl dX9_init_52 lk_RX9_35 (miX8_init _ _ _ _) rfl rfl mjX8_init rfl (by decide) ⟨rfl, by decide, by decide⟩ (by decide) rfl ok (okX8_init_138) (Nat.le_of_ble_eq_true rfl) (Or.inl rfl) (Nat.le_of_ble_eq_true rfl) rfl (t_X8_init_138 zg11 zh11) ?_
  have zg12 := (zg_X8_init_138 zg11)
  have zh12 := (zh_X8_init_138 zh11)
  refine wp_putrF dX9_init_55 fl_RX9_36 ⟨rfl, by decide, by decide⟩ rfl rfl rfl ?_
  have zg13 := (zZg.ug (a := 1) (k := 2) (v := 138) zg12 (Nat.le_of_ble_eq_true rfl : 1 ≤ 140))
  have zh13 := zh12
  refine w_aload0 dX9_init_58 ?_
  refine c_new (ci := 5) 141 rfl dX9_init_59 (by decide) rfl kl_RX9_40 ki_5 kn_5 rfl zg13 zh13 (by decide) ok (Nat.le_of_ble_eq_true rfl) ?_
  have zg14 := (zZg.up zg13 (Nat.le_of_ble_eq_true rfl : 140 ≤ 141))
  have zh14 := (zZh.up zh13 (Nat.le_of_ble_eq_true rfl : 140 ≤ 141))
  refine wp_dup dX9_init_62 rfl ?_
  refine w_aload1 dX9_init_63 ?_
  refine c_callI (As := [vR 2]) (np := 1) (M' := mcX6_init 141) 181 rfl dX9_init_64 lk_RX9_42 (miX6_init _ _ _ _) rfl rfl mjX6_init rfl (by decide) ⟨rfl, by decide, by decide⟩ (by decide) rfl ok (okX6_init_141) (Nat.le_of_ble_eq_true rfl) (Or.inl rfl) (Nat.le_of_ble_eq_true rfl) rfl (t_X6_init_141 zg14 zh14) ?_
  have zg15 := (zg_X6_init_141 zg14)
  have zh15 := (zh_X6_init_141 zh14)
  refine wp_putrF dX9_init_67 fl_RX9_43 ⟨rfl, by decide, by decide⟩ rfl rfl rfl ?_
  have zg16 := (zZg.ug (a := 1) (k := 3) (v := 141) zg15 (Nat.le_of_ble_eq_true rfl : 1 ≤ 181))
  have zh16 := zh15
  refine w_aload0 dX9_init_70 ?_
  refine w_aload2 dX9_init_71 ?_
  refine wp_putrF dX9_init_72 fl_RX9_47 ⟨rfl, by decide, by decide⟩ rfl rfl rfl ?_
  have zg17 := (zZg.ug (a := 1) (k := 4) (v := 7) zg16 (Nat.le_of_ble_eq_true rfl : 1 ≤ 181))
  have zh17 := zh16
  refine w_aload0 dX9_init_75 ?_
  refine w_aload3 dX9_init_76 ?_
  refine wp_putrF dX9_init_77 fl_RX9_51 ⟨rfl, by decide, by decide⟩ rfl rfl rfl ?_
  have zg18 := (zZg.ug (a := 1) (k := 5) (v := 78) zg17 (Nat.le_of_ble_eq_true rfl : 1 ≤ 181))
  have zh18 := zh17
  refine w_aload0 dX9_init_80 ?_
  refine c_new (ci := 1) 182 rfl dX9_init_81 (by decide) rfl kl_RX9_55 ki_1 kn_1 rfl zg18 zh18 (by decide) ok (Nat.le_of_ble_eq_true rfl) ?_
  have zg19 := (zZg.up zg18 (Nat.le_of_ble_eq_true rfl : 181 ≤ 182))
  have zh19 := (zZh.up zh18 (Nat.le_of_ble_eq_true rfl : 181 ≤ 182))
  refine wp_dup dX9_init_84 rfl ?_
  refine w_aload1 dX9_init_85 ?_
  refine w_aload2 dX9_init_86 ?_
  refine w_aload3 dX9_init_87 ?_
  refine c_callI (As := [vR 2, vR 7, vR 78]) (np := 3) (M' := mcX1_init 182) 444 rfl dX9_init_88 lk_RX9_57 (miX1_init _ _ _ _) rfl rfl mjX1_init rfl (by decide) ⟨rfl, by decide, by decide⟩ (by decide) rfl ok (okX1_init_182) (Nat.le_of_ble_eq_true rfl) (Or.inl rfl) (Nat.le_of_ble_eq_true rfl) rfl (t_X1_init_182 zg19 zh19) ?_
  have zg20 := (zg_X1_init_182 zg19)
  have zh20 := (zh_X1_init_182 zh19)
  refine wp_putrF dX9_init_91 fl_RX9_60 ⟨rfl, by decide, by decide⟩ rfl rfl rfl ?_
  have zg21 := (zZg.ug (a := 1) (k := 6) (v := 182) zg20 (Nat.le_of_ble_eq_true rfl : 1 ≤ 444))
  have zh21 := zh20
  exact c_ret dX9_init_94 rfl ok rfl rfl rfl rfl
theorem zg_X9_init_1 {g : zG} (zg : zZg 1 g) : zZg 444 (zug (zgX1 (zug (zug (zug (zug (zug (zgr (zug (zgr (zug (zgr (zug (zug (zug (zug (zgX2 (zug (zug (zug (zug (zug (zug (zug (zug (zug (zug (zgr (zug (zug (zug (zug (zug (zgr (zug (zgr (zug (zgr g 2 3) 2 1 3) 7 64) 7 5 8) 72 3) 7 6 73) 7 7 77) 7 4 2) 79 1 80) 79 2 81) 81 8) 79 3 82) 79 4 91) 78 8 79) 78 9 92) 78 10 93) 78 11 94) 78 12 95) 78 6 2) 78 7 7) 1 0 2) 8) 1 1 96) 138 1 139) 138 2 140) 1 2 138) 141 31) 141 1 142) 173 3) 141 2 174) 177 3) 141 3 178) 141 0 2) 1 3 141) 1 4 7) 1 5 78)) 1 6 182) := by
  have zg1 := (zZg.up zg (Nat.le_of_ble_eq_true rfl : 1 ≤ 2))
  have zg2 := (zg_X4_init_2 zg1)
  have zg3 := (zZg.up zg2 (Nat.le_of_ble_eq_true rfl : 6 ≤ 7))
  have zg4 := (zg_X0_init_7 zg3)
  have zg5 := (zZg.up zg4 (Nat.le_of_ble_eq_true rfl : 77 ≤ 78))
  have zg6 := (zg_X5_init_78 zg5)
  have zg7 := (zZg.ug (a := 1) (k := 0) (v := 2) zg6 (Nat.le_of_ble_eq_true rfl : 1 ≤ 95))
  have zg8 := (zZg.up zg7 (Nat.le_of_ble_eq_true rfl : 95 ≤ 96))
  have zg9 := (zg_X2_init_96 zg8)
  have zg10 := (zZg.ug (a := 1) (k := 1) (v := 96) zg9 (Nat.le_of_ble_eq_true rfl : 1 ≤ 137))
  have zg11 := (zZg.up zg10 (Nat.le_of_ble_eq_true rfl : 137 ≤ 138))
  have zg12 := (zg_X8_init_138 zg11)
  have zg13 := (zZg.ug (a := 1) (k := 2) (v := 138) zg12 (Nat.le_of_ble_eq_true rfl : 1 ≤ 140))
  have zg14 := (zZg.up zg13 (Nat.le_of_ble_eq_true rfl : 140 ≤ 141))
  have zg15 := (zg_X6_init_141 zg14)
  have zg16 := (zZg.ug (a := 1) (k := 3) (v := 141) zg15 (Nat.le_of_ble_eq_true rfl : 1 ≤ 181))
  have zg17 := (zZg.ug (a := 1) (k := 4) (v := 7) zg16 (Nat.le_of_ble_eq_true rfl : 1 ≤ 181))
  have zg18 := (zZg.ug (a := 1) (k := 5) (v := 78) zg17 (Nat.le_of_ble_eq_true rfl : 1 ≤ 181))
  have zg19 := (zZg.up zg18 (Nat.le_of_ble_eq_true rfl : 181 ≤ 182))
  have zg20 := (zg_X1_init_182 zg19)
  have zg21 := (zZg.ug (a := 1) (k := 6) (v := 182) zg20 (Nat.le_of_ble_eq_true rfl : 1 ≤ 444))
  exact zg21
theorem zh_X9_init_1 {h : zH} (zh : zZh 1 h) : zZh 444 (zhX2 (zup h 2 0 31) 8) := by
  have zh1 := (zZh.up zh (Nat.le_of_ble_eq_true rfl : 1 ≤ 2))
  have zh2 := (zh_X4_init_2 zh1)
  have zh3 := (zZh.up zh2 (Nat.le_of_ble_eq_true rfl : 6 ≤ 7))
  have zh4 := (zh_X0_init_7 zh3)
  have zh5 := (zZh.up zh4 (Nat.le_of_ble_eq_true rfl : 77 ≤ 78))
  have zh6 := (zh_X5_init_78 zh5)
  have zh7 := zh6
  have zh8 := (zZh.up zh7 (Nat.le_of_ble_eq_true rfl : 95 ≤ 96))
  have zh9 := (zh_X2_init_96 zh8)
  have zh10 := zh9
  have zh11 := (zZh.up zh10 (Nat.le_of_ble_eq_true rfl : 137 ≤ 138))
  have zh12 := (zh_X8_init_138 zh11)
  have zh13 := zh12
  have zh14 := (zZh.up zh13 (Nat.le_of_ble_eq_true rfl : 140 ≤ 141))
  have zh15 := (zh_X6_init_141 zh14)
  have zh16 := zh15
  have zh17 := zh16
  have zh18 := zh17
  have zh19 := (zZh.up zh18 (Nat.le_of_ble_eq_true rfl : 181 ≤ 182))
  have zh20 := (zh_X1_init_182 zh19)
  have zh21 := zh20
  exact zh21
def mcX10_init (n : Nat) : zM := (RX10, cX10_init, 1, none, true, 1, 22, 16478, n, none)
theorem okX10_init_445 : zOK (mcX10_init 445) := by unfold zOK; decide +kernel
set_option maxRecDepth 100000 in
set_option maxHeartbeats 4000000 in
theorem t_X10_init_445 {g : zG} {h : zH} (zg : zZg 445 g) (zh : zZh 445 h) : CALL yX10_init (mcX10_init 445) [vR 445] g h (fun r n' g' h' => r = none ∧ n' = 467 ∧ g' = (zug (zug (zug (zug (zug (zug (zug (zug (zug (zug (zug (zug (zug (zug (zug (zug (zug (zug (zug (zug (zug (zug g 445 0 446) 445 1 447) 445 3 448) 445 7 449) 445 12 450) 445 13 451) 445 14 452) 445 15 453) 445 16 454) 445 17 455) 445 23 456) 445 24 457) 445 26 458) 445 28 459) 445 29 460) 445 30 461) 445 31 462) 445 35 463) 445 36 464) 445 37 465) 445 38 466) 445 39 467) ∧ h' = (zup h 446 0 31)) := by
  have ok := okX10_init_445
  refine CALL_intro (M := mcX10_init 445) (miX10_init _ _ _ _) rfl (by decide) ?_
  show WP (mcX10_init 445) _ 0 [some (vR 445)] [] 445 g h
  refine w_aload0 dX10_init_0 ?_
  refine wp_oi dX10_init_1 oi_RX10 ⟨rfl, by decide, by decide⟩ (by decide) (by decide) (by decide) ?_
  refine w_aload0 dX10_init_4 ?_
  refine wp_bipush dX10_init_5 (by decide) ?_
  refine c_newa 446 rfl dX10_init_7 ⟨by decide, by decide⟩ rfl zh (by decide) ok (Nat.le_of_ble_eq_true rfl) ?_
  have zg1 := (zZg.up zg (Nat.le_of_ble_eq_true rfl : 445 ≤ 446))
  have zh1 := (zZh.up zh (Nat.le_of_ble_eq_true rfl : 445 ≤ 446))
  refine wp_putrF dX10_init_9 fl_RX10_7 ⟨rfl, by decide, by decide⟩ rfl rfl rfl ?_
  have zg2 := (zZg.ug (a := 445) (k := 0) (v := 446) zg1 (Nat.le_of_ble_eq_true rfl : 445 ≤ 446))
  have zh2 := zh1
  refine w_aload0 dX10_init_12 ?_
  refine wp_sipush dX10_init_13 (by decide) ?_
  refine c_newa 447 rfl dX10_init_16 ⟨by decide, by decide⟩ rfl zh2 (by decide) ok (Nat.le_of_ble_eq_true rfl) ?_
  have zg3 := (zZg.up zg2 (Nat.le_of_ble_eq_true rfl : 446 ≤ 447))
  have zh3 := (zZh.up zh2 (Nat.le_of_ble_eq_true rfl : 446 ≤ 447))
  refine wp_putrF dX10_init_18 fl_RX10_13 ⟨rfl, by decide, by decide⟩ rfl rfl rfl ?_
  have zg4 := (zZg.ug (a := 445) (k := 1) (v := 447) zg3 (Nat.le_of_ble_eq_true rfl : 445 ≤ 447))
  have zh4 := zh3
  refine w_aload0 dX10_init_21 ?_
  refine wp_bipush dX10_init_22 (by decide) ?_
  refine c_newa 448 rfl dX10_init_24 ⟨by decide, by decide⟩ rfl zh4 (by decide) ok (Nat.le_of_ble_eq_true rfl) ?_
  have zg5 := (zZg.up zg4 (Nat.le_of_ble_eq_true rfl : 447 ≤ 448))
  have zh5 := (zZh.up zh4 (Nat.le_of_ble_eq_true rfl : 447 ≤ 448))
  refine wp_putrF dX10_init_26 fl_RX10_16 ⟨rfl, by decide, by decide⟩ rfl rfl rfl ?_
  have zg6 := (zZg.ug (a := 445) (k := 3) (v := 448) zg5 (Nat.le_of_ble_eq_true rfl : 445 ≤ 448))
  have zh6 := zh5
  refine w_aload0 dX10_init_29 ?_
  refine wp_bipush dX10_init_30 (by decide) ?_
  refine c_newa 449 rfl dX10_init_32 ⟨by decide, by decide⟩ rfl zh6 (by decide) ok (Nat.le_of_ble_eq_true rfl) ?_
  have zg7 := (zZg.up zg6 (Nat.le_of_ble_eq_true rfl : 448 ≤ 449))
  have zh7 := (zZh.up zh6 (Nat.le_of_ble_eq_true rfl : 448 ≤ 449))
  refine wp_putrF dX10_init_34 fl_RX10_19 ⟨rfl, by decide, by decide⟩ rfl rfl rfl ?_
  have zg8 := (zZg.ug (a := 445) (k := 7) (v := 449) zg7 (Nat.le_of_ble_eq_true rfl : 445 ≤ 449))
  have zh8 := zh7
  refine w_aload0 dX10_init_37 ?_
  refine wp_bipush dX10_init_38 (by decide) ?_
  refine c_newa 450 rfl dX10_init_40 ⟨by decide, by decide⟩ rfl zh8 (by decide) ok (Nat.le_of_ble_eq_true rfl) ?_
  have zg9 := (zZg.up zg8 (Nat.le_of_ble_eq_true rfl : 449 ≤ 450))
  have zh9 := (zZh.up zh8 (Nat.le_of_ble_eq_true rfl : 449 ≤ 450))
  refine wp_putrF dX10_init_42 fl_RX10_22 ⟨rfl, by decide, by decide⟩ rfl rfl rfl ?_
  have zg10 := (zZg.ug (a := 445) (k := 12) (v := 450) zg9 (Nat.le_of_ble_eq_true rfl : 445 ≤ 450))
  have zh10 := zh9
  refine w_aload0 dX10_init_45 ?_
  refine wp_bipush dX10_init_46 (by decide) ?_
  refine c_newa 451 rfl dX10_init_48 ⟨by decide, by decide⟩ rfl zh10 (by decide) ok (Nat.le_of_ble_eq_true rfl) ?_
  have zg11 := (zZg.up zg10 (Nat.le_of_ble_eq_true rfl : 450 ≤ 451))
  have zh11 := (zZh.up zh10 (Nat.le_of_ble_eq_true rfl : 450 ≤ 451))
  refine wp_putrF dX10_init_50 fl_RX10_25 ⟨rfl, by decide, by decide⟩ rfl rfl rfl ?_
  have zg12 := (zZg.ug (a := 445) (k := 13) (v := 451) zg11 (Nat.le_of_ble_eq_true rfl : 445 ≤ 451))
  have zh12 := zh11
  refine w_aload0 dX10_init_53 ?_
  refine wp_sipush dX10_init_54 (by decide) ?_
  refine c_newa 452 rfl dX10_init_57 ⟨by decide, by decide⟩ rfl zh12 (by decide) ok (Nat.le_of_ble_eq_true rfl) ?_
  have zg13 := (zZg.up zg12 (Nat.le_of_ble_eq_true rfl : 451 ≤ 452))
  have zh13 := (zZh.up zh12 (Nat.le_of_ble_eq_true rfl : 451 ≤ 452))
  refine wp_putrF dX10_init_59 fl_RX10_28 ⟨rfl, by decide, by decide⟩ rfl rfl rfl ?_
  have zg14 := (zZg.ug (a := 445) (k := 14) (v := 452) zg13 (Nat.le_of_ble_eq_true rfl : 445 ≤ 452))
  have zh14 := zh13
  refine w_aload0 dX10_init_62 ?_
  refine wp_sipush dX10_init_63 (by decide) ?_
  refine c_newa 453 rfl dX10_init_66 ⟨by decide, by decide⟩ rfl zh14 (by decide) ok (Nat.le_of_ble_eq_true rfl) ?_
  have zg15 := (zZg.up zg14 (Nat.le_of_ble_eq_true rfl : 452 ≤ 453))
  have zh15 := (zZh.up zh14 (Nat.le_of_ble_eq_true rfl : 452 ≤ 453))
  refine wp_putrF dX10_init_68 fl_RX10_31 ⟨rfl, by decide, by decide⟩ rfl rfl rfl ?_
  have zg16 := (zZg.ug (a := 445) (k := 15) (v := 453) zg15 (Nat.le_of_ble_eq_true rfl : 445 ≤ 453))
  have zh16 := zh15
  refine w_aload0 dX10_init_71 ?_
  refine wp_sipush dX10_init_72 (by decide) ?_
  refine c_newa 454 rfl dX10_init_75 ⟨by decide, by decide⟩ rfl zh16 (by decide) ok (Nat.le_of_ble_eq_true rfl) ?_
  have zg17 := (zZg.up zg16 (Nat.le_of_ble_eq_true rfl : 453 ≤ 454))
  have zh17 := (zZh.up zh16 (Nat.le_of_ble_eq_true rfl : 453 ≤ 454))
  refine wp_putrF dX10_init_77 fl_RX10_34 ⟨rfl, by decide, by decide⟩ rfl rfl rfl ?_
  have zg18 := (zZg.ug (a := 445) (k := 16) (v := 454) zg17 (Nat.le_of_ble_eq_true rfl : 445 ≤ 454))
  have zh18 := zh17
  refine w_aload0 dX10_init_80 ?_
  refine wp_bipush dX10_init_81 (by decide) ?_
  refine c_newa 455 rfl dX10_init_83 ⟨by decide, by decide⟩ rfl zh18 (by decide) ok (Nat.le_of_ble_eq_true rfl) ?_
  have zg19 := (zZg.up zg18 (Nat.le_of_ble_eq_true rfl : 454 ≤ 455))
  have zh19 := (zZh.up zh18 (Nat.le_of_ble_eq_true rfl : 454 ≤ 455))
  refine wp_putrF dX10_init_85 fl_RX10_37 ⟨rfl, by decide, by decide⟩ rfl rfl rfl ?_
  have zg20 := (zZg.ug (a := 445) (k := 17) (v := 455) zg19 (Nat.le_of_ble_eq_true rfl : 445 ≤ 455))
  have zh20 := zh19
  refine w_aload0 dX10_init_88 ?_
  refine wp_bipush dX10_init_89 (by decide) ?_
  refine c_newa 456 rfl dX10_init_91 ⟨by decide, by decide⟩ rfl zh20 (by decide) ok (Nat.le_of_ble_eq_true rfl) ?_
  have zg21 := (zZg.up zg20 (Nat.le_of_ble_eq_true rfl : 455 ≤ 456))
  have zh21 := (zZh.up zh20 (Nat.le_of_ble_eq_true rfl : 455 ≤ 456))
  refine wp_putrF dX10_init_93 fl_RX10_40 ⟨rfl, by decide, by decide⟩ rfl rfl rfl ?_
  have zg22 := (zZg.ug (a := 445) (k := 23) (v := 456) zg21 (Nat.le_of_ble_eq_true rfl : 445 ≤ 456))
  have zh22 := zh21
  refine w_aload0 dX10_init_96 ?_
  refine wp_bipush dX10_init_97 (by decide) ?_
  refine c_newa 457 rfl dX10_init_99 ⟨by decide, by decide⟩ rfl zh22 (by decide) ok (Nat.le_of_ble_eq_true rfl) ?_
  have zg23 := (zZg.up zg22 (Nat.le_of_ble_eq_true rfl : 456 ≤ 457))
  have zh23 := (zZh.up zh22 (Nat.le_of_ble_eq_true rfl : 456 ≤ 457))
  refine wp_putrF dX10_init_101 fl_RX10_43 ⟨rfl, by decide, by decide⟩ rfl rfl rfl ?_
  have zg24 := (zZg.ug (a := 445) (k := 24) (v := 457) zg23 (Nat.le_of_ble_eq_true rfl : 445 ≤ 457))
  have zh24 := zh23
  refine w_aload0 dX10_init_104 ?_
  refine wp_bipush dX10_init_105 (by decide) ?_
  refine c_newa 458 rfl dX10_init_107 ⟨by decide, by decide⟩ rfl zh24 (by decide) ok (Nat.le_of_ble_eq_true rfl) ?_
  have zg25 := (zZg.up zg24 (Nat.le_of_ble_eq_true rfl : 457 ≤ 458))
  have zh25 := (zZh.up zh24 (Nat.le_of_ble_eq_true rfl : 457 ≤ 458))
  refine wp_putrF dX10_init_109 fl_RX10_46 ⟨rfl, by decide, by decide⟩ rfl rfl rfl ?_
  have zg26 := (zZg.ug (a := 445) (k := 26) (v := 458) zg25 (Nat.le_of_ble_eq_true rfl : 445 ≤ 458))
  have zh26 := zh25
  refine w_aload0 dX10_init_112 ?_
  refine wp_bipush dX10_init_113 (by decide) ?_
  refine c_newa 459 rfl dX10_init_115 ⟨by decide, by decide⟩ rfl zh26 (by decide) ok (Nat.le_of_ble_eq_true rfl) ?_
  have zg27 := (zZg.up zg26 (Nat.le_of_ble_eq_true rfl : 458 ≤ 459))
  have zh27 := (zZh.up zh26 (Nat.le_of_ble_eq_true rfl : 458 ≤ 459))
  refine wp_putrF dX10_init_117 fl_RX10_49 ⟨rfl, by decide, by decide⟩ rfl rfl rfl ?_
  have zg28 := (zZg.ug (a := 445) (k := 28) (v := 459) zg27 (Nat.le_of_ble_eq_true rfl : 445 ≤ 459))
  have zh28 := zh27
  refine w_aload0 dX10_init_120 ?_
  refine wp_bipush dX10_init_121 (by decide) ?_
  refine c_newa 460 rfl dX10_init_123 ⟨by decide, by decide⟩ rfl zh28 (by decide) ok (Nat.le_of_ble_eq_true rfl) ?_
  have zg29 := (zZg.up zg28 (Nat.le_of_ble_eq_true rfl : 459 ≤ 460))
  have zh29 := (zZh.up zh28 (Nat.le_of_ble_eq_true rfl : 459 ≤ 460))
  refine wp_putrF dX10_init_125 fl_RX10_52 ⟨rfl, by decide, by decide⟩ rfl rfl rfl ?_
  have zg30 := (zZg.ug (a := 445) (k := 29) (v := 460) zg29 (Nat.le_of_ble_eq_true rfl : 445 ≤ 460))
  have zh30 := zh29
  refine w_aload0 dX10_init_128 ?_
  refine wp_sipush dX10_init_129 (by decide) ?_
  refine c_newa 461 rfl dX10_init_132 ⟨by decide, by decide⟩ rfl zh30 (by decide) ok (Nat.le_of_ble_eq_true rfl) ?_
  have zg31 := (zZg.up zg30 (Nat.le_of_ble_eq_true rfl : 460 ≤ 461))
  have zh31 := (zZh.up zh30 (Nat.le_of_ble_eq_true rfl : 460 ≤ 461))
  refine wp_putrF dX10_init_134 fl_RX10_55 ⟨rfl, by decide, by decide⟩ rfl rfl rfl ?_
  have zg32 := (zZg.ug (a := 445) (k := 30) (v := 461) zg31 (Nat.le_of_ble_eq_true rfl : 445 ≤ 461))
  have zh32 := zh31
  refine w_aload0 dX10_init_137 ?_
  refine wp_bipush dX10_init_138 (by decide) ?_
  refine c_newa 462 rfl dX10_init_140 ⟨by decide, by decide⟩ rfl zh32 (by decide) ok (Nat.le_of_ble_eq_true rfl) ?_
  have zg33 := (zZg.up zg32 (Nat.le_of_ble_eq_true rfl : 461 ≤ 462))
  have zh33 := (zZh.up zh32 (Nat.le_of_ble_eq_true rfl : 461 ≤ 462))
  refine wp_putrF dX10_init_142 fl_RX10_58 ⟨rfl, by decide, by decide⟩ rfl rfl rfl ?_
  have zg34 := (zZg.ug (a := 445) (k := 31) (v := 462) zg33 (Nat.le_of_ble_eq_true rfl : 445 ≤ 462))
  have zh34 := zh33
  refine w_aload0 dX10_init_145 ?_
  refine wp_bipush dX10_init_146 (by decide) ?_
  refine c_newa 463 rfl dX10_init_148 ⟨by decide, by decide⟩ rfl zh34 (by decide) ok (Nat.le_of_ble_eq_true rfl) ?_
  have zg35 := (zZg.up zg34 (Nat.le_of_ble_eq_true rfl : 462 ≤ 463))
  have zh35 := (zZh.up zh34 (Nat.le_of_ble_eq_true rfl : 462 ≤ 463))
  refine wp_putrF dX10_init_150 fl_RX10_61 ⟨rfl, by decide, by decide⟩ rfl rfl rfl ?_
  have zg36 := (zZg.ug (a := 445) (k := 35) (v := 463) zg35 (Nat.le_of_ble_eq_true rfl : 445 ≤ 463))
  have zh36 := zh35
  refine w_aload0 dX10_init_153 ?_
  refine wp_bipush dX10_init_154 (by decide) ?_
  refine c_newa 464 rfl dX10_init_156 ⟨by decide, by decide⟩ rfl zh36 (by decide) ok (Nat.le_of_ble_eq_true rfl) ?_
  have zg37 := (zZg.up zg36 (Nat.le_of_ble_eq_true rfl : 463 ≤ 464))
  have zh37 := (zZh.up zh36 (Nat.le_of_ble_eq_true rfl : 463 ≤ 464))
  refine wp_putrF dX10_init_158 fl_RX10_64 ⟨rfl, by decide, by decide⟩ rfl rfl rfl ?_
  have zg38 := (zZg.ug (a := 445) (k := 36) (v := 464) zg37 (Nat.le_of_ble_eq_true rfl : 445 ≤ 464))
  have zh38 := zh37
  refine w_aload0 dX10_init_161 ?_
  refine wp_bipush dX10_init_162 (by decide) ?_
  refine c_newa 465 rfl dX10_init_164 ⟨by decide, by decide⟩ rfl zh38 (by decide) ok (Nat.le_of_ble_eq_true rfl) ?_
  have zg39 := (zZg.up zg38 (Nat.le_of_ble_eq_true rfl : 464 ≤ 465))
  have zh39 := (zZh.up zh38 (Nat.le_of_ble_eq_true rfl : 464 ≤ 465))
  refine wp_putrF dX10_init_166 fl_RX10_67 ⟨rfl, by decide, by decide⟩ rfl rfl rfl ?_
  have zg40 := (zZg.ug (a := 445) (k := 37) (v := 465) zg39 (Nat.le_of_ble_eq_true rfl : 445 ≤ 465))
  have zh40 := zh39
  refine w_aload0 dX10_init_169 ?_
  refine wp_bipush dX10_init_170 (by decide) ?_
  refine c_newa 466 rfl dX10_init_172 ⟨by decide, by decide⟩ rfl zh40 (by decide) ok (Nat.le_of_ble_eq_true rfl) ?_
  have zg41 := (zZg.up zg40 (Nat.le_of_ble_eq_true rfl : 465 ≤ 466))
  have zh41 := (zZh.up zh40 (Nat.le_of_ble_eq_true rfl : 465 ≤ 466))
  refine wp_putrF dX10_init_174 fl_RX10_70 ⟨rfl, by decide, by decide⟩ rfl rfl rfl ?_
  have zg42 := (zZg.ug (a := 445) (k := 38) (v := 466) zg41 (Nat.le_of_ble_eq_true rfl : 445 ≤ 466))
  have zh42 := zh41
  refine w_aload0 dX10_init_177 ?_
  refine wp_bipush dX10_init_178 (by decide) ?_
  refine c_newa 467 rfl dX10_init_180 ⟨by decide, by decide⟩ rfl zh42 (by decide) ok (Nat.le_of_ble_eq_true rfl) ?_
  have zg43 := (zZg.up zg42 (Nat.le_of_ble_eq_true rfl : 466 ≤ 467))
  have zh43 := (zZh.up zh42 (Nat.le_of_ble_eq_true rfl : 466 ≤ 467))
  refine wp_putrF dX10_init_182 fl_RX10_73 ⟨rfl, by decide, by decide⟩ rfl rfl rfl ?_
  have zg44 := (zZg.ug (a := 445) (k := 39) (v := 467) zg43 (Nat.le_of_ble_eq_true rfl : 445 ≤ 467))
  have zh44 := zh43
  refine w_aload0 dX10_init_185 ?_
  refine wp_getr 446 dX10_init_186 fl_RX10_7 ⟨rfl, by decide, by decide⟩ (by repeat (first | rw [zug_s] | rw [zug_o (by decide)])) ?_
  refine wp_iconst dX10_init_189 ?_
  refine wp_bipush dX10_init_190 (by decide) ?_
  refine wp_iast dX10_init_192 ⟨rfl, by decide, by decide⟩ ⟨by decide, by decide⟩ ?_
  have zg45 := zg44
  have zh45 := (zZh.uh (a := 446) (k := 0) (v := 31) zh44 (Nat.le_of_ble_eq_true rfl : 446 ≤ 467))
  exact c_ret dX10_init_193 rfl ok rfl rfl rfl rfl
theorem zg_X10_init_445 {g : zG} (zg : zZg 445 g) : zZg 467 (zug (zug (zug (zug (zug (zug (zug (zug (zug (zug (zug (zug (zug (zug (zug (zug (zug (zug (zug (zug (zug (zug g 445 0 446) 445 1 447) 445 3 448) 445 7 449) 445 12 450) 445 13 451) 445 14 452) 445 15 453) 445 16 454) 445 17 455) 445 23 456) 445 24 457) 445 26 458) 445 28 459) 445 29 460) 445 30 461) 445 31 462) 445 35 463) 445 36 464) 445 37 465) 445 38 466) 445 39 467) := by
  have zg1 := (zZg.up zg (Nat.le_of_ble_eq_true rfl : 445 ≤ 446))
  have zg2 := (zZg.ug (a := 445) (k := 0) (v := 446) zg1 (Nat.le_of_ble_eq_true rfl : 445 ≤ 446))
  have zg3 := (zZg.up zg2 (Nat.le_of_ble_eq_true rfl : 446 ≤ 447))
  have zg4 := (zZg.ug (a := 445) (k := 1) (v := 447) zg3 (Nat.le_of_ble_eq_true rfl : 445 ≤ 447))
  have zg5 := (zZg.up zg4 (Nat.le_of_ble_eq_true rfl : 447 ≤ 448))
  have zg6 := (zZg.ug (a := 445) (k := 3) (v := 448) zg5 (Nat.le_of_ble_eq_true rfl : 445 ≤ 448))
  have zg7 := (zZg.up zg6 (Nat.le_of_ble_eq_true rfl : 448 ≤ 449))
  have zg8 := (zZg.ug (a := 445) (k := 7) (v := 449) zg7 (Nat.le_of_ble_eq_true rfl : 445 ≤ 449))
  have zg9 := (zZg.up zg8 (Nat.le_of_ble_eq_true rfl : 449 ≤ 450))
  have zg10 := (zZg.ug (a := 445) (k := 12) (v := 450) zg9 (Nat.le_of_ble_eq_true rfl : 445 ≤ 450))
  have zg11 := (zZg.up zg10 (Nat.le_of_ble_eq_true rfl : 450 ≤ 451))
  have zg12 := (zZg.ug (a := 445) (k := 13) (v := 451) zg11 (Nat.le_of_ble_eq_true rfl : 445 ≤ 451))
  have zg13 := (zZg.up zg12 (Nat.le_of_ble_eq_true rfl : 451 ≤ 452))
  have zg14 := (zZg.ug (a := 445) (k := 14) (v := 452) zg13 (Nat.le_of_ble_eq_true rfl : 445 ≤ 452))
  have zg15 := (zZg.up zg14 (Nat.le_of_ble_eq_true rfl : 452 ≤ 453))
  have zg16 := (zZg.ug (a := 445) (k := 15) (v := 453) zg15 (Nat.le_of_ble_eq_true rfl : 445 ≤ 453))
  have zg17 := (zZg.up zg16 (Nat.le_of_ble_eq_true rfl : 453 ≤ 454))
  have zg18 := (zZg.ug (a := 445) (k := 16) (v := 454) zg17 (Nat.le_of_ble_eq_true rfl : 445 ≤ 454))
  have zg19 := (zZg.up zg18 (Nat.le_of_ble_eq_true rfl : 454 ≤ 455))
  have zg20 := (zZg.ug (a := 445) (k := 17) (v := 455) zg19 (Nat.le_of_ble_eq_true rfl : 445 ≤ 455))
  have zg21 := (zZg.up zg20 (Nat.le_of_ble_eq_true rfl : 455 ≤ 456))
  have zg22 := (zZg.ug (a := 445) (k := 23) (v := 456) zg21 (Nat.le_of_ble_eq_true rfl : 445 ≤ 456))
  have zg23 := (zZg.up zg22 (Nat.le_of_ble_eq_true rfl : 456 ≤ 457))
  have zg24 := (zZg.ug (a := 445) (k := 24) (v := 457) zg23 (Nat.le_of_ble_eq_true rfl : 445 ≤ 457))
  have zg25 := (zZg.up zg24 (Nat.le_of_ble_eq_true rfl : 457 ≤ 458))
  have zg26 := (zZg.ug (a := 445) (k := 26) (v := 458) zg25 (Nat.le_of_ble_eq_true rfl : 445 ≤ 458))
  have zg27 := (zZg.up zg26 (Nat.le_of_ble_eq_true rfl : 458 ≤ 459))
  have zg28 := (zZg.ug (a := 445) (k := 28) (v := 459) zg27 (Nat.le_of_ble_eq_true rfl : 445 ≤ 459))
  have zg29 := (zZg.up zg28 (Nat.le_of_ble_eq_true rfl : 459 ≤ 460))
  have zg30 := (zZg.ug (a := 445) (k := 29) (v := 460) zg29 (Nat.le_of_ble_eq_true rfl : 445 ≤ 460))
  have zg31 := (zZg.up zg30 (Nat.le_of_ble_eq_true rfl : 460 ≤ 461))
  have zg32 := (zZg.ug (a := 445) (k := 30) (v := 461) zg31 (Nat.le_of_ble_eq_true rfl : 445 ≤ 461))
  have zg33 := (zZg.up zg32 (Nat.le_of_ble_eq_true rfl : 461 ≤ 462))
  have zg34 := (zZg.ug (a := 445) (k := 31) (v := 462) zg33 (Nat.le_of_ble_eq_true rfl : 445 ≤ 462))
  have zg35 := (zZg.up zg34 (Nat.le_of_ble_eq_true rfl : 462 ≤ 463))
  have zg36 := (zZg.ug (a := 445) (k := 35) (v := 463) zg35 (Nat.le_of_ble_eq_true rfl : 445 ≤ 463))
  have zg37 := (zZg.up zg36 (Nat.le_of_ble_eq_true rfl : 463 ≤ 464))
  have zg38 := (zZg.ug (a := 445) (k := 36) (v := 464) zg37 (Nat.le_of_ble_eq_true rfl : 445 ≤ 464))
  have zg39 := (zZg.up zg38 (Nat.le_of_ble_eq_true rfl : 464 ≤ 465))
  have zg40 := (zZg.ug (a := 445) (k := 37) (v := 465) zg39 (Nat.le_of_ble_eq_true rfl : 445 ≤ 465))
  have zg41 := (zZg.up zg40 (Nat.le_of_ble_eq_true rfl : 465 ≤ 466))
  have zg42 := (zZg.ug (a := 445) (k := 38) (v := 466) zg41 (Nat.le_of_ble_eq_true rfl : 445 ≤ 466))
  have zg43 := (zZg.up zg42 (Nat.le_of_ble_eq_true rfl : 466 ≤ 467))
  have zg44 := (zZg.ug (a := 445) (k := 39) (v := 467) zg43 (Nat.le_of_ble_eq_true rfl : 445 ≤ 467))
  have zg45 := zg44
  exact zg45
theorem zh_X10_init_445 {h : zH} (zh : zZh 445 h) : zZh 467 (zup h 446 0 31) := by
  have zh1 := (zZh.up zh (Nat.le_of_ble_eq_true rfl : 445 ≤ 446))
  have zh2 := zh1
  have zh3 := (zZh.up zh2 (Nat.le_of_ble_eq_true rfl : 446 ≤ 447))
  have zh4 := zh3
  have zh5 := (zZh.up zh4 (Nat.le_of_ble_eq_true rfl : 447 ≤ 448))
  have zh6 := zh5
  have zh7 := (zZh.up zh6 (Nat.le_of_ble_eq_true rfl : 448 ≤ 449))
  have zh8 := zh7
  have zh9 := (zZh.up zh8 (Nat.le_of_ble_eq_true rfl : 449 ≤ 450))
  have zh10 := zh9
  have zh11 := (zZh.up zh10 (Nat.le_of_ble_eq_true rfl : 450 ≤ 451))
  have zh12 := zh11
  have zh13 := (zZh.up zh12 (Nat.le_of_ble_eq_true rfl : 451 ≤ 452))
  have zh14 := zh13
  have zh15 := (zZh.up zh14 (Nat.le_of_ble_eq_true rfl : 452 ≤ 453))
  have zh16 := zh15
  have zh17 := (zZh.up zh16 (Nat.le_of_ble_eq_true rfl : 453 ≤ 454))
  have zh18 := zh17
  have zh19 := (zZh.up zh18 (Nat.le_of_ble_eq_true rfl : 454 ≤ 455))
  have zh20 := zh19
  have zh21 := (zZh.up zh20 (Nat.le_of_ble_eq_true rfl : 455 ≤ 456))
  have zh22 := zh21
  have zh23 := (zZh.up zh22 (Nat.le_of_ble_eq_true rfl : 456 ≤ 457))
  have zh24 := zh23
  have zh25 := (zZh.up zh24 (Nat.le_of_ble_eq_true rfl : 457 ≤ 458))
  have zh26 := zh25
  have zh27 := (zZh.up zh26 (Nat.le_of_ble_eq_true rfl : 458 ≤ 459))
  have zh28 := zh27
  have zh29 := (zZh.up zh28 (Nat.le_of_ble_eq_true rfl : 459 ≤ 460))
  have zh30 := zh29
  have zh31 := (zZh.up zh30 (Nat.le_of_ble_eq_true rfl : 460 ≤ 461))
  have zh32 := zh31
  have zh33 := (zZh.up zh32 (Nat.le_of_ble_eq_true rfl : 461 ≤ 462))
  have zh34 := zh33
  have zh35 := (zZh.up zh34 (Nat.le_of_ble_eq_true rfl : 462 ≤ 463))
  have zh36 := zh35
  have zh37 := (zZh.up zh36 (Nat.le_of_ble_eq_true rfl : 463 ≤ 464))
  have zh38 := zh37
  have zh39 := (zZh.up zh38 (Nat.le_of_ble_eq_true rfl : 464 ≤ 465))
  have zh40 := zh39
  have zh41 := (zZh.up zh40 (Nat.le_of_ble_eq_true rfl : 465 ≤ 466))
  have zh42 := zh41
  have zh43 := (zZh.up zh42 (Nat.le_of_ble_eq_true rfl : 466 ≤ 467))
  have zh44 := zh43
  have zh45 := (zZh.uh (a := 446) (k := 0) (v := 31) zh44 (Nat.le_of_ble_eq_true rfl : 446 ≤ 467))
  exact zh45
