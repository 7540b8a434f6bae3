
def zdfI (f g : Nat → Int) (n : Nat) : Prop := ∃ j, j < n ∧ f j ≠ g j
theorem zdfI_0 {f g : Nat → Int} : ¬ zdfI f g 0 := fun q => by
  obtain ⟨j, h, -⟩ := q
  exact absurd h (Nat.not_lt_zero j)
theorem zdfI_s {f g : Nat → Int} {n : Nat} : zdfI f g (n + 1) ↔ zdfI f g n ∨ f n ≠ g n := by
  constructor
  · intro q
    obtain ⟨j, h, e⟩ := q
    by_cases w : j = n
    · right; rw [← w]; exact e
    · left; exact ⟨j, by omega, e⟩
  · intro q
    rcases q with q | q
    · obtain ⟨j, h, e⟩ := q
      exact ⟨j, by omega, e⟩
    · exact ⟨n, by omega, q⟩
/-- whether a product leaves the range, up to place n -/
def zlvI (f : Nat → Int) (u v w n : Nat) : Prop := ∀ q, q < n → f q = 0 ∨ zins q u v w
theorem zlvI_s {f : Nat → Int} {u v w n : Nat} (h : zlvI f u v w n) (h2 : f n = 0 ∨ zins n u v w) : zlvI f u v w (n + 1) := fun q hq => by
  by_cases e : q = n
  · rw [e]; exact h2
  · exact h q (by omega)
theorem zlvI_n {f : Nat → Int} {u v w : Nat} (h : zlvI f u v w 27) : ¬ zleave f u v w := fun q => by
  obtain ⟨j, h1, h2, h3⟩ := q
  rcases h j h1 with a | a
  · exact h2 a
  · exact h3 a
def zdrI (p : Int) (c : Nat → Nat → Int) (t : Int) (n : Nat) : Prop := ∃ k, k < n ∧ zdr1 p c t k
theorem zdrI_s {p : Int} {c : Nat → Nat → Int} {t : Int} {n : Nat} : zdrI p c t (n + 1) ↔ zdrI p c t n ∨ zdr1 p c t n := by
  constructor
  · intro q
    obtain ⟨j, h, e⟩ := q
    by_cases w : j = n
    · right; rw [← w]; exact e
    · left; exact ⟨j, by omega, e⟩
  · intro q
    rcases q with q | q
    · obtain ⟨j, h, e⟩ := q
      exact ⟨j, by omega, e⟩
    · exact ⟨n, by omega, q⟩
theorem z_or0 (m : Nat) : ((m : Nat) : Int).toNat ||| (0 : Int).toNat = m := by
  rw [Int.toNat_natCast]
  exact Nat.or_zero m
noncomputable def zdrN (p : Int) (c : Nat → Nat → Int) (t k : Nat) : Nat := zif (zdrI p c (t : Int) k) (zmk (fun t => zdrop p c (t : Int)) t ||| 2 ^ t) (zmk (fun t => zdrop p c (t : Int)) t)
theorem zdrN_lt {p : Int} {c : Nat → Nat → Int} {t k : Nat} (h : t < 31) : zdrN p c t k < 2147483648 := by
  have h1 := zmk_lt (P := fun t => zdrop p c (t : Int)) t
  have h2 : 2 ^ t ≤ 2 ^ 30 := Nat.pow_le_pow_right (by omega) (by omega)
  have h3 : zmk (fun t => zdrop p c (t : Int)) t ||| 2 ^ t < 2 ^ 31 := Nat.or_lt_two_pow (by omega) (by omega)
  unfold zdrN
  by_cases w : zdrI p c (t : Int) k
  · rw [zif_y w]; omega
  · rw [zif_n w]; omega
theorem zdrN_3 {p : Int} {c : Nat → Nat → Int} {t : Nat} : zdrN p c t 3 = zmk (fun t => zdrop p c (t : Int)) (t + 1) := by
  unfold zdrN
  by_cases w : zdrI p c (t : Int) 3
  · rw [zif_y w, zmk_or, zmk_y (P := fun t => zdrop p c (t : Int)) w]
  · rw [zif_n w, zmk_n (P := fun t => zdrop p c (t : Int)) w]
theorem zdrN_0 {p : Int} {c : Nat → Nat → Int} {t : Nat} : zdrN p c t 0 = zmk (fun t => zdrop p c (t : Int)) t := zif_n (fun q => by
  obtain ⟨j, h, -⟩ := q
  exact absurd h (Nat.not_lt_zero j))
theorem zdrN_y {p : Int} {c : Nat → Nat → Int} {t k : Nat} (h : zdr1 p c (t : Int) k) : zdrN p c t (k + 1) = zdrN p c t k ||| 2 ^ t := by
  unfold zdrN
  rw [zif_y (zdrI_s.mpr (Or.inr h))]
  by_cases w : zdrI p c (t : Int) k
  · rw [zif_y w, Nat.or_assoc, Nat.or_self]
  · rw [zif_n w]
theorem zdrN_n {p : Int} {c : Nat → Nat → Int} {t k : Nat} (h : ¬ zdr1 p c (t : Int) k) : zdrN p c t (k + 1) = zdrN p c t k := by
  unfold zdrN
  by_cases w : zdrI p c (t : Int) k
  · rw [zif_y w, zif_y (zdrI_s.mpr (Or.inl w))]
  · rw [zif_n w, zif_n (fun q => by
      rcases zdrI_s.mp q with a | a
      · exact w a
      · exact h a)]
theorem zsh_0 {p cc : Int} {f : Nat → Int} {j : Nat} (h : j % 3 = 0) : (f j + cc * f (j + 1) + cc * cc % p * f (j + 2)) % p = zsh p cc f j := by
  unfold zsh
  rw [if_pos h]
  refine zcg.em (((zcg.rf.ad zcg.rf).ad (zcg.md.ml zcg.rf)).tr (zcg.of ?_))
  generalize f j = a
  generalize f (j + 1) = b
  generalize f (j + 2) = d
  grind
theorem zsh_1 {p cc : Int} {f : Nat → Int} {j : Nat} (h : j % 3 = 1) : (f j + 2 * cc * f (j + 1)) % p = zsh p cc f j := by
  unfold zsh
  rw [if_neg (by omega), if_pos h]
theorem zsh_2 {p cc : Int} {f : Nat → Int} {j : Nat} (h : j % 3 = 2) : f j = zsh p cc f j := by
  unfold zsh
  rw [if_neg (by omega), if_neg (by omega)]

theorem zins_of {x : Int} {q u v w : Nat} (h : (x = 0 ∨ x = 1) ∧ (x = 1 ↔ ¬ zins q u v w)) (e : x = 0) : zins q u v w := Classical.byContradiction (fun n => by have := h.2.mpr n; omega)

set_option maxRecDepth 100000 in
set_option maxHeartbeats 4000000 in
theorem t_X10_setCoefficient {h : zH} {p : Int} {c : Nat → Nat → Int} {hs : List (Int × (Nat → Nat → Int))} {tx : Nat → Int} {L : Nat} (H : zVd p c hs tx L h) {k i j e v : Int} (zk : zin k) (zi : zin i) (zj : zin j) (ze : zin e) (zv : zin v) : CI yX10_setCoefficient mX10_setCoefficient [vR 445, vI k, vI i, vI j, vI e, vI v] h (fun r h' => zPV (sp_setCoefficient (p, c, hs, tx, L) k i j e v) h r h') := by
  refine inV [some (vR 445), some (vI k), some (vI i), some (vI j), some (vI e), some (vI v), none] mvX10_setCoefficient rfl (Nat.le_of_ble_eq_true rfl) rfl ?_
  obtain ⟨hs1, hR, hH, hT, hK, hO⟩ := id H
  have hp := hs1.p
  have hp0 : h 446 0 = p := hR.1
  have hpp : 0 < p := by omega
  have zk1 := zk.1
  have zk2 := zk.2
  have zi1 := zi.1
  have zi2 := zi.2
  have zj1 := zj.1
  have zj2 := zj.2
  have ze1 := ze.1
  have ze2 := ze.2
  have zv1 := zv.1
  have zv2 := zv.2
  refine w_iload1 dX10_setCoefficient_0 (w_iload2 dX10_setCoefficient_1 (w_iload3 dX10_setCoefficient_2 (w_iload4 dX10_setCoefficient_3 ?_)))
  apply s_i4 (M := mX10_setCoefficient) dX10_setCoefficient_5 lk_RX10_138 mvX10_isPlace (by decide) meX10_setCoefficient (Nat.le_of_ble_eq_true rfl)
  · exact t_X10_isPlace zk zi zj ze
  intro x5 h5 hP5
  obtain ⟨eh5, hP5⟩ := hP5
  replace eh5 := eh5.symm
  subst eh5
  refine wp_if_eq 20 dX10_setCoefficient_8 rfl ⟨by omega, by omega⟩ (fun c8 => ?_) (fun c8 => ?_)
  · skip
    refine wp_iconst dX10_setCoefficient_20 ?_
    refine r_i dX10_setCoefficient_21 rfl meX10_setCoefficient ?_
    exact zPV_q H zFV_r (zif_n (fun q => by have := hP5.2.mpr q.1; first | omega | exact absurd q.2 (by dsimp only; omega))) rfl
  · skip
    refine w_aload0 dX10_setCoefficient_11 (w_iload5 dX10_setCoefficient_12 ?_)
    apply v_i1 (M := mX10_setCoefficient) dX10_setCoefficient_14 lk_RX10_142 mvX10_isNumber (by decide) meX10_setCoefficient is_445 (Nat.le_of_ble_eq_true rfl)
    · exact t_X10_isNumber zv hp hp0
    intro x14 h14 hP14
    obtain ⟨eh14, hP14⟩ := hP14
    replace eh14 := eh14.symm
    subst eh14
    refine wp_if_ne 22 dX10_setCoefficient_17 rfl ⟨by omega, by omega⟩ (fun c17 => ?_) (fun c17 => ?_)
    · skip
      refine w_aload0 dX10_setCoefficient_22 ?_
      have hok : zoT k i j e := hP5.2.mp (by omega)
      obtain ⟨hpl, hpl2, hkk, hk3⟩ := zoT_pl hok
      apply v_v0 (M := mX10_setCoefficient) dX10_setCoefficient_23 lk_RX10_106 mvX10_begins (by decide) meX10_setCoefficient is_445 (Nat.le_of_ble_eq_true rfl)
      · exact t_X10_begins H
      intro h23 hP23
      have hR23 := zMr_bv hP23 hR
      refine w_aload0 dX10_setCoefficient_26 (w_iload1 dX10_setCoefficient_27 (w_iload2 dX10_setCoefficient_28 (w_iload3 dX10_setCoefficient_29 (w_iload4 dX10_setCoefficient_30 ?_))))
      apply v_i4 (M := mX10_setCoefficient) dX10_setCoefficient_32 lk_RX10_146 mvX10_of (by decide) meX10_setCoefficient is_445 (Nat.le_of_ble_eq_true rfl)
      · exact t_X10_of (k := k.toNat) (w := zpl3 i j e) hkk hk3 hpl hpl2 hR23
      intro x32 h32 hP32
      obtain ⟨eh32, ex32⟩ := hP32
      replace eh32 := eh32.symm
      subst eh32
      replace ex32 := ex32.symm
      subst ex32
      refine w_istore6 dX10_setCoefficient_35 rfl (by decide) (w_aload0 dX10_setCoefficient_37 (wp_getr 446 dX10_setCoefficient_38 fl_RX10_7 is_445 rfl (w_iload1 dX10_setCoefficient_41 (w_iload2 dX10_setCoefficient_42 (w_iload3 dX10_setCoefficient_43 (w_iload4 dX10_setCoefficient_44 ?_))))))
      apply s_i4 (M := mX10_setCoefficient) dX10_setCoefficient_46 lk_RX10_84 mvX10_at (by decide) meX10_setCoefficient (Nat.le_of_ble_eq_true rfl)
      · exact t_X10_at
      intro x46 h46 hP46
      obtain ⟨eh46, ex46⟩ := hP46
      replace eh46 := eh46.symm
      subst eh46
      replace ex46 := ex46.symm
      subst ex46
      refine w_iload5 dX10_setCoefficient_49 (x_iast (1 + 27 * k.toNat + zpl3 i j e) dX10_setCoefficient_51 is_446 (by omega) (by omega) (w_iload6 dX10_setCoefficient_52 ?_))
      refine r_i dX10_setCoefficient_54 rfl meX10_setCoefficient ?_
      refine zPV_c H hP23 (zif_y ⟨hok, by omega⟩) rfl (zSt_pt hs1 (by omega)) ⟨?_, fun k' hk j' hj => ?_⟩ (fun a j' ha => zup_o (by omega))
      · rw [zup_o (by omega)]
        exact hR23.1
      · unfold zpt
        by_cases w : k' = k.toNat ∧ j' = zpl3 i j e
        · rw [if_pos w, w.1, w.2, zup_s]
        · rw [if_neg w, zup_o (by omega)]
          exact hR23.2 k' hk j' hj
    · skip
      refine wp_iconst dX10_setCoefficient_20 ?_
      refine r_i dX10_setCoefficient_21 rfl meX10_setCoefficient ?_
      exact zPV_q H zFV_r (zif_n (fun q => by have := hP5.2.mpr q.1; first | omega | exact absurd q.2 (by dsimp only; omega))) rfl
set_option maxRecDepth 100000 in
set_option maxHeartbeats 4000000 in
theorem t_X10_coefficient {h : zH} {p : Int} {c : Nat → Nat → Int} {hs : List (Int × (Nat → Nat → Int))} {tx : Nat → Int} {L : Nat} (H : zVd p c hs tx L h) {k i j e : Int} (zk : zin k) (zi : zin i) (zj : zin j) (ze : zin e) : CI yX10_coefficient mX10_coefficient [vR 445, vI k, vI i, vI j, vI e] h (fun r h' => zPV (sp_coefficient (p, c, hs, tx, L) k i j e) h r h') := by
  refine inV [some (vR 445), some (vI k), some (vI i), some (vI j), some (vI e)] mvX10_coefficient rfl (Nat.le_of_ble_eq_true rfl) rfl ?_
  obtain ⟨hs1, hR, hH, hT, hK, hO⟩ := id H
  have hp := hs1.p
  have hp0 : h 446 0 = p := hR.1
  have hpp : 0 < p := by omega
  have zk1 := zk.1
  have zk2 := zk.2
  have zi1 := zi.1
  have zi2 := zi.2
  have zj1 := zj.1
  have zj2 := zj.2
  have ze1 := ze.1
  have ze2 := ze.2
  refine w_iload1 dX10_coefficient_0 (w_iload2 dX10_coefficient_1 (w_iload3 dX10_coefficient_2 (w_iload4 dX10_coefficient_3 ?_)))
  apply s_i4 (M := mX10_coefficient) dX10_coefficient_5 lk_RX10_138 mvX10_isPlace (by decide) meX10_coefficient (Nat.le_of_ble_eq_true rfl)
  · exact t_X10_isPlace zk zi zj ze
  intro x5 h5 hP5
  obtain ⟨eh5, hP5⟩ := hP5
  replace eh5 := eh5.symm
  subst eh5
  refine wp_if_eq 23 dX10_coefficient_8 rfl ⟨by omega, by omega⟩ (fun c8 => ?_) (fun c8 => ?_)
  · skip
    refine wp_iconst dX10_coefficient_23 ?_
    refine r_i dX10_coefficient_24 rfl meX10_coefficient ?_
    first
    | exact zPV_q H zFV_r (zif_n (fun q => by have := hP5.2.mpr q; omega)) rfl
    | exact zPV_q H zFV_r (zif_y hok) rfl
  · skip
    have hok : zoT k i j e := hP5.2.mp (by omega)
    obtain ⟨hpl, hpl2, hkk, hk3⟩ := zoT_pl hok
    refine w_aload0 dX10_coefficient_11 (w_iload1 dX10_coefficient_12 (w_iload2 dX10_coefficient_13 (w_iload3 dX10_coefficient_14 (w_iload4 dX10_coefficient_15 ?_))))
    apply v_i4 (M := mX10_coefficient) dX10_coefficient_17 lk_RX10_146 mvX10_of (by decide) meX10_coefficient is_445 (Nat.le_of_ble_eq_true rfl)
    · exact t_X10_of (k := k.toNat) (w := zpl3 i j e) hkk hk3 hpl hpl2 hR
    intro x17 h17 hP17
    obtain ⟨eh17, ex17⟩ := hP17
    replace eh17 := eh17.symm
    subst eh17
    replace ex17 := ex17.symm
    subst ex17
    refine wp_goto 24 dX10_coefficient_20 rfl ?_
    refine r_i dX10_coefficient_24 rfl meX10_coefficient ?_
    first
    | exact zPV_q H zFV_r (zif_n (fun q => by have := hP5.2.mpr q; omega)) rfl
    | exact zPV_q H zFV_r (zif_y hok) rfl
set_option maxRecDepth 100000 in
set_option maxHeartbeats 4000000 in
theorem t_X10_draw {h : zH} {p : Int} {c : Nat → Nat → Int} {hs : List (Int × (Nat → Nat → Int))} {tx : Nat → Int} {L : Nat} (H : zVd p c hs tx L h) {sd u v w th : Int} (zsd : zin sd) (zu : zin u) (zv : zin v) (zw : zin w) (zth : zin th) : CI yX10_draw mX10_draw [vR 445, vI sd, vI u, vI v, vI w, vI th] h (fun r h' => zPV (sp_draw (p, c, hs, tx, L) sd u v w th) h r h') := by
  refine inV [some (vR 445), some (vI sd), some (vI u), some (vI v), some (vI w), some (vI th), none, none, none, none] mvX10_draw rfl (Nat.le_of_ble_eq_true rfl) rfl ?_
  obtain ⟨hs1, hR, hH, hT, hK, hO⟩ := id H
  have hp := hs1.p
  have hp0 : h 446 0 = p := hR.1
  have hpp : 0 < p := by omega
  have zsd1 := zsd.1
  have zsd2 := zsd.2
  have zu1 := zu.1
  have zu2 := zu.2
  have zv1 := zv.1
  have zv2 := zv.2
  have zw1 := zw.1
  have zw2 := zw.2
  have zth1 := zth.1
  have zth2 := zth.2
  have L51 : ∀ (zm51 : Nat) (i : Nat) (h' h42 : zH), 81 - i = zm51 → (zoD u v w th) → (zBV p c hs h h42) → (i ≤ 81) → (h' = fun b j => if b = 446 ∧ 1 ≤ j ∧ j < 1 + i then zdrw p u.toNat v.toNat w.toNat th (zlcg sd j) ((j - 1) % 27) else h42 b j) → WP mX10_draw (zMQ mX10_draw (zKI (fun r h' => zPV (sp_draw (p, c, hs, tx, L) sd u v w th) h r h'))) 51 [some (vR 445), none, some (vI u), some (vI v), some (vI w), some (vI th), some (vI (zlcg sd i)), some (vI (i : Int)), none, none] [] zN zGR h' := by
    intro zm51
    induction zm51 using Nat.strongRecOn with | _ zm51 ih51 => ?_
    intro i h' h42 hzm51 hok hB hi hh
    subst hzm51
    have hRb := zMr_bv hB hR
    have ep : h' 446 0 = p := by rw [hh]; dsimp only; rw [if_neg (by omega)]; exact hRb.1
    have hok2 := hok
    unfold zoD at hok2
    have L130 : ∀ (x : Int), (i < 81) → ((x = 0 ∨ x = 1) ∧ (x = 1 ↔ zdok u.toNat v.toNat w.toNat (i % 27) ∧ znum (zlcg sd (i + 1)) / p % th = 0)) → WP mX10_draw (zMQ mX10_draw (zKI (fun r h' => zPV (sp_draw (p, c, hs, tx, L) sd u v w th) h r h'))) 130 [some (vR 445), none, some (vI u), some (vI v), some (vI w), some (vI th), some (vI (zlcg sd (i + 1))), some (vI (i : Int)), some (vI (znum (zlcg sd (i + 1)))), none] [vI x] zN zGR h' := by
      intro x hi81 hb
      have hnb := znum_in (zlcg sd (i + 1))
      have L156 : ∀ (x : Int), (x = zdrw p u.toNat v.toNat w.toNat th (zlcg sd (i + 1)) (i % 27)) → WP mX10_draw (zMQ mX10_draw (zKI (fun r h' => zPV (sp_draw (p, c, hs, tx, L) sd u v w th) h r h'))) 156 [some (vR 445), none, some (vI u), some (vI v), some (vI w), some (vI th), some (vI (zlcg sd (i + 1))), some (vI (i : Int)), none, none] [vI x, vI (1 + (i : Int)), vR 446] zN zGR h' := by
        intro x hx
        refine x_iast (1 + i) dX10_draw_156 is_446 (by omega) (by omega) (w_iinc7 dX10_draw_157 rfl (by decide) (wp_goto 51 dX10_draw_160 rfl ?_))
        refine ih51 _ (by omega) (i + 1) _ h42 rfl hok hB (by omega) ?_
        rw [hh]
        funext b j
        by_cases e : b = 446 ∧ j = 1 + i
        · rw [e.1, e.2, zup_s]
          try dsimp only
          rw [if_pos (by omega), show 1 + i - 1 = i by omega, hx, show 1 + i = i + 1 by omega]
        · rw [zup_o e]
          try dsimp only
          by_cases e2 : b = 446 ∧ 1 ≤ j ∧ j < 1 + i
          · rw [if_pos e2, if_pos (by omega)]
          · rw [if_neg e2, if_neg (by omega)]
      refine w_istore9 dX10_draw_130 rfl (by decide) (w_aload0 dX10_draw_132 (wp_getr 446 dX10_draw_133 fl_RX10_7 is_445 rfl (wp_iconst dX10_draw_136 (w_iload7 dX10_draw_137 (wp_iadd dX10_draw_139 (w_iload9 dX10_draw_140 ?_))))))
      refine wp_if_eq 155 dX10_draw_142 rfl ⟨by omega, by omega⟩ (fun c142 => ?_) (fun c142 => ?_)
      · skip
        refine wp_iconst dX10_draw_155 ?_
        refine w_forget8 ?_
        refine w_forget9 ?_
        first
        | exact L156 _ (zdrw_y (hb.2.mp (by omega))).symm
        | exact L156 _ (zdrw_n (fun q => by have := hb.2.mpr q; omega)).symm
      · skip
        refine w_iload8 dX10_draw_145 (w_aload0 dX10_draw_147 ?_)
        apply v_i0 (M := mX10_draw) dX10_draw_148 lk_RX10_76 mvX10_p (by decide) meX10_draw is_445 (Nat.le_of_ble_eq_true rfl)
        · exact t_X10_p ep
        intro x148 h148 hP148
        obtain ⟨eh148, ex148⟩ := hP148
        replace eh148 := eh148.symm
        subst eh148
        replace ex148 := ex148.symm
        subst ex148
        have hmb2 := z_mod hpp (znum (zlcg sd (i + 1)))
        refine wp_irem dX10_draw_151 (by omega) (by omega) (wp_goto 156 dX10_draw_152 rfl ?_)
        refine w_forget8 ?_
        refine w_forget9 ?_
        first
        | exact L156 _ (zdrw_y (hb.2.mp (by omega))).symm
        | exact L156 _ (zdrw_n (fun q => by have := hb.2.mpr q; omega)).symm
    refine w_iload7 dX10_draw_51 (wp_bipush dX10_draw_53 (by decide) ?_)
    refine wp_icmp_ge 163 dX10_draw_55 rfl ⟨by omega, by omega⟩ ⟨by omega, by omega⟩ (fun c55 => ?_) (fun c55 => ?_)
    · skip
      have hi9 : i = 81 := by omega
      have hPol : zMr p (zpd p sd u.toNat v.toNat w.toNat th) h' := ⟨ep, fun k hk j hj => by
        rw [hh]
        try dsimp only
        unfold zpd
        rw [if_pos (by omega), if_pos ⟨hk, hj⟩, show 1 + 27 * k + j = 27 * k + j + 1 by omega, show (27 * k + j + 1 - 1) % 27 = j by omega]⟩
      refine w_aload0 dX10_draw_163 ?_
      apply v_i0 (M := mX10_draw) dX10_draw_164 lk_RX10_150 mvX10_terms (by decide) meX10_draw is_445 (Nat.le_of_ble_eq_true rfl)
      · exact t_X10_terms (zSt_pd hs1) hPol
      intro x164 h164 hP164
      obtain ⟨eh164, ex164⟩ := hP164
      replace eh164 := eh164.symm
      subst eh164
      replace ex164 := ex164.symm
      subst ex164
      refine r_i dX10_draw_167 rfl meX10_draw ?_
      refine zPV_c H hB (zif_y hok) rfl (zSt_pd hs1) hPol (fun a j ha => ?_)
      rw [hh]
      try dsimp only
      rw [if_neg (by omega)]
    · skip
      refine w_iload6 dX10_draw_58 (wp_ldc dX10_draw_60 kc_RX10_149 (wp_imul dX10_draw_62 (wp_sipush dX10_draw_63 (by decide) (wp_iadd dX10_draw_66 (w_istore6 dX10_draw_67 rfl (by decide) (w_iload6 dX10_draw_69 (wp_bipush dX10_draw_71 (by decide) (wp_iushr dX10_draw_73 (by omega) (wp_sipush dX10_draw_74 (by decide) ?_)))))))))
      refine wp_iand dX10_draw_77 (z_ush _) (by omega) ?_
      have hnb : 0 ≤ znum (zlcg sd i * 1103515245 + 12345) ∧ znum (zlcg sd i * 1103515245 + 12345) ≤ 32767 := znum_in _
      have hnb2 := hnb
      unfold znum at hnb2
      refine w_istore8 dX10_draw_78 rfl (by decide) (w_iload7 dX10_draw_80 (wp_bipush dX10_draw_82 (by decide) (wp_irem dX10_draw_84 (by omega) (by omega) (wp_bipush dX10_draw_85 (by decide) (wp_idiv dX10_draw_87 (by omega) (by omega) (w_iload2 dX10_draw_88 ?_))))))
      refine wp_icmp_gt 129 dX10_draw_89 rfl ⟨by omega, by omega⟩ ⟨by omega, by omega⟩ (fun c89 => ?_) (fun c89 => ?_)
      · skip
        refine wp_iconst dX10_draw_129 ?_
        first
        | exact L130 1 (by omega) ⟨Or.inr rfl, fun _ => ⟨by unfold zdok; omega, by show znum (zlcg sd i * 1103515245 + 12345) / p % th = 0; first | exact c122 | (exfalso; omega)⟩, fun _ => rfl⟩
        | exact L130 0 (by omega) ⟨Or.inl rfl, fun q => absurd q (by decide), fun q => by
            exfalso
            have q1 := q.1
            have q2 : znum (zlcg sd i * 1103515245 + 12345) / p % th = 0 := q.2
            unfold zdok at q1
            first
            | (clear q2; omega)
            | exact c122 q2⟩
      · skip
        refine w_iload7 dX10_draw_92 (wp_bipush dX10_draw_94 (by decide) (wp_irem dX10_draw_96 (by omega) (by omega) (wp_iconst dX10_draw_97 (wp_idiv dX10_draw_98 (by omega) (by omega) (w_iload3 dX10_draw_99 ?_)))))
        refine wp_icmp_gt 129 dX10_draw_100 rfl ⟨by omega, by omega⟩ ⟨by omega, by omega⟩ (fun c100 => ?_) (fun c100 => ?_)
        · skip
          refine wp_iconst dX10_draw_129 ?_
          first
          | exact L130 1 (by omega) ⟨Or.inr rfl, fun _ => ⟨by unfold zdok; omega, by show znum (zlcg sd i * 1103515245 + 12345) / p % th = 0; first | exact c122 | (exfalso; omega)⟩, fun _ => rfl⟩
          | exact L130 0 (by omega) ⟨Or.inl rfl, fun q => absurd q (by decide), fun q => by
              exfalso
              have q1 := q.1
              have q2 : znum (zlcg sd i * 1103515245 + 12345) / p % th = 0 := q.2
              unfold zdok at q1
              first
              | (clear q2; omega)
              | exact c122 q2⟩
        · skip
          refine w_iload7 dX10_draw_103 (wp_iconst dX10_draw_105 (wp_irem dX10_draw_106 (by omega) (by omega) (w_iload4 dX10_draw_107 ?_)))
          refine wp_icmp_gt 129 dX10_draw_109 rfl ⟨by omega, by omega⟩ ⟨by omega, by omega⟩ (fun c109 => ?_) (fun c109 => ?_)
          · skip
            refine wp_iconst dX10_draw_129 ?_
            first
            | exact L130 1 (by omega) ⟨Or.inr rfl, fun _ => ⟨by unfold zdok; omega, by show znum (zlcg sd i * 1103515245 + 12345) / p % th = 0; first | exact c122 | (exfalso; omega)⟩, fun _ => rfl⟩
            | exact L130 0 (by omega) ⟨Or.inl rfl, fun q => absurd q (by decide), fun q => by
                exfalso
                have q1 := q.1
                have q2 : znum (zlcg sd i * 1103515245 + 12345) / p % th = 0 := q.2
                unfold zdok at q1
                first
                | (clear q2; omega)
                | exact c122 q2⟩
          · skip
            refine w_iload8 dX10_draw_112 (w_aload0 dX10_draw_114 ?_)
            apply v_i0 (M := mX10_draw) dX10_draw_115 lk_RX10_76 mvX10_p (by decide) meX10_draw is_445 (Nat.le_of_ble_eq_true rfl)
            · exact t_X10_p ep
            intro x115 h115 hP115
            obtain ⟨eh115, ex115⟩ := hP115
            replace eh115 := eh115.symm
            subst eh115
            replace ex115 := ex115.symm
            subst ex115
            have hdb := Int.ediv_nonneg hnb.1 (show 0 ≤ p by omega)
            have hdc := Int.ediv_le_self p hnb.1
            unfold znum at hdb hdc
            refine wp_idiv dX10_draw_118 (by omega) (by omega) (w_iload5 dX10_draw_119 ?_)
            skip
            refine wp_irem dX10_draw_121 (by omega) (by omega) ?_
            have hmb := z_mod (show 0 < th by omega) (znum (zlcg sd i * 1103515245 + 12345) / p)
            unfold znum at hmb
            refine wp_if_ne 129 dX10_draw_122 rfl ⟨by omega, by omega⟩ (fun c122 => ?_) (fun c122 => ?_)
            · skip
              refine wp_iconst dX10_draw_129 ?_
              first
              | exact L130 1 (by omega) ⟨Or.inr rfl, fun _ => ⟨by unfold zdok; omega, by show znum (zlcg sd i * 1103515245 + 12345) / p % th = 0; first | exact c122 | (exfalso; omega)⟩, fun _ => rfl⟩
              | exact L130 0 (by omega) ⟨Or.inl rfl, fun q => absurd q (by decide), fun q => by
                  exfalso
                  have q1 := q.1
                  have q2 : znum (zlcg sd i * 1103515245 + 12345) / p % th = 0 := q.2
                  unfold zdok at q1
                  first
                  | (clear q2; omega)
                  | exact c122 q2⟩
            · skip
              refine wp_iconst dX10_draw_125 (wp_goto 130 dX10_draw_126 rfl ?_)
              first
              | exact L130 1 (by omega) ⟨Or.inr rfl, fun _ => ⟨by unfold zdok; omega, by show znum (zlcg sd i * 1103515245 + 12345) / p % th = 0; first | exact c122 | (exfalso; omega)⟩, fun _ => rfl⟩
              | exact L130 0 (by omega) ⟨Or.inl rfl, fun q => absurd q (by decide), fun q => by
                  exfalso
                  have q1 := q.1
                  have q2 : znum (zlcg sd i * 1103515245 + 12345) / p % th = 0 := q.2
                  unfold zdok at q1
                  first
                  | (clear q2; omega)
                  | exact c122 q2⟩
  refine w_iload2 dX10_draw_0 (wp_iconst dX10_draw_1 (wp_iconst dX10_draw_2 ?_))
  apply s_i3 (M := mX10_draw) dX10_draw_3 lk_RX10_80 mvX10_in (by decide) meX10_draw (Nat.le_of_ble_eq_true rfl)
  · exact t_X10_in zu ⟨by decide, by decide⟩ ⟨by decide, by decide⟩
  intro x3 h3 hP3
  obtain ⟨eh3, hP3⟩ := hP3
  replace eh3 := eh3.symm
  subst eh3
  refine wp_if_eq 39 dX10_draw_6 rfl ⟨by omega, by omega⟩ (fun c6 => ?_) (fun c6 => ?_)
  · skip
    refine wp_iconst dX10_draw_39 ?_
    refine r_i dX10_draw_40 rfl meX10_draw ?_
    exact zPV_q H zFV_r (zif_n (by unfold zoD; (try dsimp only); omega)) rfl
  · skip
    refine w_iload3 dX10_draw_9 (wp_iconst dX10_draw_10 (wp_iconst dX10_draw_11 ?_))
    apply s_i3 (M := mX10_draw) dX10_draw_12 lk_RX10_80 mvX10_in (by decide) meX10_draw (Nat.le_of_ble_eq_true rfl)
    · exact t_X10_in zv ⟨by decide, by decide⟩ ⟨by decide, by decide⟩
    intro x12 h12 hP12
    obtain ⟨eh12, hP12⟩ := hP12
    replace eh12 := eh12.symm
    subst eh12
    refine wp_if_eq 39 dX10_draw_15 rfl ⟨by omega, by omega⟩ (fun c15 => ?_) (fun c15 => ?_)
    · skip
      refine wp_iconst dX10_draw_39 ?_
      refine r_i dX10_draw_40 rfl meX10_draw ?_
      exact zPV_q H zFV_r (zif_n (by unfold zoD; (try dsimp only); omega)) rfl
    · skip
      refine w_iload4 dX10_draw_18 (wp_iconst dX10_draw_20 (wp_iconst dX10_draw_21 ?_))
      apply s_i3 (M := mX10_draw) dX10_draw_22 lk_RX10_80 mvX10_in (by decide) meX10_draw (Nat.le_of_ble_eq_true rfl)
      · exact t_X10_in zw ⟨by decide, by decide⟩ ⟨by decide, by decide⟩
      intro x22 h22 hP22
      obtain ⟨eh22, hP22⟩ := hP22
      replace eh22 := eh22.symm
      subst eh22
      refine wp_if_eq 39 dX10_draw_25 rfl ⟨by omega, by omega⟩ (fun c25 => ?_) (fun c25 => ?_)
      · skip
        refine wp_iconst dX10_draw_39 ?_
        refine r_i dX10_draw_40 rfl meX10_draw ?_
        exact zPV_q H zFV_r (zif_n (by unfold zoD; (try dsimp only); omega)) rfl
      · skip
        refine w_iload5 dX10_draw_28 (wp_iconst dX10_draw_30 (wp_bipush dX10_draw_31 (by decide) ?_))
        apply s_i3 (M := mX10_draw) dX10_draw_33 lk_RX10_80 mvX10_in (by decide) meX10_draw (Nat.le_of_ble_eq_true rfl)
        · exact t_X10_in zth ⟨by decide, by decide⟩ ⟨by decide, by decide⟩
        intro x33 h33 hP33
        obtain ⟨eh33, hP33⟩ := hP33
        replace eh33 := eh33.symm
        subst eh33
        refine wp_if_ne 41 dX10_draw_36 rfl ⟨by omega, by omega⟩ (fun c36 => ?_) (fun c36 => ?_)
        · skip
          refine w_aload0 dX10_draw_41 ?_
          apply v_v0 (M := mX10_draw) dX10_draw_42 lk_RX10_106 mvX10_begins (by decide) meX10_draw is_445 (Nat.le_of_ble_eq_true rfl)
          · exact t_X10_begins H
          intro h42 hP42
          have hR42 := zMr_bv hP42 hR
          refine w_iload1 dX10_draw_45 (w_istore6 dX10_draw_46 rfl (by decide) (wp_iconst dX10_draw_48 (w_istore7 dX10_draw_49 rfl (by decide) ?_)))
          refine w_forget1 ?_
          exact L51 _ 0 _ _ rfl (by unfold zoD; omega) hP42 (Nat.zero_le _) (by funext b j; rw [if_neg (by omega)])
        · skip
          refine wp_iconst dX10_draw_39 ?_
          refine r_i dX10_draw_40 rfl meX10_draw ?_
          exact zPV_q H zFV_r (zif_n (by unfold zoD; (try dsimp only); omega)) rfl
set_option maxRecDepth 100000 in
set_option maxHeartbeats 4000000 in
theorem t_X10_plant {h : zH} {p : Int} {c : Nat → Nat → Int} {hs : List (Int × (Nat → Nat → Int))} {tx : Nat → Int} {L : Nat} (H : zVd p c hs tx L h) {x y t : Int} (zx : zin x) (zy : zin y) (zt : zin t) : CI yX10_plant mX10_plant [vR 445, vI x, vI y, vI t] h (fun r h' => zPV (sp_plant (p, c, hs, tx, L) x y t) h r h') := by
  refine inV [some (vR 445), some (vI x), some (vI y), some (vI t), none, none, none] mvX10_plant rfl (Nat.le_of_ble_eq_true rfl) rfl ?_
  obtain ⟨hs1, hR, hH, hT, hK, hO⟩ := id H
  have hp := hs1.p
  have hp0 : h 446 0 = p := hR.1
  have hpp : 0 < p := by omega
  have zx1 := zx.1
  have zx2 := zx.2
  have zy1 := zy.1
  have zy2 := zy.2
  have zt1 := zt.1
  have zt2 := zt.2
  have L36 : ∀ (zm36 : Nat) (i : Nat) (h' h27 : zH) (n : Int), 3 - i = zm36 → ((0 ≤ x ∧ x < p) ∧ (0 ≤ y ∧ y < p) ∧ (0 ≤ t ∧ t < p)) → (zBV p c hs h h27) → (i ≤ 3) → (n = zcnt (fun k => zval p c k x y t) i) → (zMr p (zpp1 p c x y t i) h') → (∀ a j, a ≠ 446 → h' a j = h27 a j) → WP mX10_plant (zMQ mX10_plant (zKI (fun r h' => zPV (sp_plant (p, c, hs, tx, L) x y t) h r h'))) 36 [some (vR 445), some (vI x), some (vI y), some (vI t), some (vI n), some (vI (i : Int)), none] [] zN zGR h' := by
    intro zm36
    induction zm36 using Nat.strongRecOn with | _ zm36 ih36 => ?_
    intro i h' h27 n hzm36 hok0 hB hi hn hPl he
    subst hzm36
    have hvn : zval p (zpp1 p c x y t i) i x y t = zval p c i x y t := zval_c (fun j => by unfold zpp1; rw [if_neg (by omega)])
    have h0i : i < 3 → h' 446 (1 + 27 * i) = c i 0 := fun w => by
      have := hPl.2 i w 0 (by omega)
      rw [Nat.add_zero] at this
      rw [this]
      unfold zpp1
      rw [if_neg (by omega)]
    have hc0 := hs1.2 i 0
    have L65 : ∀ (m : Int), (i < 3) → (n + m = zcnt (fun k => zval p c k x y t) (i + 1)) → WP mX10_plant (zMQ mX10_plant (zKI (fun r h' => zPV (sp_plant (p, c, hs, tx, L) x y t) h r h'))) 65 [some (vR 445), some (vI x), some (vI y), some (vI t), none, some (vI (i : Int)), some (vI (zval p c i x y t))] [vI m, vI n] zN zGR h' := by
      intro m hi3 hm
      have hvb := zval_in hpp (c := c) (k := i) (x := x) (y := y) (t := t)
      refine wp_iadd dX10_plant_65 (w_istore4 dX10_plant_66 rfl (by decide) (w_aload0 dX10_plant_68 (wp_getr 446 dX10_plant_69 fl_RX10_7 is_445 rfl (w_iload5 dX10_plant_72 (wp_iconst dX10_plant_74 (wp_iconst dX10_plant_75 (wp_iconst dX10_plant_76 ?_)))))))
      apply s_i4 (M := mX10_plant) dX10_plant_77 lk_RX10_84 mvX10_at (by decide) meX10_plant (Nat.le_of_ble_eq_true rfl)
      · exact t_X10_at
      intro x77 h77 hP77
      obtain ⟨eh77, ex77⟩ := hP77
      replace eh77 := eh77.symm
      subst eh77
      replace ex77 := ex77.symm
      subst ex77
      refine w_aload0 dX10_plant_80 (w_aload0 dX10_plant_81 (wp_getr 446 dX10_plant_82 fl_RX10_7 is_445 rfl (w_iload5 dX10_plant_85 (wp_iconst dX10_plant_87 (wp_iconst dX10_plant_88 (wp_iconst dX10_plant_89 ?_))))))
      apply s_i4 (M := mX10_plant) dX10_plant_90 lk_RX10_84 mvX10_at (by decide) meX10_plant (Nat.le_of_ble_eq_true rfl)
      · exact t_X10_at
      intro x90 h90 hP90
      obtain ⟨eh90, ex90⟩ := hP90
      replace eh90 := eh90.symm
      subst eh90
      replace ex90 := ex90.symm
      subst ex90
      refine x_iald (1 + 27 * i) dX10_plant_93 is_446 (by omega) (by omega) ?_
      rw [h0i hi3]
      refine w_iload6 dX10_plant_94 (wp_isub dX10_plant_96 ?_)
      apply v_i1 (M := mX10_plant) dX10_plant_97 lk_RX10_128 mvX10_mod (by decide) meX10_plant is_445 (Nat.le_of_ble_eq_true rfl)
      · exact t_X10_mod ⟨by omega, by omega⟩ hp hPl.1
      intro x97 h97 hP97
      obtain ⟨eh97, ex97⟩ := hP97
      replace eh97 := eh97.symm
      subst eh97
      replace ex97 := ex97.symm
      subst ex97
      refine x_iast (1 + 27 * i) dX10_plant_100 is_446 (by omega) (by omega) (w_iinc5 dX10_plant_101 rfl (by decide) (wp_goto 36 dX10_plant_104 rfl ?_))
      refine w_forget6 ?_
      refine ih36 _ (by omega) (i + 1) _ h27 _ rfl hok0 hB (by omega) hm ⟨?_, fun k hk j hj => ?_⟩ (fun a j ha => by rw [zup_o (by omega)]; exact he a j ha)
      · rw [zup_o (by omega)]
        exact hPl.1
      · unfold zpp1
        by_cases w : k = i ∧ j = 0
        · rw [if_pos ⟨by omega, w.2⟩, w.1, w.2, Nat.add_zero, zup_s]
        · rw [zup_o (by omega), hPl.2 k hk j hj]
          unfold zpp1
          by_cases w2 : k < i ∧ j = 0
          · rw [if_pos w2, if_pos ⟨by omega, w2.2⟩]
          · rw [if_neg w2, if_neg (by omega)]
    refine w_iload5 dX10_plant_36 (wp_iconst dX10_plant_38 ?_)
    refine wp_icmp_ge 107 dX10_plant_39 rfl ⟨by omega, by omega⟩ ⟨by omega, by omega⟩ (fun c39 => ?_) (fun c39 => ?_)
    · skip
      refine w_iload4 dX10_plant_107 ?_
      refine r_i dX10_plant_109 rfl meX10_plant ?_
      have hi3 : i = 3 := by omega
      rw [hi3] at hPl hn
      exact zPV_c H hB (zif_y hok0) hn (zSt_ppl hs1) ⟨hPl.1, fun k hk j hj => by rw [hPl.2 k hk j hj]; rfl⟩ he
    · skip
      refine w_aload0 dX10_plant_42 (w_iload5 dX10_plant_43 (w_iload1 dX10_plant_45 (w_iload2 dX10_plant_46 (w_iload3 dX10_plant_47 ?_))))
      apply v_i4 (M := mX10_plant) dX10_plant_48 lk_RX10_157 mvX10_valueOf (by decide) meX10_plant is_445 (Nat.le_of_ble_eq_true rfl)
      · exact t_X10_valueOf (k := i) rfl (by omega) (zSt_pp1 hs1) hPl hok0.1 hok0.2.1 hok0.2.2
      intro x48 h48 hP48
      obtain ⟨eh48, ex48⟩ := hP48
      replace eh48 := eh48.symm
      subst eh48
      subst ex48
      rw [hvn]
      have hvb := zval_in hpp (c := c) (k := i) (x := x) (y := y) (t := t)
      refine w_istore6 dX10_plant_51 rfl (by decide) (w_iload4 dX10_plant_53 (w_iload6 dX10_plant_55 ?_))
      refine wp_if_eq 64 dX10_plant_57 rfl ⟨by omega, by omega⟩ (fun c57 => ?_) (fun c57 => ?_)
      · skip
        refine wp_iconst dX10_plant_64 ?_
        refine w_forget4 ?_
        first
        | (have c9 : zval p c i x y t ≠ 0 := c57
           exact L65 _ (by omega) (by unfold zcnt; rw [if_neg c9, hn]))
        | (have c9 : zval p c i x y t = 0 := c57
           exact L65 _ (by omega) (by unfold zcnt; rw [if_pos c9, hn]))
      · skip
        refine wp_iconst dX10_plant_60 (wp_goto 65 dX10_plant_61 rfl ?_)
        refine w_forget4 ?_
        first
        | (have c9 : zval p c i x y t ≠ 0 := c57
           exact L65 _ (by omega) (by unfold zcnt; rw [if_neg c9, hn]))
        | (have c9 : zval p c i x y t = 0 := c57
           exact L65 _ (by omega) (by unfold zcnt; rw [if_pos c9, hn]))
  refine w_aload0 dX10_plant_0 (w_iload1 dX10_plant_1 ?_)
  apply v_i1 (M := mX10_plant) dX10_plant_2 lk_RX10_142 mvX10_isNumber (by decide) meX10_plant is_445 (Nat.le_of_ble_eq_true rfl)
  · exact t_X10_isNumber zx hp hp0
  intro x2 h2 hP2
  obtain ⟨eh2, hP2⟩ := hP2
  replace eh2 := eh2.symm
  subst eh2
  refine wp_if_eq 24 dX10_plant_5 rfl ⟨by omega, by omega⟩ (fun c5 => ?_) (fun c5 => ?_)
  · skip
    refine wp_iconst dX10_plant_24 ?_
    refine r_i dX10_plant_25 rfl meX10_plant ?_
    exact zPV_q H zFV_r (zif_n (by unfold zoP; (try dsimp only); omega)) rfl
  · skip
    refine w_aload0 dX10_plant_8 (w_iload2 dX10_plant_9 ?_)
    apply v_i1 (M := mX10_plant) dX10_plant_10 lk_RX10_142 mvX10_isNumber (by decide) meX10_plant is_445 (Nat.le_of_ble_eq_true rfl)
    · exact t_X10_isNumber zy hp hp0
    intro x10 h10 hP10
    obtain ⟨eh10, hP10⟩ := hP10
    replace eh10 := eh10.symm
    subst eh10
    refine wp_if_eq 24 dX10_plant_13 rfl ⟨by omega, by omega⟩ (fun c13 => ?_) (fun c13 => ?_)
    · skip
      refine wp_iconst dX10_plant_24 ?_
      refine r_i dX10_plant_25 rfl meX10_plant ?_
      exact zPV_q H zFV_r (zif_n (by unfold zoP; (try dsimp only); omega)) rfl
    · skip
      refine w_aload0 dX10_plant_16 (w_iload3 dX10_plant_17 ?_)
      apply v_i1 (M := mX10_plant) dX10_plant_18 lk_RX10_142 mvX10_isNumber (by decide) meX10_plant is_445 (Nat.le_of_ble_eq_true rfl)
      · exact t_X10_isNumber zt hp hp0
      intro x18 h18 hP18
      obtain ⟨eh18, hP18⟩ := hP18
      replace eh18 := eh18.symm
      subst eh18
      refine wp_if_ne 26 dX10_plant_21 rfl ⟨by omega, by omega⟩ (fun c21 => ?_) (fun c21 => ?_)
      · skip
        refine w_aload0 dX10_plant_26 ?_
        apply v_v0 (M := mX10_plant) dX10_plant_27 lk_RX10_106 mvX10_begins (by decide) meX10_plant is_445 (Nat.le_of_ble_eq_true rfl)
        · exact t_X10_begins H
        intro h27 hP27
        have hR27 := zMr_bv hP27 hR
        refine wp_iconst dX10_plant_30 (w_istore4 dX10_plant_31 rfl (by decide) (wp_iconst dX10_plant_33 (w_istore5 dX10_plant_34 rfl (by decide) ?_)))
        refine L36 _ 0 _ _ _ rfl (by omega) hP27 (Nat.zero_le _) rfl ?_ (fun a j ha => rfl)
        rw [zpp1_0]
        exact hR27
      · skip
        refine wp_iconst dX10_plant_24 ?_
        refine r_i dX10_plant_25 rfl meX10_plant ?_
        exact zPV_q H zFV_r (zif_n (by unfold zoP; (try dsimp only); omega)) rfl
set_option maxRecDepth 100000 in
set_option maxHeartbeats 4000000 in
theorem t_X10_swap {h : zH} {p : Int} {c : Nat → Nat → Int} {hs : List (Int × (Nat → Nat → Int))} {tx : Nat → Int} {L : Nat} (H : zVd p c hs tx L h) {k l : Int} (zk : zin k) (zl : zin l) : CI yX10_swap mX10_swap [vR 445, vI k, vI l] h (fun r h' => zPV (sp_swap (p, c, hs, tx, L) k l) h r h') := by
  refine inV [some (vR 445), some (vI k), some (vI l), none, none, none, none] mvX10_swap rfl (Nat.le_of_ble_eq_true rfl) rfl ?_
  obtain ⟨hs1, hR, hH, hT, hK, hO⟩ := id H
  have hp := hs1.p
  have hp0 : h 446 0 = p := hR.1
  have hpp : 0 < p := by omega
  have zk1 := zk.1
  have zk2 := zk.2
  have zl1 := zl.1
  have zl2 := zl.2
  have L29 : ∀ (zm29 : Nat) (i : Nat) (h' h21 : zH) (s : Int), 27 - i = zm29 → ((0 ≤ k ∧ k ≤ 2) ∧ (0 ≤ l ∧ l ≤ 2)) → (zBV p c hs h h21) → (i ≤ 27) → ((s = 0 ∨ s = 1) ∧ (s = 1 ↔ zdfI (c k.toNat) (c l.toNat) i)) → (h' 446 0 = p) → (∀ q, q < 3 → ∀ j, j < 27 → h' 446 (1 + 27 * q + j) = if j < i then zpw c k.toNat l.toNat q j else c q j) → (∀ a j, a ≠ 446 → h' a j = h21 a j) → WP mX10_swap (zMQ mX10_swap (zKI (fun r h' => zPV (sp_swap (p, c, hs, tx, L) k l) h r h'))) 29 [some (vR 445), some (vI k), some (vI l), some (vI s), some (vI (i : Int)), none, none] [] zN zGR h' := by
    intro zm29
    induction zm29 using Nat.strongRecOn with | _ zm29 ih29 => ?_
    intro i h' h21 s hzm29 hok hB hi hsw h0 hh he
    subst hzm29
    have g1 : i < 27 → h' 446 (1 + 27 * k.toNat + i) = c k.toNat i := fun w => by rw [hh _ (by omega) _ w, if_neg (by omega)]
    have g2 : i < 27 → h' 446 (1 + 27 * l.toNat + i) = c l.toNat i := fun w => by rw [hh _ (by omega) _ w, if_neg (by omega)]
    have b1 := hs1.2 k.toNat i
    have b2 := hs1.2 l.toNat i
    have L80 : ∀ (w : Int), (i < 27) → ((w = 0 ∨ w = 1) ∧ (w = 1 ↔ zdfI (c k.toNat) (c l.toNat) (i + 1))) → WP mX10_swap (zMQ mX10_swap (zKI (fun r h' => zPV (sp_swap (p, c, hs, tx, L) k l) h r h'))) 80 [some (vR 445), some (vI k), some (vI l), none, some (vI (i : Int)), some (vI (c k.toNat i)), some (vI (c l.toNat i))] [vI w] zN zGR h' := by
      intro w hi27 hw
      refine w_istore3 dX10_swap_80 rfl (by decide) (w_aload0 dX10_swap_81 (wp_getr 446 dX10_swap_82 fl_RX10_7 is_445 rfl (wp_iconst dX10_swap_85 (wp_bipush dX10_swap_86 (by decide) (w_iload1 dX10_swap_88 (wp_imul dX10_swap_89 (wp_iadd dX10_swap_90 (w_iload4 dX10_swap_91 (wp_iadd dX10_swap_93 ?_)))))))))
      refine w_iload6 dX10_swap_94 (x_iast (1 + 27 * k.toNat + i) dX10_swap_96 is_446 (by omega) (by omega) (w_aload0 dX10_swap_97 (wp_getr 446 dX10_swap_98 fl_RX10_7 is_445 rfl (wp_iconst dX10_swap_101 (wp_bipush dX10_swap_102 (by decide) (w_iload2 dX10_swap_104 (wp_imul dX10_swap_105 (wp_iadd dX10_swap_106 (w_iload4 dX10_swap_107 ?_)))))))))
      refine wp_iadd dX10_swap_109 (w_iload5 dX10_swap_110 (x_iast (1 + 27 * l.toNat + i) dX10_swap_112 is_446 (by omega) (by omega) (w_iinc4 dX10_swap_113 rfl (by decide) (wp_goto 29 dX10_swap_116 rfl ?_))))
      refine w_forget5 ?_
      refine w_forget6 ?_
      refine ih29 _ (by omega) (i + 1) _ h21 _ rfl hok hB (by omega) hw ?_ (fun q hq j hj => ?_) (fun a j ha => by rw [zup_o (by omega), zup_o (by omega)]; exact he a j ha)
      · rw [zup_o (by omega), zup_o (by omega)]; exact h0
      · have hq2 := hh q hq j hj
        by_cases w : j = i
        · rw [w, if_pos (by omega)]
          unfold zpw
          by_cases w1 : q = k.toNat
          · rw [if_pos w1, w1]
            by_cases w2 : k.toNat = l.toNat
            · rw [w2, zup_s]
            · rw [zup_o (by omega), zup_s]
          · rw [if_neg w1]
            by_cases w2 : q = l.toNat
            · rw [if_pos w2, w2, zup_s]
            · rw [if_neg w2, zup_o (by omega), zup_o (by omega), ← w, hq2, if_neg (by omega)]
        · rw [zup_o (by omega), zup_o (by omega), hq2]
          by_cases w2 : j < i
          · rw [if_pos w2, if_pos (by omega)]
          · rw [if_neg w2, if_neg (by omega)]
    refine w_iload4 dX10_swap_29 (wp_bipush dX10_swap_31 (by decide) ?_)
    refine wp_icmp_ge 119 dX10_swap_33 rfl ⟨by omega, by omega⟩ ⟨by omega, by omega⟩ (fun c33 => ?_) (fun c33 => ?_)
    · skip
      refine w_iload3 dX10_swap_119 ?_
      refine r_i dX10_swap_120 rfl meX10_swap ?_
      have hi9 : i = 27 := by omega
      rw [hi9] at hsw
      have hv : s = zif (zdf (c k.toNat) (c l.toNat)) 1 0 := by
        by_cases w : zdf (c k.toNat) (c l.toNat)
        · rw [zif_y w]; exact hsw.2.mpr w
        · rw [zif_n w]
          rcases hsw.1 with a | a
          · exact a
          · exact absurd (hsw.2.mp a) w
      exact zPV_c H hB (zif_y hok) hv (zSt_pw hs1) ⟨h0, fun q hq j hj => by rw [hh q hq j hj, if_pos (by omega)]⟩ he
    · skip
      refine w_aload0 dX10_swap_36 (wp_getr 446 dX10_swap_37 fl_RX10_7 is_445 rfl (wp_iconst dX10_swap_40 (wp_bipush dX10_swap_41 (by decide) (w_iload1 dX10_swap_43 (wp_imul dX10_swap_44 (wp_iadd dX10_swap_45 (w_iload4 dX10_swap_46 (wp_iadd dX10_swap_48 (x_iald (1 + 27 * k.toNat + i) dX10_swap_49 is_446 (by omega) (by omega) ?_)))))))))
      rw [g1 (by omega)]
      refine w_istore5 dX10_swap_50 rfl (by decide) (w_aload0 dX10_swap_52 (wp_getr 446 dX10_swap_53 fl_RX10_7 is_445 rfl (wp_iconst dX10_swap_56 (wp_bipush dX10_swap_57 (by decide) (w_iload2 dX10_swap_59 (wp_imul dX10_swap_60 (wp_iadd dX10_swap_61 (w_iload4 dX10_swap_62 (wp_iadd dX10_swap_64 ?_)))))))))
      refine x_iald (1 + 27 * l.toNat + i) dX10_swap_65 is_446 (by omega) (by omega) ?_
      rw [g2 (by omega)]
      refine w_istore6 dX10_swap_66 rfl (by decide) (w_iload5 dX10_swap_68 (w_iload6 dX10_swap_70 ?_))
      refine wp_icmp_eq 79 dX10_swap_72 rfl ⟨by omega, by omega⟩ ⟨by omega, by omega⟩ (fun c72 => ?_) (fun c72 => ?_)
      · skip
        refine w_iload3 dX10_swap_79 ?_
        refine w_forget3 ?_
        first
        | (have c9 : c k.toNat i ≠ c l.toNat i := c72
           exact L80 1 (by omega) ⟨Or.inr rfl, fun _ => zdfI_s.mpr (Or.inr c9), fun _ => rfl⟩)
        | (have c9 : c k.toNat i = c l.toNat i := c72
           exact L80 _ (by omega) ⟨hsw.1, hsw.2.trans ⟨fun q => zdfI_s.mpr (Or.inl q), fun q => (zdfI_s.mp q).resolve_right (fun w => w c9)⟩⟩)
      · skip
        refine wp_iconst dX10_swap_75 (wp_goto 80 dX10_swap_76 rfl ?_)
        refine w_forget3 ?_
        first
        | (have c9 : c k.toNat i ≠ c l.toNat i := c72
           exact L80 1 (by omega) ⟨Or.inr rfl, fun _ => zdfI_s.mpr (Or.inr c9), fun _ => rfl⟩)
        | (have c9 : c k.toNat i = c l.toNat i := c72
           exact L80 _ (by omega) ⟨hsw.1, hsw.2.trans ⟨fun q => zdfI_s.mpr (Or.inl q), fun q => (zdfI_s.mp q).resolve_right (fun w => w c9)⟩⟩)
  refine w_iload1 dX10_swap_0 (wp_iconst dX10_swap_1 (wp_iconst dX10_swap_2 ?_))
  apply s_i3 (M := mX10_swap) dX10_swap_3 lk_RX10_80 mvX10_in (by decide) meX10_swap (Nat.le_of_ble_eq_true rfl)
  · exact t_X10_in zk ⟨by decide, by decide⟩ ⟨by decide, by decide⟩
  intro x3 h3 hP3
  obtain ⟨eh3, hP3⟩ := hP3
  replace eh3 := eh3.symm
  subst eh3
  refine wp_if_eq 18 dX10_swap_6 rfl ⟨by omega, by omega⟩ (fun c6 => ?_) (fun c6 => ?_)
  · skip
    refine wp_iconst dX10_swap_18 ?_
    refine r_i dX10_swap_19 rfl meX10_swap ?_
    exact zPV_q H zFV_r (zif_n (by first | omega | (dsimp only; omega))) rfl
  · skip
    refine w_iload2 dX10_swap_9 (wp_iconst dX10_swap_10 (wp_iconst dX10_swap_11 ?_))
    apply s_i3 (M := mX10_swap) dX10_swap_12 lk_RX10_80 mvX10_in (by decide) meX10_swap (Nat.le_of_ble_eq_true rfl)
    · exact t_X10_in zl ⟨by decide, by decide⟩ ⟨by decide, by decide⟩
    intro x12 h12 hP12
    obtain ⟨eh12, hP12⟩ := hP12
    replace eh12 := eh12.symm
    subst eh12
    refine wp_if_ne 20 dX10_swap_15 rfl ⟨by omega, by omega⟩ (fun c15 => ?_) (fun c15 => ?_)
    · skip
      refine w_aload0 dX10_swap_20 ?_
      apply v_v0 (M := mX10_swap) dX10_swap_21 lk_RX10_106 mvX10_begins (by decide) meX10_swap is_445 (Nat.le_of_ble_eq_true rfl)
      · exact t_X10_begins H
      intro h21 hP21
      have hR21 := zMr_bv hP21 hR
      refine wp_iconst dX10_swap_24 (w_istore3 dX10_swap_25 rfl (by decide) (wp_iconst dX10_swap_26 (w_istore4 dX10_swap_27 rfl (by decide) ?_)))
      exact L29 _ 0 _ _ 0 rfl (by omega) hP21 (Nat.zero_le _) ⟨Or.inl rfl, fun q => absurd q (by decide), fun q => absurd q zdfI_0⟩ hR21.1 (fun q hq j hj => by rw [if_neg (by omega)]; exact hR21.2 q hq j hj) (fun a j ha => rfl)
    · skip
      refine wp_iconst dX10_swap_18 ?_
      refine r_i dX10_swap_19 rfl meX10_swap ?_
      exact zPV_q H zFV_r (zif_n (by first | omega | (dsimp only; omega))) rfl
set_option maxRecDepth 100000 in
set_option maxHeartbeats 4000000 in
theorem t_X10_combine {h : zH} {p : Int} {c : Nat → Nat → Int} {hs : List (Int × (Nat → Nat → Int))} {tx : Nat → Int} {L : Nat} (H : zVd p c hs tx L h) {k l cc i j e : Int} (zk : zin k) (zl : zin l) (zcc : zin cc) (zi : zin i) (zj : zin j) (ze : zin e) : CI yX10_combine mX10_combine [vR 445, vI k, vI l, vI cc, vI i, vI j, vI e] h (fun r h' => zPV (sp_combine (p, c, hs, tx, L) k l cc i j e) h r h') := by
  refine inV [some (vR 445), some (vI k), some (vI l), some (vI cc), some (vI i), some (vI j), some (vI e), none, none, none] mvX10_combine rfl (Nat.le_of_ble_eq_true rfl) rfl ?_
  obtain ⟨hs1, hR, hH, hT, hK, hO⟩ := id H
  have hp := hs1.p
  have hp0 : h 446 0 = p := hR.1
  have hpp : 0 < p := by omega
  have zk1 := zk.1
  have zk2 := zk.2
  have zl1 := zl.1
  have zl2 := zl.2
  have zcc1 := zcc.1
  have zcc2 := zcc.2
  have zi1 := zi.1
  have zi2 := zi.2
  have zj1 := zj.1
  have zj2 := zj.2
  have ze1 := ze.1
  have ze2 := ze.2
  have L40 : ∀ (zm40 : Nat) (q : Nat), 27 - q = zm40 → (zoM p k l cc i j e) → (q ≤ 27) → (cc = 0 ∨ zlvI (c l.toNat) i.toNat j.toNat e.toNat q) → WP mX10_combine (zMQ mX10_combine (zKI (fun r h' => zPV (sp_combine (p, c, hs, tx, L) k l cc i j e) h r h'))) 40 [some (vR 445), some (vI k), some (vI l), some (vI cc), some (vI i), some (vI j), some (vI e), some (vI (q : Int)), none, none] [] zN zGR h := by
    intro zm40
    induction zm40 using Nat.strongRecOn with | _ zm40 ih40 => ?_
    intro q hzm40 hM hq hlv
    subst hzm40
    obtain ⟨hok, hl3, hkl, hcc⟩ := id hM
    obtain ⟨hpl, hpl2, hkk, hk3⟩ := zoT_pl hok
    have hot := hok
    unfold zoT at hot
    have bl := hs1.2 l.toNat q
    have gl : q < 27 → h 446 (1 + 27 * l.toNat + q) = c l.toNat q := fun w => hR.2 _ (by omega) _ w
    have L126 : (¬ (cc ≠ 0 ∧ zleave (c l.toNat) i.toNat j.toNat e.toNat)) → (cc = 0 ∨ zlvI (c l.toNat) i.toNat j.toNat e.toNat 27) → WP mX10_combine (zMQ mX10_combine (zKI (fun r h' => zPV (sp_combine (p, c, hs, tx, L) k l cc i j e) h r h'))) 126 [some (vR 445), some (vI k), some (vI l), some (vI cc), some (vI i), some (vI j), some (vI e), none, none, none] [] zN zGR h := by
      intro  hNL hNI
      have L226 : ∀ (h' h127 : zH), (zBV p c hs h h127) → (zMr p (zpm p c k.toNat l.toNat cc (zpl3 i j e)) h') → (∀ a j, a ≠ 446 → h' a j = h127 a j) → WP mX10_combine (zMQ mX10_combine (zKI (fun r h' => zPV (sp_combine (p, c, hs, tx, L) k l cc i j e) h r h'))) 226 [some (vR 445), some (vI k), none, none, none, none, none, none, none, none] [] zN zGR h' := by
        intro h' h127 hB hPol he
        refine w_aload0 dX10_combine_226 (w_iload1 dX10_combine_227 ?_)
        apply v_i1 (M := mX10_combine) dX10_combine_228 lk_RX10_102 mvX10_termsOf (by decide) meX10_combine is_445 (Nat.le_of_ble_eq_true rfl)
        · exact t_X10_termsOf (p := p) (k := k.toNat) (f := zpm p c k.toNat l.toNat cc (zpl3 i j e) k.toNat) hkk hk3 (fun j' hj => ⟨hPol.2 _ hk3 j' hj, zSt_f (zSt_pm hs1) _ _⟩)
        intro x228 h228 hP228
        obtain ⟨eh228, ex228⟩ := hP228
        replace eh228 := eh228.symm
        subst eh228
        replace ex228 := ex228.symm
        subst ex228
        refine r_i dX10_combine_231 rfl meX10_combine ?_
        exact zPV_c H hB ((zif_y hM).trans (zif_n hNL)) rfl (zSt_pm hs1) hPol he
      have L133 : ∀ (zm133 : Nat) (r_ : Nat) (h' h127 : zH), 27 - r_ = zm133 → (zBV p c hs h h127) → (r_ ≤ 27) → (h' = fun b x => if b = 446 ∧ 1 + 27 * k.toNat + zpl3 i j e ≤ x ∧ x < 1 + 27 * k.toNat + 27 ∧ x < 1 + 27 * k.toNat + zpl3 i j e + r_ then (c k.toNat (x - (1 + 27 * k.toNat)) + cc * c l.toNat (x - (1 + 27 * k.toNat) - zpl3 i j e)) % p else h127 b x) → WP mX10_combine (zMQ mX10_combine (zKI (fun r h' => zPV (sp_combine (p, c, hs, tx, L) k l cc i j e) h r h'))) 133 [some (vR 445), some (vI k), some (vI l), some (vI cc), some (vI i), some (vI j), some (vI e), some (vI (r_ : Int)), none, none] [] zN zGR h' := by
        intro zm133
        induction zm133 using Nat.strongRecOn with | _ zm133 ih133 => ?_
        intro r_ h' h127 hzm133 hB hr hh
        subst hzm133
        have hRb := zMr_bv hB hR
        have ep : h' 446 0 = p := by rw [hh]; dsimp only; rw [if_neg (by omega)]; exact hRb.1
        have gl2 : r_ < 27 → h' 446 (1 + 27 * l.toNat + r_) = c l.toNat r_ := fun w => by rw [hh]; dsimp only; rw [if_neg (by omega)]; exact hRb.2 _ (by omega) _ w
        have br := hs1.2 l.toNat r_
        refine w_iload7 dX10_combine_133 (wp_bipush dX10_combine_135 (by decide) ?_)
        refine wp_icmp_ge 226 dX10_combine_137 rfl ⟨by omega, by omega⟩ ⟨by omega, by omega⟩ (fun c137 => ?_) (fun c137 => ?_)
        · skip
          refine w_forget2 ?_
          refine w_forget3 ?_
          refine w_forget4 ?_
          refine w_forget5 ?_
          refine w_forget6 ?_
          refine w_forget7 ?_
          have hfin : cc = 0 ∨ r_ = 27 := by
            first
            | exact Or.inl c141
            | exact Or.inr (by omega)
          refine L226 _ _ hB ⟨ep, fun q hq x hx => ?_⟩ (fun a x ha => by rw [hh]; dsimp only; rw [if_neg (by omega)])
          rw [hh]
          try dsimp only
          have e7 := hRb.2 q hq x hx
          unfold zpm
          by_cases w : q = k.toNat ∧ zpl3 i j e ≤ x ∧ x < 27
          · rw [if_pos w]
            have e8 := hs1.2 k.toNat x
            rcases hfin with a | a
            · have ez : (c k.toNat x + cc * c l.toNat (x - zpl3 i j e)) % p = c k.toNat x := by rw [a, Int.zero_mul, Int.add_zero, Int.emod_eq_of_lt e8.1 e8.2]
              rw [ez]
              split
              · rw [a, Int.zero_mul, Int.add_zero, show 1 + 27 * q + x - (1 + 27 * k.toNat) = x by omega, Int.emod_eq_of_lt e8.1 e8.2]
              · rw [e7, w.1]
            · rw [if_pos (by omega), show 1 + 27 * q + x - (1 + 27 * k.toNat) = x by omega]
          · rw [if_neg w, if_neg (by omega)]
            exact e7
        · skip
          refine w_iload3 dX10_combine_140 ?_
          refine wp_if_eq 226 dX10_combine_141 rfl ⟨by omega, by omega⟩ (fun c141 => ?_) (fun c141 => ?_)
          · skip
            refine w_forget2 ?_
            refine w_forget3 ?_
            refine w_forget4 ?_
            refine w_forget5 ?_
            refine w_forget6 ?_
            refine w_forget7 ?_
            have hfin : cc = 0 ∨ r_ = 27 := by
              first
              | exact Or.inl c141
              | exact Or.inr (by omega)
            refine L226 _ _ hB ⟨ep, fun q hq x hx => ?_⟩ (fun a x ha => by rw [hh]; dsimp only; rw [if_neg (by omega)])
            rw [hh]
            try dsimp only
            have e7 := hRb.2 q hq x hx
            unfold zpm
            by_cases w : q = k.toNat ∧ zpl3 i j e ≤ x ∧ x < 27
            · rw [if_pos w]
              have e8 := hs1.2 k.toNat x
              rcases hfin with a | a
              · have ez : (c k.toNat x + cc * c l.toNat (x - zpl3 i j e)) % p = c k.toNat x := by rw [a, Int.zero_mul, Int.add_zero, Int.emod_eq_of_lt e8.1 e8.2]
                rw [ez]
                split
                · rw [a, Int.zero_mul, Int.add_zero, show 1 + 27 * q + x - (1 + 27 * k.toNat) = x by omega, Int.emod_eq_of_lt e8.1 e8.2]
                · rw [e7, w.1]
              · rw [if_pos (by omega), show 1 + 27 * q + x - (1 + 27 * k.toNat) = x by omega]
            · rw [if_neg w, if_neg (by omega)]
              exact e7
          · skip
            refine w_aload0 dX10_combine_144 (wp_getr 446 dX10_combine_145 fl_RX10_7 is_445 rfl (wp_iconst dX10_combine_148 (wp_bipush dX10_combine_149 (by decide) (w_iload2 dX10_combine_151 (wp_imul dX10_combine_152 (wp_iadd dX10_combine_153 (w_iload7 dX10_combine_154 (wp_iadd dX10_combine_156 (x_iald (1 + 27 * l.toNat + r_) dX10_combine_157 is_446 (by omega) (by omega) ?_)))))))))
            rw [gl2 (by omega)]
            refine w_istore8 dX10_combine_158 rfl (by decide) (w_iload8 dX10_combine_160 ?_)
            refine wp_if_eq 220 dX10_combine_162 rfl ⟨by omega, by omega⟩ (fun c162 => ?_) (fun c162 => ?_)
            · skip
              refine w_iinc7 dX10_combine_220 rfl (by decide) (wp_goto 133 dX10_combine_223 rfl ?_)
              refine w_forget8 ?_
              first
              | (have c9 : c l.toNat r_ = 0 := c162
                 refine ih133 _ (by omega) (r_ + 1) _ h127 rfl hB (by omega) ?_
                 rw [hh]
                 funext b x
                 try dsimp only
                 by_cases e5 : b = 446 ∧ 1 + 27 * k.toNat + zpl3 i j e ≤ x ∧ x < 1 + 27 * k.toNat + 27 ∧ x < 1 + 27 * k.toNat + zpl3 i j e + r_
                 · rw [if_pos e5, if_pos (by omega)]
                 · rw [if_neg e5]
                   by_cases e6 : b = 446 ∧ 1 + 27 * k.toNat + zpl3 i j e ≤ x ∧ x < 1 + 27 * k.toNat + 27 ∧ x < 1 + 27 * k.toNat + zpl3 i j e + (r_ + 1)
                   · have e7 := hRb.2 k.toNat hk3 (x - (1 + 27 * k.toNat)) (by omega)
                     rw [show 1 + 27 * k.toNat + (x - (1 + 27 * k.toNat)) = x by omega] at e7
                     have e8 := hs1.2 k.toNat (x - (1 + 27 * k.toNat))
                     rw [if_pos e6, show x - (1 + 27 * k.toNat) - zpl3 i j e = r_ by omega, c9, Int.mul_zero, Int.add_zero, Int.emod_eq_of_lt e8.1 e8.2, e6.1, e7]
                   · rw [if_neg e6])
              | (refine ih133 _ (by omega) (r_ + 1) _ h127 rfl hB (by omega) ?_
                 rw [hh]
                 funext b x
                 by_cases e9 : b = 446 ∧ x = 1 + 27 * k.toNat + (r_ + zpl3 i j e)
                 · rw [e9.1, e9.2, zup_s]
                   try dsimp only
                   rw [if_pos (by omega), show 1 + 27 * k.toNat + (r_ + zpl3 i j e) - (1 + 27 * k.toNat) = r_ + zpl3 i j e by omega, show r_ + zpl3 i j e - zpl3 i j e = r_ by omega]
                 · rw [zup_o e9]
                   try dsimp only
                   by_cases e5 : b = 446 ∧ 1 + 27 * k.toNat + zpl3 i j e ≤ x ∧ x < 1 + 27 * k.toNat + 27 ∧ x < 1 + 27 * k.toNat + zpl3 i j e + r_
                   · rw [if_pos e5, if_pos (by omega)]
                   · rw [if_neg e5, if_neg (by omega)])
            · skip
              refine w_iload1 dX10_combine_165 (w_iload7 dX10_combine_166 (wp_bipush dX10_combine_168 (by decide) (wp_idiv dX10_combine_170 (by omega) (by omega) (w_iload4 dX10_combine_171 (wp_iadd dX10_combine_173 (w_iload7 dX10_combine_174 (wp_bipush dX10_combine_176 (by decide) (wp_irem dX10_combine_178 (by omega) (by omega) (wp_iconst dX10_combine_179 ?_)))))))))
              refine wp_idiv dX10_combine_180 (by omega) (by omega) (w_iload5 dX10_combine_181 (wp_iadd dX10_combine_183 (w_iload7 dX10_combine_184 (wp_iconst dX10_combine_186 (wp_irem dX10_combine_187 (by omega) (by omega) (w_iload6 dX10_combine_188 (wp_iadd dX10_combine_190 ?_)))))))
              have hcz : cc ≠ 0 := by omega
              have hin : zins r_ i.toNat j.toNat e.toNat := by
                rcases hNI with a | a
                · exact absurd a hcz
                · rcases a r_ (by omega) with b | b
                  · exact absurd b (by omega)
                  · exact b
              unfold zins at hin
              apply s_i4 (M := mX10_combine) dX10_combine_191 lk_RX10_84 mvX10_at (by decide) meX10_combine (Nat.le_of_ble_eq_true rfl)
              · exact t_X10_at
              intro x191 h191 hP191
              obtain ⟨eh191, ex191⟩ := hP191
              replace eh191 := eh191.symm
              subst eh191
              replace ex191 := ex191.symm
              subst ex191
              have hto : h' 446 (1 + 27 * k.toNat + (r_ + zpl3 i j e)) = c k.toNat (r_ + zpl3 i j e) := by
                have hz3 : zpl3 i j e = 9 * i.toNat + 3 * j.toNat + e.toNat := rfl
                rw [hh]
                try dsimp only
                rw [if_neg (by omega)]
                exact hRb.2 _ hk3 _ (by omega)
              have hz3 : zpl3 i j e = 9 * i.toNat + 3 * j.toNat + e.toNat := rfl
              have bk := hs1.2 k.toNat (r_ + zpl3 i j e)
              have bm := z_mb hcc br hp.2
              refine w_istore9 dX10_combine_194 rfl (by decide) (w_aload0 dX10_combine_196 (wp_getr 446 dX10_combine_197 fl_RX10_7 is_445 rfl (w_iload9 dX10_combine_200 (w_aload0 dX10_combine_202 (wp_getr 446 dX10_combine_203 fl_RX10_7 is_445 rfl (w_iload9 dX10_combine_206 (x_iald (1 + 27 * k.toNat + (r_ + zpl3 i j e)) dX10_combine_208 is_446 (by omega) (by omega) ?_)))))))
              rw [hto]
              refine w_iload3 dX10_combine_209 (w_iload8 dX10_combine_210 (wp_imul dX10_combine_212 (wp_iadd dX10_combine_213 (w_aload0 dX10_combine_214 ?_))))
              apply v_i0 (M := mX10_combine) dX10_combine_215 lk_RX10_76 mvX10_p (by decide) meX10_combine is_445 (Nat.le_of_ble_eq_true rfl)
              · exact t_X10_p ep
              intro x215 h215 hP215
              obtain ⟨eh215, ex215⟩ := hP215
              replace eh215 := eh215.symm
              subst eh215
              replace ex215 := ex215.symm
              subst ex215
              refine wp_irem dX10_combine_218 (by omega) (by omega) (x_iast (1 + 27 * k.toNat + (r_ + zpl3 i j e)) dX10_combine_219 is_446 (by omega) (by omega) (w_iinc7 dX10_combine_220 rfl (by decide) (wp_goto 133 dX10_combine_223 rfl ?_)))
              refine w_forget8 ?_
              refine w_forget9 ?_
              first
              | (have c9 : c l.toNat r_ = 0 := c162
                 refine ih133 _ (by omega) (r_ + 1) _ h127 rfl hB (by omega) ?_
                 rw [hh]
                 funext b x
                 try dsimp only
                 by_cases e5 : b = 446 ∧ 1 + 27 * k.toNat + zpl3 i j e ≤ x ∧ x < 1 + 27 * k.toNat + 27 ∧ x < 1 + 27 * k.toNat + zpl3 i j e + r_
                 · rw [if_pos e5, if_pos (by omega)]
                 · rw [if_neg e5]
                   by_cases e6 : b = 446 ∧ 1 + 27 * k.toNat + zpl3 i j e ≤ x ∧ x < 1 + 27 * k.toNat + 27 ∧ x < 1 + 27 * k.toNat + zpl3 i j e + (r_ + 1)
                   · have e7 := hRb.2 k.toNat hk3 (x - (1 + 27 * k.toNat)) (by omega)
                     rw [show 1 + 27 * k.toNat + (x - (1 + 27 * k.toNat)) = x by omega] at e7
                     have e8 := hs1.2 k.toNat (x - (1 + 27 * k.toNat))
                     rw [if_pos e6, show x - (1 + 27 * k.toNat) - zpl3 i j e = r_ by omega, c9, Int.mul_zero, Int.add_zero, Int.emod_eq_of_lt e8.1 e8.2, e6.1, e7]
                   · rw [if_neg e6])
              | (refine ih133 _ (by omega) (r_ + 1) _ h127 rfl hB (by omega) ?_
                 rw [hh]
                 funext b x
                 by_cases e9 : b = 446 ∧ x = 1 + 27 * k.toNat + (r_ + zpl3 i j e)
                 · rw [e9.1, e9.2, zup_s]
                   try dsimp only
                   rw [if_pos (by omega), show 1 + 27 * k.toNat + (r_ + zpl3 i j e) - (1 + 27 * k.toNat) = r_ + zpl3 i j e by omega, show r_ + zpl3 i j e - zpl3 i j e = r_ by omega]
                 · rw [zup_o e9]
                   try dsimp only
                   by_cases e5 : b = 446 ∧ 1 + 27 * k.toNat + zpl3 i j e ≤ x ∧ x < 1 + 27 * k.toNat + 27 ∧ x < 1 + 27 * k.toNat + zpl3 i j e + r_
                   · rw [if_pos e5, if_pos (by omega)]
                   · rw [if_neg e5, if_neg (by omega)])
      refine w_aload0 dX10_combine_126 ?_
      apply v_v0 (M := mX10_combine) dX10_combine_127 lk_RX10_106 mvX10_begins (by decide) meX10_combine is_445 (Nat.le_of_ble_eq_true rfl)
      · exact t_X10_begins H
      intro h127 hP127
      have hR127 := zMr_bv hP127 hR
      refine wp_iconst dX10_combine_130 (w_istore7 dX10_combine_131 rfl (by decide) ?_)
      exact L133 _ 0 _ _ rfl hP127 (Nat.zero_le _) (by funext b x; rw [if_neg (by omega)])
    have L93 : ∀ (x : Int), (q < 27) → (cc ≠ 0) → ((x = 0 ∨ x = 1) ∧ (x = 1 ↔ ¬ zins q i.toNat j.toNat e.toNat)) → WP mX10_combine (zMQ mX10_combine (zKI (fun r h' => zPV (sp_combine (p, c, hs, tx, L) k l cc i j e) h r h'))) 93 [some (vR 445), some (vI k), some (vI l), some (vI cc), some (vI i), some (vI j), some (vI e), some (vI (q : Int)), none, none] [vI x] zN zGR h := by
      intro x hq27 hc0 hz
      refine w_istore8 dX10_combine_93 rfl (by decide) (w_iload8 dX10_combine_95 ?_)
      refine wp_if_eq 120 dX10_combine_97 rfl ⟨by omega, by omega⟩ (fun c97 => ?_) (fun c97 => ?_)
      · skip
        refine w_iinc7 dX10_combine_120 rfl (by decide) (wp_goto 40 dX10_combine_123 rfl ?_)
        refine w_forget8 ?_
        refine ih40 _ (by omega) (q + 1) rfl hM (by omega) (Or.inr (zlvI_s (hlv.resolve_left hc0) ?_))
        first
        | exact Or.inr (zins_of hz (by omega))
        | exact Or.inl (by omega)
      · skip
        refine w_aload0 dX10_combine_100 (wp_getr 446 dX10_combine_101 fl_RX10_7 is_445 rfl (wp_iconst dX10_combine_104 (wp_bipush dX10_combine_105 (by decide) (w_iload2 dX10_combine_107 (wp_imul dX10_combine_108 (wp_iadd dX10_combine_109 (w_iload7 dX10_combine_110 (wp_iadd dX10_combine_112 (x_iald (1 + 27 * l.toNat + q) dX10_combine_113 is_446 (by omega) (by omega) ?_)))))))))
        rw [gl (by omega)]
        refine wp_if_eq 120 dX10_combine_114 rfl ⟨by omega, by omega⟩ (fun c114 => ?_) (fun c114 => ?_)
        · skip
          refine w_iinc7 dX10_combine_120 rfl (by decide) (wp_goto 40 dX10_combine_123 rfl ?_)
          refine w_forget8 ?_
          refine ih40 _ (by omega) (q + 1) rfl hM (by omega) (Or.inr (zlvI_s (hlv.resolve_left hc0) ?_))
          first
          | exact Or.inr (zins_of hz (by omega))
          | exact Or.inl (by omega)
        · skip
          refine wp_bipush dX10_combine_117 (by decide) ?_
          refine r_i dX10_combine_119 rfl meX10_combine ?_
          exact zPV_q H zFV_r ((zif_y hM).trans (zif_y ⟨hc0, ⟨q, hq27, by omega, hz.2.mp (by omega)⟩⟩)) rfl
    refine w_iload7 dX10_combine_40 (wp_bipush dX10_combine_42 (by decide) ?_)
    refine wp_icmp_ge 126 dX10_combine_44 rfl ⟨by omega, by omega⟩ ⟨by omega, by omega⟩ (fun c44 => ?_) (fun c44 => ?_)
    · skip
      refine w_forget7 ?_
      first
      | (have c9 : cc = 0 := c48
         exact L126 (fun w => w.1 c9) (Or.inl c9))
      | (rw [show q = 27 by omega] at hlv
         exact L126 (fun w => by
           rcases hlv with a | a
           · exact w.1 a
           · exact zlvI_n a w.2) hlv)
    · skip
      refine w_iload3 dX10_combine_47 ?_
      refine wp_if_eq 126 dX10_combine_48 rfl ⟨by omega, by omega⟩ (fun c48 => ?_) (fun c48 => ?_)
      · skip
        refine w_forget7 ?_
        first
        | (have c9 : cc = 0 := c48
           exact L126 (fun w => w.1 c9) (Or.inl c9))
        | (rw [show q = 27 by omega] at hlv
           exact L126 (fun w => by
             rcases hlv with a | a
             · exact w.1 a
             · exact zlvI_n a w.2) hlv)
      · skip
        refine w_iload7 dX10_combine_51 (wp_bipush dX10_combine_53 (by decide) (wp_idiv dX10_combine_55 (by omega) (by omega) (w_iload4 dX10_combine_56 (wp_iadd dX10_combine_58 (wp_iconst dX10_combine_59 ?_)))))
        refine wp_icmp_gt 88 dX10_combine_60 rfl ⟨by omega, by omega⟩ ⟨by omega, by omega⟩ (fun c60 => ?_) (fun c60 => ?_)
        · skip
          refine wp_iconst dX10_combine_88 (wp_goto 93 dX10_combine_89 rfl ?_)
          first
          | exact L93 1 (by omega) c48 ⟨Or.inr rfl, fun _ => by unfold zins; omega, fun _ => rfl⟩
          | exact L93 0 (by omega) c48 ⟨Or.inl rfl, fun w => absurd w (by decide), fun w => by exfalso; apply w; unfold zins; omega⟩
        · skip
          refine w_iload7 dX10_combine_63 (wp_bipush dX10_combine_65 (by decide) (wp_irem dX10_combine_67 (by omega) (by omega) (wp_iconst dX10_combine_68 (wp_idiv dX10_combine_69 (by omega) (by omega) (w_iload5 dX10_combine_70 (wp_iadd dX10_combine_72 (wp_iconst dX10_combine_73 ?_)))))))
          refine wp_icmp_gt 88 dX10_combine_74 rfl ⟨by omega, by omega⟩ ⟨by omega, by omega⟩ (fun c74 => ?_) (fun c74 => ?_)
          · skip
            refine wp_iconst dX10_combine_88 (wp_goto 93 dX10_combine_89 rfl ?_)
            first
            | exact L93 1 (by omega) c48 ⟨Or.inr rfl, fun _ => by unfold zins; omega, fun _ => rfl⟩
            | exact L93 0 (by omega) c48 ⟨Or.inl rfl, fun w => absurd w (by decide), fun w => by exfalso; apply w; unfold zins; omega⟩
          · skip
            refine w_iload7 dX10_combine_77 (wp_iconst dX10_combine_79 (wp_irem dX10_combine_80 (by omega) (by omega) (w_iload6 dX10_combine_81 (wp_iadd dX10_combine_83 (wp_iconst dX10_combine_84 ?_)))))
            refine wp_icmp_le 92 dX10_combine_85 rfl ⟨by omega, by omega⟩ ⟨by omega, by omega⟩ (fun c85 => ?_) (fun c85 => ?_)
            · skip
              refine wp_iconst dX10_combine_92 ?_
              first
              | exact L93 1 (by omega) c48 ⟨Or.inr rfl, fun _ => by unfold zins; omega, fun _ => rfl⟩
              | exact L93 0 (by omega) c48 ⟨Or.inl rfl, fun w => absurd w (by decide), fun w => by exfalso; apply w; unfold zins; omega⟩
            · skip
              refine wp_iconst dX10_combine_88 (wp_goto 93 dX10_combine_89 rfl ?_)
              first
              | exact L93 1 (by omega) c48 ⟨Or.inr rfl, fun _ => by unfold zins; omega, fun _ => rfl⟩
              | exact L93 0 (by omega) c48 ⟨Or.inl rfl, fun w => absurd w (by decide), fun w => by exfalso; apply w; unfold zins; omega⟩
  refine w_iload1 dX10_combine_0 (w_iload4 dX10_combine_1 (w_iload5 dX10_combine_3 (w_iload6 dX10_combine_5 ?_)))
  apply s_i4 (M := mX10_combine) dX10_combine_7 lk_RX10_138 mvX10_isPlace (by decide) meX10_combine (Nat.le_of_ble_eq_true rfl)
  · exact t_X10_isPlace zk zi zj ze
  intro x7 h7 hP7
  obtain ⟨eh7, hP7⟩ := hP7
  replace eh7 := eh7.symm
  subst eh7
  refine wp_if_eq 35 dX10_combine_10 rfl ⟨by omega, by omega⟩ (fun c10 => ?_) (fun c10 => ?_)
  · skip
    refine wp_iconst dX10_combine_35 ?_
    refine r_i dX10_combine_36 rfl meX10_combine ?_
    exact zPV_q H zFV_r (zif_n (fun q => by unfold zoM at q; have := hP7.2.mpr q.1; have q2 := q.2.1; have q3 := q.2.2.1; have q4 := q.2.2.2; dsimp only at q4; clear q; omega)) rfl
  · skip
    refine w_iload2 dX10_combine_13 (wp_iconst dX10_combine_14 (wp_iconst dX10_combine_15 ?_))
    apply s_i3 (M := mX10_combine) dX10_combine_16 lk_RX10_80 mvX10_in (by decide) meX10_combine (Nat.le_of_ble_eq_true rfl)
    · exact t_X10_in zl ⟨by decide, by decide⟩ ⟨by decide, by decide⟩
    intro x16 h16 hP16
    obtain ⟨eh16, hP16⟩ := hP16
    replace eh16 := eh16.symm
    subst eh16
    refine wp_if_eq 35 dX10_combine_19 rfl ⟨by omega, by omega⟩ (fun c19 => ?_) (fun c19 => ?_)
    · skip
      refine wp_iconst dX10_combine_35 ?_
      refine r_i dX10_combine_36 rfl meX10_combine ?_
      exact zPV_q H zFV_r (zif_n (fun q => by unfold zoM at q; have := hP7.2.mpr q.1; have q2 := q.2.1; have q3 := q.2.2.1; have q4 := q.2.2.2; dsimp only at q4; clear q; omega)) rfl
    · skip
      refine w_iload1 dX10_combine_22 (w_iload2 dX10_combine_23 ?_)
      refine wp_icmp_eq 35 dX10_combine_24 rfl ⟨by omega, by omega⟩ ⟨by omega, by omega⟩ (fun c24 => ?_) (fun c24 => ?_)
      · skip
        refine wp_iconst dX10_combine_35 ?_
        refine r_i dX10_combine_36 rfl meX10_combine ?_
        exact zPV_q H zFV_r (zif_n (fun q => by unfold zoM at q; have := hP7.2.mpr q.1; have q2 := q.2.1; have q3 := q.2.2.1; have q4 := q.2.2.2; dsimp only at q4; clear q; omega)) rfl
      · skip
        refine w_aload0 dX10_combine_27 (w_iload3 dX10_combine_28 ?_)
        apply v_i1 (M := mX10_combine) dX10_combine_29 lk_RX10_142 mvX10_isNumber (by decide) meX10_combine is_445 (Nat.le_of_ble_eq_true rfl)
        · exact t_X10_isNumber zcc hp hp0
        intro x29 h29 hP29
        obtain ⟨eh29, hP29⟩ := hP29
        replace eh29 := eh29.symm
        subst eh29
        refine wp_if_ne 37 dX10_combine_32 rfl ⟨by omega, by omega⟩ (fun c32 => ?_) (fun c32 => ?_)
        · skip
          refine wp_iconst dX10_combine_37 (w_istore7 dX10_combine_38 rfl (by decide) ?_)
          have hok : zoT k i j e := hP7.2.mp (by omega)
          exact L40 _ 0 rfl ⟨hok, by omega, by omega, by omega, by omega⟩ (Nat.zero_le _) (Or.inr (fun w hw => absurd hw (Nat.not_lt_zero w)))
        · skip
          refine wp_iconst dX10_combine_35 ?_
          refine r_i dX10_combine_36 rfl meX10_combine ?_
          exact zPV_q H zFV_r (zif_n (fun q => by unfold zoM at q; have := hP7.2.mpr q.1; have q2 := q.2.1; have q3 := q.2.2.1; have q4 := q.2.2.2; dsimp only at q4; clear q; omega)) rfl
set_option maxRecDepth 100000 in
set_option maxHeartbeats 4000000 in
theorem t_X10_shift {h : zH} {p : Int} {c : Nat → Nat → Int} {hs : List (Int × (Nat → Nat → Int))} {tx : Nat → Int} {L : Nat} (H : zVd p c hs tx L h) {cc : Int} (zcc : zin cc) : CI yX10_shift mX10_shift [vR 445, vI cc] h (fun r h' => zPV (sp_shift (p, c, hs, tx, L) cc) h r h') := by
  refine inV [some (vR 445), some (vI cc), none, none, none] mvX10_shift rfl (Nat.le_of_ble_eq_true rfl) rfl ?_
  obtain ⟨hs1, hR, hH, hT, hK, hO⟩ := id H
  have hp := hs1.p
  have hp0 : h 446 0 = p := hR.1
  have hpp : 0 < p := by omega
  have zcc1 := zcc.1
  have zcc2 := zcc.2
  have L16 : ∀ (zm16 : Nat) (w : Nat) (h' h11 : zH) (vq : Int), 27 - w = zm16 → (0 ≤ cc ∧ cc < p) → (zBV p c hs h h11) → (w ≤ 27) → (vq = 1 + 3 * (w : Int)) → (h' = fun b j => if b = 446 ∧ 1 ≤ j ∧ j < 1 + 3 * w then zsh p cc (c ((j - 1) / 27)) ((j - 1) % 27) else h11 b j) → WP mX10_shift (zMQ mX10_shift (zKI (fun r h' => zPV (sp_shift (p, c, hs, tx, L) cc) h r h'))) 16 [some (vR 445), some (vI cc), some (vI vq), none, none] [] zN zGR h' := by
    intro zm16
    induction zm16 using Nat.strongRecOn with | _ zm16 ih16 => ?_
    intro w h' h11 vq hzm16 hok hB hw hvq hh
    subst hzm16
    have hRb := zMr_bv hB hR
    have ep : h' 446 0 = p := by rw [hh]; dsimp only; rw [if_neg (by omega)]; exact hRb.1
    have g0 : ∀ d, d < 3 → w < 27 → h' 446 (1 + 3 * w + d) = c (3 * w / 27) (3 * w % 27 + d) := fun d hd h27 => by
      rw [hh]
      try dsimp only
      rw [if_neg (by omega)]
      have := hRb.2 (3 * w / 27) (by omega) (3 * w % 27 + d) (by omega)
      exact (congrArg (h11 446) (by omega)).trans this
    have f0 := hs1.2 (3 * w / 27) (3 * w % 27 + 0)
    have f1 := hs1.2 (3 * w / 27) (3 * w % 27 + 1)
    have f2 := hs1.2 (3 * w / 27) (3 * w % 27 + 2)
    have m1 := z_mb hok f1 hp.2
    have m2 := z_mb hok hok hp.2
    have m3 := z_mod hpp (cc * cc)
    have m4 := z_mb m3 f2 hp.2
    have m5 := z_mb hok f2 hp.2
    have m6 : 2 * cc * c (3 * w / 27) (3 * w % 27 + 2) = 2 * (cc * c (3 * w / 27) (3 * w % 27 + 2)) := by rw [Int.mul_assoc]
    refine w_iload2 dX10_shift_16 (wp_bipush dX10_shift_17 (by decide) ?_)
    refine wp_icmp_ge 101 dX10_shift_19 rfl ⟨by omega, by omega⟩ ⟨by omega, by omega⟩ (fun c19 => ?_) (fun c19 => ?_)
    · skip
      have hPol : zMr p (zpsh p c cc) h' := ⟨ep, fun k hk j hj => by
        rw [hh]
        try dsimp only
        unfold zpsh
        rw [if_pos (by omega), if_pos ⟨hk, hj⟩, show (1 + 27 * k + j - 1) / 27 = k by omega, show (1 + 27 * k + j - 1) % 27 = j by omega]⟩
      refine w_aload0 dX10_shift_101 ?_
      apply v_i0 (M := mX10_shift) dX10_shift_102 lk_RX10_150 mvX10_terms (by decide) meX10_shift is_445 (Nat.le_of_ble_eq_true rfl)
      · exact t_X10_terms (zSt_psh hs1) hPol
      intro x102 h102 hP102
      obtain ⟨eh102, ex102⟩ := hP102
      replace eh102 := eh102.symm
      subst eh102
      replace ex102 := ex102.symm
      subst ex102
      refine r_i dX10_shift_105 rfl meX10_shift ?_
      refine zPV_c H hB (zif_y hok) rfl (zSt_psh hs1) hPol (fun a j ha => ?_)
      rw [hh]
      try dsimp only
      rw [if_neg (by omega)]
    · skip
      refine w_aload0 dX10_shift_22 (wp_getr 446 dX10_shift_23 fl_RX10_7 is_445 rfl (w_iload2 dX10_shift_26 (wp_iconst dX10_shift_27 (wp_iadd dX10_shift_28 (x_iald (1 + 3 * w + 1) dX10_shift_29 is_446 (by omega) (by omega) ?_)))))
      rw [g0 1 (by omega) (by omega)]
      refine w_istore3 dX10_shift_30 rfl (by decide) (w_aload0 dX10_shift_31 (wp_getr 446 dX10_shift_32 fl_RX10_7 is_445 rfl (w_iload2 dX10_shift_35 (wp_iconst dX10_shift_36 (wp_iadd dX10_shift_37 (x_iald (1 + 3 * w + 2) dX10_shift_38 is_446 (by omega) (by omega) ?_))))))
      rw [g0 2 (by omega) (by omega)]
      refine w_istore4 dX10_shift_39 rfl (by decide) (w_aload0 dX10_shift_41 (wp_getr 446 dX10_shift_42 fl_RX10_7 is_445 rfl (w_iload2 dX10_shift_45 (w_aload0 dX10_shift_46 (wp_getr 446 dX10_shift_47 fl_RX10_7 is_445 rfl (w_iload2 dX10_shift_50 (x_iald (1 + 3 * w + 0) dX10_shift_51 is_446 (by omega) (by omega) ?_)))))))
      rw [g0 0 (by omega) (by omega)]
      refine w_iload1 dX10_shift_52 (w_iload3 dX10_shift_53 (wp_imul dX10_shift_54 (wp_iadd dX10_shift_55 (w_iload1 dX10_shift_56 (w_iload1 dX10_shift_57 (wp_imul dX10_shift_58 (w_aload0 dX10_shift_59 ?_)))))))
      apply v_i0 (M := mX10_shift) dX10_shift_60 lk_RX10_76 mvX10_p (by decide) meX10_shift is_445 (Nat.le_of_ble_eq_true rfl)
      · exact t_X10_p ep
      intro x60 h60 hP60
      obtain ⟨eh60, ex60⟩ := hP60
      replace eh60 := eh60.symm
      subst eh60
      replace ex60 := ex60.symm
      subst ex60
      refine wp_irem dX10_shift_63 (by omega) (by omega) (w_iload4 dX10_shift_64 (wp_imul dX10_shift_66 (wp_iadd dX10_shift_67 (w_aload0 dX10_shift_68 ?_))))
      apply v_i0 (M := mX10_shift) dX10_shift_69 lk_RX10_76 mvX10_p (by decide) meX10_shift is_445 (Nat.le_of_ble_eq_true rfl)
      · exact t_X10_p ep
      intro x69 h69 hP69
      obtain ⟨eh69, ex69⟩ := hP69
      replace eh69 := eh69.symm
      subst eh69
      replace ex69 := ex69.symm
      subst ex69
      refine wp_irem dX10_shift_72 (by omega) (by omega) (x_iast (1 + 3 * w + 0) dX10_shift_73 is_446 (by omega) (by omega) (w_aload0 dX10_shift_74 (wp_getr 446 dX10_shift_75 fl_RX10_7 is_445 rfl (w_iload2 dX10_shift_78 (wp_iconst dX10_shift_79 (wp_iadd dX10_shift_80 (w_iload3 dX10_shift_81 (wp_iconst dX10_shift_82 (w_iload1 dX10_shift_83 ?_)))))))))
      refine wp_imul dX10_shift_84 (w_iload4 dX10_shift_85 (wp_imul dX10_shift_87 (wp_iadd dX10_shift_88 (w_aload0 dX10_shift_89 ?_))))
      apply v_i0 (M := mX10_shift) dX10_shift_90 lk_RX10_76 mvX10_p (by decide) meX10_shift is_445 (Nat.le_of_ble_eq_true rfl)
      · exact t_X10_p (p := p) (by rw [zup_o (by omega)]; exact ep)
      intro x90 h90 hP90
      obtain ⟨eh90, ex90⟩ := hP90
      replace eh90 := eh90.symm
      subst eh90
      replace ex90 := ex90.symm
      subst ex90
      refine wp_irem dX10_shift_93 (by omega) (by omega) (x_iast (1 + 3 * w + 1) dX10_shift_94 is_446 (by omega) (by omega) (w_iinc2 dX10_shift_95 rfl (by decide) (wp_goto 16 dX10_shift_98 rfl ?_)))
      refine w_forget3 ?_
      refine w_forget4 ?_
      refine ih16 _ (by omega) (w + 1) _ h11 _ rfl hok hB (by omega) (by omega) ?_
      rw [hh]
      funext b j
      by_cases e1 : b = 446 ∧ j = 1 + 3 * w + 1
      · rw [e1.1, e1.2, zup_s]
        try dsimp only
        rw [if_pos (by omega), show (1 + 3 * w + 1 - 1) / 27 = 3 * w / 27 by omega, show (1 + 3 * w + 1 - 1) % 27 = 3 * w % 27 + 1 by omega]
        exact zsh_1 (j := 3 * w % 27 + 1) (by omega)
      · rw [zup_o e1]
        by_cases e0 : b = 446 ∧ j = 1 + 3 * w + 0
        · rw [e0.1, e0.2, zup_s]
          try dsimp only
          rw [if_pos (by omega), show (1 + 3 * w + 0 - 1) / 27 = 3 * w / 27 by omega, show (1 + 3 * w + 0 - 1) % 27 = 3 * w % 27 + 0 by omega]
          exact zsh_0 (j := 3 * w % 27 + 0) (by omega)
        · rw [zup_o e0]
          try dsimp only
          by_cases e2 : b = 446 ∧ 1 ≤ j ∧ j < 1 + 3 * w
          · rw [if_pos e2, if_pos (by omega)]
          · rw [if_neg e2]
            by_cases e3 : b = 446 ∧ j = 1 + 3 * w + 2
            · have e4 := hRb.2 (3 * w / 27) (by omega) (3 * w % 27 + 2) (by omega)
              rw [show 1 + 27 * (3 * w / 27) + (3 * w % 27 + 2) = 1 + 3 * w + 2 by omega] at e4
              rw [e3.1, e3.2, if_pos (by omega), show (1 + 3 * w + 2 - 1) / 27 = 3 * w / 27 by omega, show (1 + 3 * w + 2 - 1) % 27 = 3 * w % 27 + 2 by omega, e4]
              exact zsh_2 (j := 3 * w % 27 + 2) (by omega)
            · rw [if_neg (by omega)]
  refine w_aload0 dX10_shift_0 (w_iload1 dX10_shift_1 ?_)
  apply v_i1 (M := mX10_shift) dX10_shift_2 lk_RX10_142 mvX10_isNumber (by decide) meX10_shift is_445 (Nat.le_of_ble_eq_true rfl)
  · exact t_X10_isNumber zcc hp hp0
  intro x2 h2 hP2
  obtain ⟨eh2, hP2⟩ := hP2
  replace eh2 := eh2.symm
  subst eh2
  refine wp_if_ne 10 dX10_shift_5 rfl ⟨by omega, by omega⟩ (fun c5 => ?_) (fun c5 => ?_)
  · skip
    refine w_aload0 dX10_shift_10 ?_
    apply v_v0 (M := mX10_shift) dX10_shift_11 lk_RX10_106 mvX10_begins (by decide) meX10_shift is_445 (Nat.le_of_ble_eq_true rfl)
    · exact t_X10_begins H
    intro h11 hP11
    have hR11 := zMr_bv hP11 hR
    refine wp_iconst dX10_shift_14 (w_istore2 dX10_shift_15 rfl (by decide) ?_)
    exact L16 _ 0 _ _ _ rfl (by omega) hP11 (Nat.zero_le _) rfl (by funext b j; rw [if_neg (by omega)])
  · skip
    refine wp_iconst dX10_shift_8 ?_
    refine r_i dX10_shift_9 rfl meX10_shift ?_
    exact zPV_q H zFV_r (zif_n (by first | omega | (dsimp only; omega))) rfl
set_option maxRecDepth 100000 in
set_option maxHeartbeats 4000000 in
theorem t_X10_value {h : zH} {p : Int} {c : Nat → Nat → Int} {hs : List (Int × (Nat → Nat → Int))} {tx : Nat → Int} {L : Nat} (H : zVd p c hs tx L h) {k x y t : Int} (zk : zin k) (zx : zin x) (zy : zin y) (zt : zin t) : CI yX10_value mX10_value [vR 445, vI k, vI x, vI y, vI t] h (fun r h' => zPV (sp_value (p, c, hs, tx, L) k x y t) h r h') := by
  refine inV [some (vR 445), some (vI k), some (vI x), some (vI y), some (vI t)] mvX10_value rfl (Nat.le_of_ble_eq_true rfl) rfl ?_
  obtain ⟨hs1, hR, hH, hT, hK, hO⟩ := id H
  have hp := hs1.p
  have hp0 : h 446 0 = p := hR.1
  have hpp : 0 < p := by omega
  have zk1 := zk.1
  have zk2 := zk.2
  have zx1 := zx.1
  have zx2 := zx.2
  have zy1 := zy.1
  have zy2 := zy.2
  have zt1 := zt.1
  have zt2 := zt.2
  refine w_iload1 dX10_value_0 (wp_iconst dX10_value_1 (wp_iconst dX10_value_2 ?_))
  apply s_i3 (M := mX10_value) dX10_value_3 lk_RX10_80 mvX10_in (by decide) meX10_value (Nat.le_of_ble_eq_true rfl)
  · exact t_X10_in zk ⟨by decide, by decide⟩ ⟨by decide, by decide⟩
  intro x3 h3 hP3
  obtain ⟨eh3, hP3⟩ := hP3
  replace eh3 := eh3.symm
  subst eh3
  refine wp_if_eq 46 dX10_value_6 rfl ⟨by omega, by omega⟩ (fun c6 => ?_) (fun c6 => ?_)
  · skip
    refine wp_iconst dX10_value_46 ?_
    refine r_i dX10_value_47 rfl meX10_value ?_
    first
    | exact zPV_q H zFV_r (zif_y (by unfold zoP; (try dsimp only); omega)) rfl
    | exact zPV_q H zFV_r (zif_n (by unfold zoP; (try dsimp only); omega)) rfl
  · skip
    refine w_aload0 dX10_value_9 (w_iload2 dX10_value_10 ?_)
    apply v_i1 (M := mX10_value) dX10_value_11 lk_RX10_142 mvX10_isNumber (by decide) meX10_value is_445 (Nat.le_of_ble_eq_true rfl)
    · exact t_X10_isNumber zx hp hp0
    intro x11 h11 hP11
    obtain ⟨eh11, hP11⟩ := hP11
    replace eh11 := eh11.symm
    subst eh11
    refine wp_if_eq 46 dX10_value_14 rfl ⟨by omega, by omega⟩ (fun c14 => ?_) (fun c14 => ?_)
    · skip
      refine wp_iconst dX10_value_46 ?_
      refine r_i dX10_value_47 rfl meX10_value ?_
      first
      | exact zPV_q H zFV_r (zif_y (by unfold zoP; (try dsimp only); omega)) rfl
      | exact zPV_q H zFV_r (zif_n (by unfold zoP; (try dsimp only); omega)) rfl
    · skip
      refine w_aload0 dX10_value_17 (w_iload3 dX10_value_18 ?_)
      apply v_i1 (M := mX10_value) dX10_value_19 lk_RX10_142 mvX10_isNumber (by decide) meX10_value is_445 (Nat.le_of_ble_eq_true rfl)
      · exact t_X10_isNumber zy hp hp0
      intro x19 h19 hP19
      obtain ⟨eh19, hP19⟩ := hP19
      replace eh19 := eh19.symm
      subst eh19
      refine wp_if_eq 46 dX10_value_22 rfl ⟨by omega, by omega⟩ (fun c22 => ?_) (fun c22 => ?_)
      · skip
        refine wp_iconst dX10_value_46 ?_
        refine r_i dX10_value_47 rfl meX10_value ?_
        first
        | exact zPV_q H zFV_r (zif_y (by unfold zoP; (try dsimp only); omega)) rfl
        | exact zPV_q H zFV_r (zif_n (by unfold zoP; (try dsimp only); omega)) rfl
      · skip
        refine w_aload0 dX10_value_25 (w_iload4 dX10_value_26 ?_)
        apply v_i1 (M := mX10_value) dX10_value_28 lk_RX10_142 mvX10_isNumber (by decide) meX10_value is_445 (Nat.le_of_ble_eq_true rfl)
        · exact t_X10_isNumber zt hp hp0
        intro x28 h28 hP28
        obtain ⟨eh28, hP28⟩ := hP28
        replace eh28 := eh28.symm
        subst eh28
        refine wp_if_eq 46 dX10_value_31 rfl ⟨by omega, by omega⟩ (fun c31 => ?_) (fun c31 => ?_)
        · skip
          refine wp_iconst dX10_value_46 ?_
          refine r_i dX10_value_47 rfl meX10_value ?_
          first
          | exact zPV_q H zFV_r (zif_y (by unfold zoP; (try dsimp only); omega)) rfl
          | exact zPV_q H zFV_r (zif_n (by unfold zoP; (try dsimp only); omega)) rfl
        · skip
          refine w_aload0 dX10_value_34 (w_iload1 dX10_value_35 (w_iload2 dX10_value_36 (w_iload3 dX10_value_37 (w_iload4 dX10_value_38 ?_))))
          apply v_i4 (M := mX10_value) dX10_value_40 lk_RX10_157 mvX10_valueOf (by decide) meX10_value is_445 (Nat.le_of_ble_eq_true rfl)
          · exact t_X10_valueOf (k := k.toNat) (by omega) (by omega) hs1 hR (by omega) (by omega) (by omega)
          intro x40 h40 hP40
          obtain ⟨eh40, ex40⟩ := hP40
          replace eh40 := eh40.symm
          subst eh40
          replace ex40 := ex40.symm
          subst ex40
          refine wp_goto 47 dX10_value_43 rfl ?_
          refine r_i dX10_value_47 rfl meX10_value ?_
          first
          | exact zPV_q H zFV_r (zif_y (by unfold zoP; (try dsimp only); omega)) rfl
          | exact zPV_q H zFV_r (zif_n (by unfold zoP; (try dsimp only); omega)) rfl
set_option maxRecDepth 100000 in
set_option maxHeartbeats 4000000 in
theorem t_X10_degree {h : zH} {p : Int} {c : Nat → Nat → Int} {hs : List (Int × (Nat → Nat → Int))} {tx : Nat → Int} {L : Nat} (H : zVd p c hs tx L h) {k v : Int} (zk : zin k) (zv : zin v) : CI yX10_degree mX10_degree [vR 445, vI k, vI v] h (fun r h' => zPV (sp_degree (p, c, hs, tx, L) k v) h r h') := by
  refine inV [some (vR 445), some (vI k), some (vI v)] mvX10_degree rfl (Nat.le_of_ble_eq_true rfl) rfl ?_
  obtain ⟨hs1, hR, hH, hT, hK, hO⟩ := id H
  have hp := hs1.p
  have hp0 : h 446 0 = p := hR.1
  have hpp : 0 < p := by omega
  have zk1 := zk.1
  have zk2 := zk.2
  have zv1 := zv.1
  have zv2 := zv.2
  refine w_iload1 dX10_degree_0 (wp_iconst dX10_degree_1 (wp_iconst dX10_degree_2 ?_))
  apply s_i3 (M := mX10_degree) dX10_degree_3 lk_RX10_80 mvX10_in (by decide) meX10_degree (Nat.le_of_ble_eq_true rfl)
  · exact t_X10_in zk ⟨by decide, by decide⟩ ⟨by decide, by decide⟩
  intro x3 h3 hP3
  obtain ⟨eh3, hP3⟩ := hP3
  replace eh3 := eh3.symm
  subst eh3
  refine wp_if_eq 27 dX10_degree_6 rfl ⟨by omega, by omega⟩ (fun c6 => ?_) (fun c6 => ?_)
  · skip
    refine wp_iconst dX10_degree_27 ?_
    refine r_i dX10_degree_28 rfl meX10_degree ?_
    first
    | exact zPV_q H zFV_r (zif_y (by first | omega | (dsimp only; omega))) rfl
    | exact zPV_q H zFV_r (zif_n (by first | omega | (dsimp only; omega))) rfl
  · skip
    refine w_iload2 dX10_degree_9 (wp_iconst dX10_degree_10 (wp_iconst dX10_degree_11 ?_))
    apply s_i3 (M := mX10_degree) dX10_degree_12 lk_RX10_80 mvX10_in (by decide) meX10_degree (Nat.le_of_ble_eq_true rfl)
    · exact t_X10_in zv ⟨by decide, by decide⟩ ⟨by decide, by decide⟩
    intro x12 h12 hP12
    obtain ⟨eh12, hP12⟩ := hP12
    replace eh12 := eh12.symm
    subst eh12
    refine wp_if_eq 27 dX10_degree_15 rfl ⟨by omega, by omega⟩ (fun c15 => ?_) (fun c15 => ?_)
    · skip
      refine wp_iconst dX10_degree_27 ?_
      refine r_i dX10_degree_28 rfl meX10_degree ?_
      first
      | exact zPV_q H zFV_r (zif_y (by first | omega | (dsimp only; omega))) rfl
      | exact zPV_q H zFV_r (zif_n (by first | omega | (dsimp only; omega))) rfl
    · skip
      refine w_aload0 dX10_degree_18 (w_iload1 dX10_degree_19 (w_iload2 dX10_degree_20 ?_))
      apply v_i2 (M := mX10_degree) dX10_degree_21 lk_RX10_160 mvX10_degreeOf (by decide) meX10_degree is_445 (Nat.le_of_ble_eq_true rfl)
      · exact t_X10_degreeOf (k := k.toNat) (v := v.toNat) (f := c k.toNat) (by omega) (by omega) (by omega) (by omega) (fun j hj => ⟨hR.2 _ (by omega) j hj, zSt_f hs1 _ _⟩)
      intro x21 h21 hP21
      obtain ⟨eh21, ex21⟩ := hP21
      replace eh21 := eh21.symm
      subst eh21
      replace ex21 := ex21.symm
      subst ex21
      refine wp_goto 28 dX10_degree_24 rfl ?_
      refine r_i dX10_degree_28 rfl meX10_degree ?_
      first
      | exact zPV_q H zFV_r (zif_y (by first | omega | (dsimp only; omega))) rfl
      | exact zPV_q H zFV_r (zif_n (by first | omega | (dsimp only; omega))) rfl
set_option maxRecDepth 100000 in
set_option maxHeartbeats 4000000 in
theorem t_X10_degreeAt {h : zH} {p : Int} {c : Nat → Nat → Int} {hs : List (Int × (Nat → Nat → Int))} {tx : Nat → Int} {L : Nat} (H : zVd p c hs tx L h) {k v t : Int} (zk : zin k) (zv : zin v) (zt : zin t) : CI yX10_degreeAt mX10_degreeAt [vR 445, vI k, vI v, vI t] h (fun r h' => zPV (sp_degreeAt (p, c, hs, tx, L) k v t) h r h') := by
  refine inV [some (vR 445), some (vI k), some (vI v), some (vI t)] mvX10_degreeAt rfl (Nat.le_of_ble_eq_true rfl) rfl ?_
  obtain ⟨hs1, hR, hH, hT, hK, hO⟩ := id H
  have hp := hs1.p
  have hp0 : h 446 0 = p := hR.1
  have hpp : 0 < p := by omega
  have zk1 := zk.1
  have zk2 := zk.2
  have zv1 := zv.1
  have zv2 := zv.2
  have zt1 := zt.1
  have zt2 := zt.2
  refine w_iload1 dX10_degreeAt_0 (wp_iconst dX10_degreeAt_1 (wp_iconst dX10_degreeAt_2 ?_))
  apply s_i3 (M := mX10_degreeAt) dX10_degreeAt_3 lk_RX10_80 mvX10_in (by decide) meX10_degreeAt (Nat.le_of_ble_eq_true rfl)
  · exact t_X10_in zk ⟨by decide, by decide⟩ ⟨by decide, by decide⟩
  intro x3 h3 hP3
  obtain ⟨eh3, hP3⟩ := hP3
  replace eh3 := eh3.symm
  subst eh3
  refine wp_if_eq 36 dX10_degreeAt_6 rfl ⟨by omega, by omega⟩ (fun c6 => ?_) (fun c6 => ?_)
  · skip
    refine wp_iconst dX10_degreeAt_36 ?_
    refine r_i dX10_degreeAt_37 rfl meX10_degreeAt ?_
    first
    | exact zPV_q H zFV_r (zif_y (by first | omega | (dsimp only; omega))) rfl
    | exact zPV_q H zFV_r (zif_n (by first | omega | (dsimp only; omega))) rfl
  · skip
    refine w_iload2 dX10_degreeAt_9 (wp_iconst dX10_degreeAt_10 (wp_iconst dX10_degreeAt_11 ?_))
    apply s_i3 (M := mX10_degreeAt) dX10_degreeAt_12 lk_RX10_80 mvX10_in (by decide) meX10_degreeAt (Nat.le_of_ble_eq_true rfl)
    · exact t_X10_in zv ⟨by decide, by decide⟩ ⟨by decide, by decide⟩
    intro x12 h12 hP12
    obtain ⟨eh12, hP12⟩ := hP12
    replace eh12 := eh12.symm
    subst eh12
    refine wp_if_eq 36 dX10_degreeAt_15 rfl ⟨by omega, by omega⟩ (fun c15 => ?_) (fun c15 => ?_)
    · skip
      refine wp_iconst dX10_degreeAt_36 ?_
      refine r_i dX10_degreeAt_37 rfl meX10_degreeAt ?_
      first
      | exact zPV_q H zFV_r (zif_y (by first | omega | (dsimp only; omega))) rfl
      | exact zPV_q H zFV_r (zif_n (by first | omega | (dsimp only; omega))) rfl
    · skip
      refine w_aload0 dX10_degreeAt_18 (w_iload3 dX10_degreeAt_19 ?_)
      apply v_i1 (M := mX10_degreeAt) dX10_degreeAt_20 lk_RX10_142 mvX10_isNumber (by decide) meX10_degreeAt is_445 (Nat.le_of_ble_eq_true rfl)
      · exact t_X10_isNumber zt hp hp0
      intro x20 h20 hP20
      obtain ⟨eh20, hP20⟩ := hP20
      replace eh20 := eh20.symm
      subst eh20
      refine wp_if_eq 36 dX10_degreeAt_23 rfl ⟨by omega, by omega⟩ (fun c23 => ?_) (fun c23 => ?_)
      · skip
        refine wp_iconst dX10_degreeAt_36 ?_
        refine r_i dX10_degreeAt_37 rfl meX10_degreeAt ?_
        first
        | exact zPV_q H zFV_r (zif_y (by first | omega | (dsimp only; omega))) rfl
        | exact zPV_q H zFV_r (zif_n (by first | omega | (dsimp only; omega))) rfl
      · skip
        refine w_aload0 dX10_degreeAt_26 (w_iload1 dX10_degreeAt_27 (w_iload2 dX10_degreeAt_28 (w_iload3 dX10_degreeAt_29 ?_)))
        apply v_i3 (M := mX10_degreeAt) dX10_degreeAt_30 lk_RX10_166 mvX10_cutDegree (by decide) meX10_degreeAt is_445 (Nat.le_of_ble_eq_true rfl)
        · exact t_X10_cutDegree (k := k.toNat) (v := v.toNat) (by omega) (by omega) (by omega) (by omega) hs1 hR (by omega)
        intro x30 h30 hP30
        obtain ⟨eh30, ex30⟩ := hP30
        replace eh30 := eh30.symm
        subst eh30
        replace ex30 := ex30.symm
        subst ex30
        refine wp_goto 37 dX10_degreeAt_33 rfl ?_
        refine r_i dX10_degreeAt_37 rfl meX10_degreeAt ?_
        first
        | exact zPV_q H zFV_r (zif_y (by first | omega | (dsimp only; omega))) rfl
        | exact zPV_q H zFV_r (zif_n (by first | omega | (dsimp only; omega))) rfl
set_option maxRecDepth 100000 in
set_option maxHeartbeats 4000000 in
theorem t_X10_degreeDrops {h : zH} {p : Int} {c : Nat → Nat → Int} {hs : List (Int × (Nat → Nat → Int))} {tx : Nat → Int} {L : Nat} (H : zVd p c hs tx L h) : CI yX10_degreeDrops mX10_degreeDrops [vR 445] h (fun r h' => zPV (sp_degreeDrops (p, c, hs, tx, L)) h r h') := by
  refine inV [some (vR 445), none, none, none, none] mvX10_degreeDrops rfl (Nat.le_of_ble_eq_true rfl) rfl ?_
  obtain ⟨hs1, hR, hH, hT, hK, hO⟩ := id H
  have hp := hs1.p
  have hp0 : h 446 0 = p := hR.1
  have hpp : 0 < p := by omega
  have hf : ∀ k, k < 3 → ∀ j, j < 27 → h 446 (1 + 27 * k + j) = c k j ∧ 0 ≤ c k j ∧ c k j < 31 := fun k hk j hj => ⟨hR.2 k hk j hj, zSt_f hs1 k j⟩
  have L4 : ∀ (zm4 : Nat) (t : Nat) (s : Int), p.toNat - t = zm4 → ((t : Int) ≤ p) → (s = (zmk (fun t => zdrop p c (t : Int)) t : Int)) → WP mX10_degreeDrops (zMQ mX10_degreeDrops (zKI (fun r h' => zPV (sp_degreeDrops (p, c, hs, tx, L)) h r h'))) 4 [some (vR 445), some (vI s), some (vI (t : Int)), none, none] [] zN zGR h := by
    intro zm4
    induction zm4 using Nat.strongRecOn with | _ zm4 ih4 => ?_
    intro t s hzm4 ht hsw
    subst hzm4
    have L14 : ∀ (zm14 : Nat) (k : Nat) (s2 : Int), 3 - k = zm14 → ((t : Int) < p) → (k ≤ 3) → (s2 = (zdrN p c t k : Int)) → WP mX10_degreeDrops (zMQ mX10_degreeDrops (zKI (fun r h' => zPV (sp_degreeDrops (p, c, hs, tx, L)) h r h'))) 14 [some (vR 445), some (vI s2), some (vI (t : Int)), some (vI (k : Int)), none] [] zN zGR h := by
      intro zm14
      induction zm14 using Nat.strongRecOn with | _ zm14 ih14 => ?_
      intro k s2 hzm14 htp hk hs2
      subst hzm14
      have d0 := zdeg_le (f := c k) (v := 0) 27 (Nat.le_refl _)
      have d1 := zdeg_le (f := c k) (v := 1) 27 (Nat.le_refl _)
      have e0 := zdgA_le (p := p) (c := c) (k := k) (v := 0) (t := (t : Int)) 9 (Nat.le_refl _)
      have e1 := zdgA_le (p := p) (c := c) (k := k) (v := 1) (t := (t : Int)) 9 (Nat.le_refl _)
      have L56 : ∀ (x : Int), (k < 3) → ((x = 0 ∨ x = 1) ∧ (x = 1 ↔ zdr1 p c (t : Int) k)) → WP mX10_degreeDrops (zMQ mX10_degreeDrops (zKI (fun r h' => zPV (sp_degreeDrops (p, c, hs, tx, L)) h r h'))) 56 [some (vR 445), some (vI s2), some (vI (t : Int)), some (vI (k : Int)), none] [vI x] zN zGR h := by
        intro x hk3 hx
        have L71 : ∀ (w : Int), ((w = 0 ∧ ¬ zdr1 p c (t : Int) k) ∨ (w = 1 * 2 ^ ((t : Nat) : Int).toNat ∧ zdr1 p c (t : Int) k)) → WP mX10_degreeDrops (zMQ mX10_degreeDrops (zKI (fun r h' => zPV (sp_degreeDrops (p, c, hs, tx, L)) h r h'))) 71 [some (vR 445), none, some (vI (t : Int)), some (vI (k : Int)), none] [vI w, vI s2] zN zGR h := by
          intro w hw
          have hsb := zdrN_lt (p := p) (c := c) (t := t) (k := k) (by omega)
          have hwb : 0 ≤ w ∧ w < 2147483648 := by
            rcases hw with ⟨a, -⟩ | ⟨a, -⟩
            · omega
            · rw [a]; exact z_1s t (by omega)
          refine wp_ior dX10_degreeDrops_71 (by omega) hwb (w_istore1 dX10_degreeDrops_72 rfl (by decide) (w_iinc3 dX10_degreeDrops_73 rfl (by decide) (wp_goto 14 dX10_degreeDrops_76 rfl ?_)))
          rcases hw with ⟨a, b⟩ | ⟨a, b⟩
          · refine ih14 _ (by omega) (k + 1) _ rfl htp (by omega) ?_
            rw [a, hs2, z_or0, zdrN_n b]
          · refine ih14 _ (by omega) (k + 1) _ rfl htp (by omega) ?_
            rw [a, hs2, z_or1, zdrN_y b]
        refine w_istore4 dX10_degreeDrops_56 rfl (by decide) (w_iload1 dX10_degreeDrops_58 (w_iload4 dX10_degreeDrops_59 ?_))
        refine wp_if_eq 70 dX10_degreeDrops_61 rfl ⟨by omega, by omega⟩ (fun c61 => ?_) (fun c61 => ?_)
        · skip
          refine wp_iconst dX10_degreeDrops_70 ?_
          refine w_forget1 ?_
          refine w_forget4 ?_
          first
          | exact L71 _ (Or.inr ⟨rfl, hx.2.mp (by omega)⟩)
          | exact L71 _ (Or.inl ⟨rfl, fun q => by have := hx.2.mpr q; omega⟩)
        · skip
          refine wp_iconst dX10_degreeDrops_64 (w_iload2 dX10_degreeDrops_65 (wp_ishl dX10_degreeDrops_66 (by omega) (wp_goto 71 dX10_degreeDrops_67 rfl ?_)))
          refine w_forget1 ?_
          refine w_forget4 ?_
          first
          | exact L71 _ (Or.inr ⟨rfl, hx.2.mp (by omega)⟩)
          | exact L71 _ (Or.inl ⟨rfl, fun q => by have := hx.2.mpr q; omega⟩)
      refine w_iload3 dX10_degreeDrops_14 (wp_iconst dX10_degreeDrops_15 ?_)
      refine wp_icmp_ge 79 dX10_degreeDrops_16 rfl ⟨by omega, by omega⟩ ⟨by omega, by omega⟩ (fun c16 => ?_) (fun c16 => ?_)
      · skip
        refine w_iinc2 dX10_degreeDrops_79 rfl (by decide) (wp_goto 4 dX10_degreeDrops_82 rfl ?_)
        refine w_forget3 ?_
        refine ih4 _ (by omega) (t + 1) _ rfl (by omega) ?_
        rw [hs2, show k = 3 by omega, zdrN_3]
      · skip
        refine w_aload0 dX10_degreeDrops_19 (w_iload3 dX10_degreeDrops_20 (wp_iconst dX10_degreeDrops_21 (w_iload2 dX10_degreeDrops_22 ?_)))
        apply v_i3 (M := mX10_degreeDrops) dX10_degreeDrops_23 lk_RX10_166 mvX10_cutDegree (by decide) meX10_degreeDrops is_445 (Nat.le_of_ble_eq_true rfl)
        · exact t_X10_cutDegree (k := k) (v := 0) rfl (by omega) rfl (by decide) hs1 hR (by omega)
        intro x23 h23 hP23
        obtain ⟨eh23, ex23⟩ := hP23
        replace eh23 := eh23.symm
        subst eh23
        replace ex23 := ex23.symm
        subst ex23
        refine w_aload0 dX10_degreeDrops_26 (w_iload3 dX10_degreeDrops_27 (wp_iconst dX10_degreeDrops_28 ?_))
        apply v_i2 (M := mX10_degreeDrops) dX10_degreeDrops_29 lk_RX10_160 mvX10_degreeOf (by decide) meX10_degreeDrops is_445 (Nat.le_of_ble_eq_true rfl)
        · exact t_X10_degreeOf (k := k) (v := 0) rfl (by omega) rfl (by decide) (hf k (by omega))
        intro x29 h29 hP29
        obtain ⟨eh29, ex29⟩ := hP29
        replace eh29 := eh29.symm
        subst eh29
        replace ex29 := ex29.symm
        subst ex29
        refine wp_icmp_lt 51 dX10_degreeDrops_32 rfl ⟨by omega, by omega⟩ ⟨by omega, by omega⟩ (fun c32 => ?_) (fun c32 => ?_)
        · skip
          refine wp_iconst dX10_degreeDrops_51 (wp_goto 56 dX10_degreeDrops_52 rfl ?_)
          exact L56 _ (by omega) (by unfold zdr1; omega)
        · skip
          refine w_aload0 dX10_degreeDrops_35 (w_iload3 dX10_degreeDrops_36 (wp_iconst dX10_degreeDrops_37 (w_iload2 dX10_degreeDrops_38 ?_)))
          apply v_i3 (M := mX10_degreeDrops) dX10_degreeDrops_39 lk_RX10_166 mvX10_cutDegree (by decide) meX10_degreeDrops is_445 (Nat.le_of_ble_eq_true rfl)
          · exact t_X10_cutDegree (k := k) (v := 1) rfl (by omega) rfl (by decide) hs1 hR (by omega)
          intro x39 h39 hP39
          obtain ⟨eh39, ex39⟩ := hP39
          replace eh39 := eh39.symm
          subst eh39
          replace ex39 := ex39.symm
          subst ex39
          refine w_aload0 dX10_degreeDrops_42 (w_iload3 dX10_degreeDrops_43 (wp_iconst dX10_degreeDrops_44 ?_))
          apply v_i2 (M := mX10_degreeDrops) dX10_degreeDrops_45 lk_RX10_160 mvX10_degreeOf (by decide) meX10_degreeDrops is_445 (Nat.le_of_ble_eq_true rfl)
          · exact t_X10_degreeOf (k := k) (v := 1) rfl (by omega) rfl (by decide) (hf k (by omega))
          intro x45 h45 hP45
          obtain ⟨eh45, ex45⟩ := hP45
          replace eh45 := eh45.symm
          subst eh45
          replace ex45 := ex45.symm
          subst ex45
          refine wp_icmp_ge 55 dX10_degreeDrops_48 rfl ⟨by omega, by omega⟩ ⟨by omega, by omega⟩ (fun c48 => ?_) (fun c48 => ?_)
          · skip
            refine wp_iconst dX10_degreeDrops_55 ?_
            exact L56 _ (by omega) (by unfold zdr1; omega)
          · skip
            refine wp_iconst dX10_degreeDrops_51 (wp_goto 56 dX10_degreeDrops_52 rfl ?_)
            exact L56 _ (by omega) (by unfold zdr1; omega)
    refine w_iload2 dX10_degreeDrops_4 (w_aload0 dX10_degreeDrops_5 ?_)
    apply v_i0 (M := mX10_degreeDrops) dX10_degreeDrops_6 lk_RX10_76 mvX10_p (by decide) meX10_degreeDrops is_445 (Nat.le_of_ble_eq_true rfl)
    · exact t_X10_p hp0
    intro x6 h6 hP6
    obtain ⟨eh6, ex6⟩ := hP6
    replace eh6 := eh6.symm
    subst eh6
    replace ex6 := ex6.symm
    subst ex6
    refine wp_icmp_ge 85 dX10_degreeDrops_9 rfl ⟨by omega, by omega⟩ ⟨by omega, by omega⟩ (fun c9 => ?_) (fun c9 => ?_)
    · skip
      refine w_iload1 dX10_degreeDrops_85 ?_
      refine r_i dX10_degreeDrops_86 rfl meX10_degreeDrops ?_
      rw [show t = p.toNat by omega] at hsw
      exact zPV_q H zFV_r rfl hsw
    · skip
      refine wp_iconst dX10_degreeDrops_12 (w_istore3 dX10_degreeDrops_13 rfl (by decide) ?_)
      exact L14 _ 0 _ rfl (by omega) (Nat.zero_le _) (by rw [hsw, zdrN_0])
  refine wp_iconst dX10_degreeDrops_0 (w_istore1 dX10_degreeDrops_1 rfl (by decide) (wp_iconst dX10_degreeDrops_2 (w_istore2 dX10_degreeDrops_3 rfl (by decide) ?_)))
  exact L4 _ 0 _ rfl (by omega) rfl
set_option maxRecDepth 100000 in
set_option maxHeartbeats 4000000 in
theorem t_X10_size {h : zH} {p : Int} {c : Nat → Nat → Int} {hs : List (Int × (Nat → Nat → Int))} {tx : Nat → Int} {L : Nat} (H : zVd p c hs tx L h) : CI yX10_size mX10_size [vR 445] h (fun r h' => zPV (sp_size (p, c, hs, tx, L)) h r h') := by
  refine inV [some (vR 445)] mvX10_size rfl (Nat.le_of_ble_eq_true rfl) rfl ?_
  obtain ⟨hs1, hR, hH, hT, hK, hO⟩ := id H
  have hp := hs1.p
  have hp0 : h 446 0 = p := hR.1
  have hpp : 0 < p := by omega
  refine w_aload0 dX10_size_0 ?_
  apply v_i0 (M := mX10_size) dX10_size_1 lk_RX10_271 mvX10_isMatrix (by decide) meX10_size is_445 (Nat.le_of_ble_eq_true rfl)
  · exact t_X10_isMatrix hs1 hR
  intro x1 h1 hP1
  obtain ⟨eh1, hP1⟩ := hP1
  replace eh1 := eh1.symm
  subst eh1
  refine wp_if_eq 23 dX10_size_4 rfl ⟨by omega, by omega⟩ (fun c4 => ?_) (fun c4 => ?_)
  · skip
    refine wp_bipush dX10_size_23 (by decide) ?_
    refine r_i dX10_size_25 rfl meX10_size ?_
    first
    | (have c9 : zsd c ≠ 0 := hP1.2.mp (by omega)
       exact zPV_q H zFV_r (zif_n c9) (by rw [show (zsd c : Int) = ((2 * zgd c 0 * zgd c 1 : Nat) : Int) by rw [← zsd_v c9]]; push_cast; rfl))
    | (have c9 : zsd c = 0 := Classical.byContradiction (fun q => by have := hP1.2.mpr q; omega)
       exact zPV_q H zFV_r (zif_y c9) rfl)
  · skip
    refine wp_iconst dX10_size_7 (w_aload0 dX10_size_8 (wp_iconst dX10_size_9 ?_))
    apply v_i1 (M := mX10_size) dX10_size_10 lk_RX10_170 mvX10_greatest (by decide) meX10_size is_445 (Nat.le_of_ble_eq_true rfl)
    · exact t_X10_greatest (v := 0) rfl (by decide) hs1 hR
    intro x10 h10 hP10
    obtain ⟨eh10, ex10⟩ := hP10
    replace eh10 := eh10.symm
    subst eh10
    replace ex10 := ex10.symm
    subst ex10
    refine wp_imul dX10_size_13 (w_aload0 dX10_size_14 (wp_iconst dX10_size_15 ?_))
    apply v_i1 (M := mX10_size) dX10_size_16 lk_RX10_170 mvX10_greatest (by decide) meX10_size is_445 (Nat.le_of_ble_eq_true rfl)
    · exact t_X10_greatest (v := 1) rfl (by decide) hs1 hR
    intro x16 h16 hP16
    obtain ⟨eh16, ex16⟩ := hP16
    replace eh16 := eh16.symm
    subst eh16
    replace ex16 := ex16.symm
    subst ex16
    refine wp_imul dX10_size_19 (wp_goto 25 dX10_size_20 rfl ?_)
    refine r_i dX10_size_25 rfl meX10_size ?_
    first
    | (have c9 : zsd c ≠ 0 := hP1.2.mp (by omega)
       exact zPV_q H zFV_r (zif_n c9) (by rw [show (zsd c : Int) = ((2 * zgd c 0 * zgd c 1 : Nat) : Int) by rw [← zsd_v c9]]; push_cast; rfl))
    | (have c9 : zsd c = 0 := Classical.byContradiction (fun q => by have := hP1.2.mpr q; omega)
       exact zPV_q H zFV_r (zif_y c9) rfl)
