
theorem zps_le {tx : Nat → Int} {L : Nat} {p : Int} : ∀ (f i : Nat) (neg : Bool) (S : Nat → Int), i ≤ L → -1 ≤ (zps tx L p f i neg S).1 ∧ (zps tx L p f i neg S).1 ≤ L := by
  intro f
  induction f with
  | zero => intro i neg S hi; exact ⟨by show -1 ≤ (i : Int); omega, by show (i : Int) ≤ L; omega⟩
  | succ f ih =>
    intro i neg S hi
    have h1 := zsk_le (tx := tx) hi
    have h2 := zTq_le (tx := tx) h1.2
    have h3 := zsk_le (tx := tx) h2.2.1
    unfold zps
    split
    · exact ⟨by dsimp only; omega, by dsimp only; omega⟩
    · split
      · exact ⟨by dsimp only; omega, by dsimp only; omega⟩
      · split
        · exact ⟨by dsimp only; omega, by dsimp only; omega⟩
        · exact ih _ _ _ (by omega)
theorem zparse_le {tx : Nat → Int} {L : Nat} {p : Int} : -1 ≤ (zparse tx L p).1 ∧ (zparse tx L p).1 ≤ L := by
  have h1 := zsk_le (tx := tx) (Nat.zero_le L)
  exact zps_le _ _ _ _ (zsgp_le (tx := tx) h1.2).2
theorem zPX_c {p : Int} {c : Nat → Nat → Int} {hs : List (Int × (Nat → Nat → Int))} {tx : Nat → Int} {L : Nat} {h h1 h' : zH} (H : zWd p c hs tx L h) (B : zBC p c hs h h1) {p' : Int} {c' : Nat → Nat → Int} {s : Int × zS} {v r : Int} (es : s = (v, zch (p, c, hs, tx, L) p' c')) (hr : r = v) (hst : zSt p' c') (hpol : zPol p' c' 2 h') (e : ∀ a j, 7 ≤ a → h' a j = h1 a j) : zPX s h r h' :=
  zPX_i es hr (zWd_ch H B hst hpol e) (fun a j ha => (e a j (by omega)).trans (B.1 a j (by unfold zFbc; omega)))
theorem zPX_q {p : Int} {c : Nat → Nat → Int} {hs : List (Int × (Nat → Nat → Int))} {tx : Nat → Int} {L : Nat} {h h' : zH} (H : zWd p c hs tx L h') (hX : zFX h h') {s : Int × zS} {v r : Int} (es : s = (v, (p, c, hs, tx, L))) (hr : r = v) : zPX s h r h' := zPX_i es hr H hX
theorem zFX_r {h : zH} : zFX h h := fun _ _ _ => rfl
theorem zPol_bc {p : Int} {c : Nat → Nat → Int} {hs : List (Int × (Nat → Nat → Int))} {h h1 : zH} (B : zBC p c hs h h1) {q : Int} {d : Nat → Nat → Int} (H : zPol q d 2 h) : zPol q d 2 h1 := zPol_eq H (fun b j hb1 hb2 => B.1 _ _ (by unfold zFbc; omega))
theorem zoT_pl {k i j e : Int} (h : zoT k i j e) : 9 * i + 3 * j + e = ((zpl3 i j e : Nat) : Int) ∧ zpl3 i j e < 27 ∧ k = (k.toNat : Int) ∧ k.toNat < 3 := by
  unfold zoT at h
  unfold zpl3
  omega
theorem zSt_pt {p : Int} {c : Nat → Nat → Int} (hs : zSt p c) {k j : Nat} {v : Int} (hv : 0 ≤ v ∧ v < p) : zSt p (zpt c k j v) := ⟨hs.1, fun k' j' => by
  unfold zpt
  split
  · exact hv
  · exact hs.2 k' j'⟩
theorem zSt_pd {p : Int} {c : Nat → Nat → Int} (hs : zSt p c) {sd : Int} {u v w : Nat} {th : Int} : zSt p (zpd p sd u v w th) := ⟨hs.1, fun k' j' => by
  unfold zpd
  split
  · exact zdrw_in (by have := hs.p; omega) _ _ _ _ _ _
  · have := hs.p; omega⟩
theorem zSt_ppl {p : Int} {c : Nat → Nat → Int} (hs : zSt p c) {x y t : Int} : zSt p (zppl p c x y t) := ⟨hs.1, fun k' j' => by
  unfold zppl
  split
  · exact z_mod (by have := hs.p; omega) _
  · exact hs.2 k' j'⟩
theorem zSt_pw {p : Int} {c : Nat → Nat → Int} (hs : zSt p c) {k l : Nat} : zSt p (zpw c k l) := ⟨hs.1, fun k' j' => by
  unfold zpw
  split
  · exact hs.2 _ _
  · split <;> exact hs.2 _ _⟩
theorem zSt_pm {p : Int} {c : Nat → Nat → Int} (hs : zSt p c) {k l : Nat} {cc : Int} {off : Nat} : zSt p (zpm p c k l cc off) := ⟨hs.1, fun k' j' => by
  unfold zpm
  split
  · exact z_mod (by have := hs.p; omega) _
  · exact hs.2 _ _⟩
theorem zsh_in {p cc : Int} (hp : 0 < p) {f : Nat → Int} {j : Nat} (hf : 0 ≤ f j ∧ f j < p) : 0 ≤ zsh p cc f j ∧ zsh p cc f j < p := by
  unfold zsh
  split
  · exact z_mod hp _
  · split
    · exact z_mod hp _
    · exact hf
theorem zSt_psh {p : Int} {c : Nat → Nat → Int} (hs : zSt p c) {cc : Int} : zSt p (zpsh p c cc) := ⟨hs.1, fun k' j' => by
  unfold zpsh
  split
  · exact zsh_in (by have := hs.p; omega) (hs.2 _ _)
  · exact hs.2 _ _⟩
theorem zSt_pkc {p : Int} {c : Nat → Nat → Int} (hs : zSt p c) {k : Nat} {F : Nat → Int} (hF : ∀ j, j < 27 → 0 ≤ F j ∧ F j < p) : zSt p (zpkc c k F) := ⟨hs.1, fun k' j' => by
  unfold zpkc
  split
  · next q => exact hF _ q.2
  · exact hs.2 _ _⟩
theorem zSt_f {p : Int} {c : Nat → Nat → Int} (hs : zSt p c) (k j : Nat) : 0 ≤ c k j ∧ c k j < 31 := by
  have h1 := hs.2 k j
  have h2 := hs.p
  omega
theorem zval_in {p : Int} (hp : 0 < p) {c : Nat → Nat → Int} {k : Nat} {x y t : Int} : 0 ≤ zval p c k x y t ∧ zval p c k x y t < p := zhor_in hp _ _

/-- plant, up to polynomial i *-/
def zpp1 (p : Int) (c : Nat → Nat → Int) (x y t : Int) (i : Nat) : Nat → Nat → Int := fun k j => if k < i ∧ j = 0 then (c k 0 - zval p c k x y t) % p else c k j
theorem zpp1_0 {p : Int} {c : Nat → Nat → Int} {x y t : Int} : zpp1 p c x y t 0 = c := by
  funext k j
  unfold zpp1
  rw [if_neg (by omega)]
theorem zSt_pp1 {p : Int} {c : Nat → Nat → Int} (hs : zSt p c) {x y t : Int} {i : Nat} : zSt p (zpp1 p c x y t i) := ⟨hs.1, fun k' j' => by
  unfold zpp1
  split
  · exact z_mod (by have := hs.p; omega) _
  · exact hs.2 k' j'⟩
theorem zpp1_s0 {p : Int} {c : Nat → Nat → Int} (hs : zSt p c) {x y t : Int} {i : Nat} (h : zval p c i x y t = 0) : zpp1 p c x y t (i + 1) = zpp1 p c x y t i := by
  funext k j
  unfold zpp1
  by_cases w : k < i ∧ j = 0
  · rw [if_pos w, if_pos ⟨by omega, w.2⟩]
  · rw [if_neg w]
    by_cases w2 : k = i ∧ j = 0
    · have hc := hs.2 i 0
      rw [if_pos ⟨by omega, w2.2⟩, w2.1, h, Int.sub_zero, Int.emod_eq_of_lt hc.1 hc.2, w2.2]
    · rw [if_neg (by omega)]
theorem zval_c {p : Int} {c d : Nat → Nat → Int} {k : Nat} {x y t : Int} (h : ∀ j, c k j = d k j) : zval p c k x y t = zval p d k x y t := by
  unfold zval
  refine zhor_congr 3 _ _ (fun i _ => zhor_congr 3 _ _ (fun j _ => ?_))
  unfold zcut
  rw [h, h, h]
theorem zPol_c {p : Int} {c d : Nat → Nat → Int} {a : Nat} {h : zH} (H : zPol p c a h) (e : ∀ k, k < 3 → ∀ j, j < 27 → c k j = d k j) : zPol p d a h := ⟨H.1, fun k hk j hj => (H.2 k hk j hj).trans (e k hk j hj)⟩
theorem zsh_c {p cc : Int} {f g : Nat → Int} (h : ∀ j, j < 27 → f j = g j) {j : Nat} (hj : j < 27) : zsh p cc f j = zsh p cc g j := by
  unfold zsh
  by_cases w : j % 3 = 0
  · rw [if_pos w, if_pos w, h j hj, h (j + 1) (by omega), h (j + 2) (by omega)]
  · rw [if_neg w, if_neg w]
    by_cases w2 : j % 3 = 1
    · rw [if_pos w2, if_pos w2, h j hj, h (j + 1) (by omega)]
    · rw [if_neg w2, if_neg w2, h j hj]

set_option maxRecDepth 100000 in
set_option maxHeartbeats 4000000 in
theorem t_X9_setPrime {h : zH} {p : Int} {c : Nat → Nat → Int} {hs : List (Int × (Nat → Nat → Int))} {tx : Nat → Int} {L : Nat} (H : zWd p c hs tx L h) {x : Int} (zx : zin x) : CI yX9_setPrime mX9_setPrime [vR 1, vI x] h (fun r h' => zPX (sp_setPrime (p, c, hs, tx, L) x) h r h') := by
  refine inV [some (vR 1), some (vI x), none] mvX9_setPrime rfl (Nat.le_of_ble_eq_true rfl) rfl ?_
  obtain ⟨hs1, hP, hH, hT, hC⟩ := id H
  have hp := hs1.p
  have hp0 : h 2 0 = p := hP.1
  have hpp : 0 < p := by omega
  have zx1 := zx.1
  have zx2 := zx.2
  refine w_iload1 dX9_setPrime_0 ?_
  apply s_i1 (M := mX9_setPrime) dX9_setPrime_1 lk_RX9_64 mvX9_isPrime (by decide) meX9_setPrime (Nat.le_of_ble_eq_true rfl)
  · exact t_X9_isPrime zx
  intro x1 h1 hP1
  obtain ⟨eh1, hP1⟩ := hP1
  replace eh1 := eh1.symm
  subst eh1
  refine wp_if_ne 9 dX9_setPrime_4 rfl ⟨by omega, by omega⟩ (fun c4 => ?_) (fun c4 => ?_)
  · skip
    refine w_aload0 dX9_setPrime_9 (wp_getr 2 dX9_setPrime_10 fl_RX9_20 is_1 rfl (wp_geti dX9_setPrime_13 fl_RX9_68 is_2 (w_istore2 dX9_setPrime_16 rfl (by decide) (w_aload0 dX9_setPrime_17 ?_))))
    apply v_v0 (M := mX9_setPrime) dX9_setPrime_18 lk_RX9_72 mvX9_beginChange (by decide) meX9_setPrime is_1 (Nat.le_of_ble_eq_true rfl)
    · exact t_X9_beginChange H
    intro h18 hP18
    refine w_aload0 dX9_setPrime_21 (wp_getr 2 dX9_setPrime_22 fl_RX9_20 is_1 rfl (w_iload1 dX9_setPrime_25 (wp_puti dX9_setPrime_26 fl_RX9_68 is_2 rfl (w_aload0 dX9_setPrime_29 (wp_getr 2 dX9_setPrime_30 fl_RX9_20 is_1 rfl ?_)))))
    apply v_v0 (M := mX9_setPrime) dX9_setPrime_33 lk_RX9_75 mvX4_erase (by decide) meX9_setPrime is_2 (Nat.le_of_ble_eq_true rfl)
    · exact t_X4_erase zPo_2
    intro h33 hP33
    replace hP33 := hP33.symm
    subst hP33
    refine w_iload2 dX9_setPrime_36 ?_
    refine r_i dX9_setPrime_37 rfl meX9_setPrime ?_
    have hPr : zPr x := hP1.2.mp (by omega)
    refine zPX_c H hP18 (zif_y hPr) hp0 ⟨hPr, fun k j => ⟨Int.le_refl 0, by show (0 : Int) < x; unfold zPr at hPr; omega⟩⟩ ⟨?_, fun k hk j hj => ?_⟩ (fun a j ha => ?_)
    · try dsimp only
      rw [if_neg (by omega), zup_s]
    · try dsimp only
      rw [if_pos (by omega)]
    · try dsimp only
      rw [if_neg (by omega), zup_o (by omega)]
  · skip
    refine wp_iconst dX9_setPrime_7 ?_
    refine r_i dX9_setPrime_8 rfl meX9_setPrime ?_
    exact zPX_q H zFX_r (zif_n (fun q => by have := hP1.2.mpr q; omega)) rfl
set_option maxRecDepth 100000 in
set_option maxHeartbeats 4000000 in
theorem t_X9_type {h : zH} {p : Int} {c : Nat → Nat → Int} {hs : List (Int × (Nat → Nat → Int))} {tx : Nat → Int} {L : Nat} (H : zWd p c hs tx L h) {x : Int} (zx : zin x) : CI yX9_type mX9_type [vR 1, vI x] h (fun r h' => zPX (sp_type (p, c, hs, tx, L) x) h r h') := by
  refine inV [some (vR 1), some (vI x)] mvX9_type rfl (Nat.le_of_ble_eq_true rfl) rfl ?_
  obtain ⟨hs1, hP, hH, hT, hC⟩ := id H
  have hp := hs1.p
  have hp0 : h 2 0 = p := hP.1
  have hpp : 0 < p := by omega
  have zx1 := zx.1
  have zx2 := zx.2
  refine w_iload1 dX9_type_0 (wp_bipush dX9_type_1 (by decide) ?_)
  refine wp_icmp_lt 12 dX9_type_3 rfl ⟨by omega, by omega⟩ ⟨by omega, by omega⟩ (fun c3 => ?_) (fun c3 => ?_)
  · skip
    refine wp_iconst dX9_type_12 ?_
    refine r_i dX9_type_13 rfl meX9_type ?_
    exact zPX_q H zFX_r (zif_n (by omega)) rfl
  · skip
    refine w_iload1 dX9_type_6 (wp_bipush dX9_type_7 (by decide) ?_)
    refine wp_icmp_le 14 dX9_type_9 rfl ⟨by omega, by omega⟩ ⟨by omega, by omega⟩ (fun c9 => ?_) (fun c9 => ?_)
    · skip
      refine w_aload0 dX9_type_14 (wp_getr 138 dX9_type_15 fl_RX9_36 is_1 rfl (w_iload1 dX9_type_18 ?_))
      apply v_i1 (M := mX9_type) dX9_type_19 lk_RX9_78 mvX8_append (by decide) meX9_type is_138 (Nat.le_of_ble_eq_true rfl)
      · exact t_X8_append (tx := tx) (i := 0) hT.1 hT.2.1
      intro x19 h19 hP19
      have x19b : x19 = 0 ∨ x19 = 1 := by
        by_cases w : L < 60
        · exact Or.inr (hP19.1 w).2
        · exact Or.inl (hP19.2 (by have := hT.2.1; omega)).2
      refine wp_if_eq 35 dX9_type_22 rfl ⟨by omega, by omega⟩ (fun c22 => ?_) (fun c22 => ?_)
      · skip
        refine wp_bipush dX9_type_35 (by decide) ?_
        refine r_i dX9_type_37 rfl meX9_type ?_
        have hL60 := hT.2.1
        first
        | (have c9 : x19 ≠ 0 := by omega
           have hL : L < 60 := by
             by_cases w : L < 60
             · exact w
             · exact absurd (hP19.2 (by omega)).2 c9
           obtain ⟨eh, -⟩ := hP19.1 hL
           subst eh
           refine zPX_i ((zif_y (by omega)).trans (zif_y hL)) zup_s ⟨hs1, zPol_eq hP (fun b j hb1 hb2 => by rw [zup_o (by omega), zup_o (by omega)]), ⟨zHi_fr hH.1 (fun a j ha => by rw [zup_o (by omega), zup_o (by omega)]), hH.2⟩, ⟨zup_s, by show L + 1 ≤ 60; omega, fun j hj => ?_⟩, zCa_fr hp.2 hC (fun a j ha => by rw [zup_o (by omega), zup_o (by omega)])⟩ (fun a j ha => by rw [zup_o (by omega), zup_o (by omega)])
           rw [zup_o (by omega)]
           show zup h 140 L x 140 j = (if j = L then x else tx j) ∧ 0 ≤ (if j = L then x else tx j) ∧ (if j = L then x else tx j) < 200
           by_cases e : j = L
           · rw [if_pos e, e, zup_s]
             omega
           · have hj2 : j < L + 1 := hj
             rw [if_neg e, zup_o (by omega)]
             exact hT.2.2 j (by omega))
        | (have hL : ¬ L < 60 := fun w => by have := (hP19.1 w).2; omega
           obtain ⟨eh, -⟩ := hP19.2 (by omega)
           subst eh
           exact zPX_q H zFX_r ((zif_y (by omega)).trans (zif_n hL)) rfl)
      · skip
        refine w_aload0 dX9_type_25 (wp_getr 138 dX9_type_26 fl_RX9_36 is_1 rfl (wp_geti dX9_type_29 fl_RX9_81 is_138 (wp_goto 37 dX9_type_32 rfl ?_)))
        refine r_i dX9_type_37 rfl meX9_type ?_
        have hL60 := hT.2.1
        first
        | (have c9 : x19 ≠ 0 := by omega
           have hL : L < 60 := by
             by_cases w : L < 60
             · exact w
             · exact absurd (hP19.2 (by omega)).2 c9
           obtain ⟨eh, -⟩ := hP19.1 hL
           subst eh
           refine zPX_i ((zif_y (by omega)).trans (zif_y hL)) zup_s ⟨hs1, zPol_eq hP (fun b j hb1 hb2 => by rw [zup_o (by omega), zup_o (by omega)]), ⟨zHi_fr hH.1 (fun a j ha => by rw [zup_o (by omega), zup_o (by omega)]), hH.2⟩, ⟨zup_s, by show L + 1 ≤ 60; omega, fun j hj => ?_⟩, zCa_fr hp.2 hC (fun a j ha => by rw [zup_o (by omega), zup_o (by omega)])⟩ (fun a j ha => by rw [zup_o (by omega), zup_o (by omega)])
           rw [zup_o (by omega)]
           show zup h 140 L x 140 j = (if j = L then x else tx j) ∧ 0 ≤ (if j = L then x else tx j) ∧ (if j = L then x else tx j) < 200
           by_cases e : j = L
           · rw [if_pos e, e, zup_s]
             omega
           · have hj2 : j < L + 1 := hj
             rw [if_neg e, zup_o (by omega)]
             exact hT.2.2 j (by omega))
        | (have hL : ¬ L < 60 := fun w => by have := (hP19.1 w).2; omega
           obtain ⟨eh, -⟩ := hP19.2 (by omega)
           subst eh
           exact zPX_q H zFX_r ((zif_y (by omega)).trans (zif_n hL)) rfl)
    · skip
      refine wp_iconst dX9_type_12 ?_
      refine r_i dX9_type_13 rfl meX9_type ?_
      exact zPX_q H zFX_r (zif_n (by omega)) rfl
set_option maxRecDepth 100000 in
set_option maxHeartbeats 4000000 in
theorem t_X9_clearText {h : zH} {p : Int} {c : Nat → Nat → Int} {hs : List (Int × (Nat → Nat → Int))} {tx : Nat → Int} {L : Nat} (H : zWd p c hs tx L h) : CI yX9_clearText mX9_clearText [vR 1] h (fun r h' => zPX (sp_clear (p, c, hs, tx, L)) h r h') := by
  refine inV [some (vR 1), none] mvX9_clearText rfl (Nat.le_of_ble_eq_true rfl) rfl ?_
  obtain ⟨hs1, hP, hH, hT, hC⟩ := id H
  have hp := hs1.p
  have hp0 : h 2 0 = p := hP.1
  have hpp : 0 < p := by omega
  refine w_aload0 dX9_clearText_0 (wp_getr 138 dX9_clearText_1 fl_RX9_36 is_1 rfl (wp_geti dX9_clearText_4 fl_RX9_81 is_138 (w_istore1 dX9_clearText_7 rfl (by decide) (w_aload0 dX9_clearText_8 (wp_getr 138 dX9_clearText_9 fl_RX9_36 is_1 rfl (wp_iconst dX9_clearText_12 (wp_puti dX9_clearText_13 fl_RX9_81 is_138 rfl (w_iload1 dX9_clearText_16 ?_))))))))
  refine r_i dX9_clearText_17 rfl meX9_clearText ?_
  exact zPX_i rfl hT.1 ⟨hs1, zPol_eq hP (fun b j hb1 hb2 => zup_o (by omega)), ⟨zHi_fr hH.1 (fun a j ha => zup_o (by omega)), hH.2⟩, ⟨zup_s, by show 0 ≤ 60; omega, fun j hj => absurd hj (Nat.not_lt_zero j)⟩, zCa_fr hp.2 hC (fun a j ha => zup_o (by omega))⟩ (fun a j ha => zup_o (by omega))
set_option maxRecDepth 100000 in
set_option maxHeartbeats 4000000 in
theorem t_X9_read {h : zH} {p : Int} {c : Nat → Nat → Int} {hs : List (Int × (Nat → Nat → Int))} {tx : Nat → Int} {L : Nat} (H : zWd p c hs tx L h) {k : Int} (zk : zin k) : CI yX9_read mX9_read [vR 1, vI k] h (fun r h' => zPX (sp_read (p, c, hs, tx, L) k) h r h') := by
  refine inV [some (vR 1), some (vI k), none] mvX9_read rfl (Nat.le_of_ble_eq_true rfl) rfl ?_
  obtain ⟨hs1, hP, hH, hT, hC⟩ := id H
  have hp := hs1.p
  have hp0 : h 2 0 = p := hP.1
  have hpp : 0 < p := by omega
  have zk1 := zk.1
  have zk2 := zk.2
  refine w_iload1 dX9_read_0 (wp_iconst dX9_read_1 ?_)
  apply s_i2 (M := mX9_read) dX9_read_2 lk_RX9_84 mvX9_outside (by decide) meX9_read (Nat.le_of_ble_eq_true rfl)
  · exact t_X9_outside zk ⟨by omega, by omega⟩
  intro x2 h2 hP2
  obtain ⟨eh2, hP2⟩ := hP2
  replace eh2 := eh2.symm
  subst eh2
  refine wp_if_eq 10 dX9_read_5 rfl ⟨by omega, by omega⟩ (fun c5 => ?_) (fun c5 => ?_)
  · skip
    refine w_aload0 dX9_read_10 (wp_getr 138 dX9_read_11 fl_RX9_36 is_1 rfl (w_aload0 dX9_read_14 (wp_getr 2 dX9_read_15 fl_RX9_20 is_1 rfl (wp_geti dX9_read_18 fl_RX9_68 is_2 ?_))))
    rw [hp0]
    apply v_i1 (M := mX9_read) dX9_read_21 lk_RX9_88 mvX8_parse (by decide) meX9_read is_138 (Nat.le_of_ble_eq_true rfl)
    · exact t_X8_parse2 hT hp
    intro x21 h21 hP21
    obtain ⟨f21, ⟨q21, t21⟩, g21, r21⟩ := hP21
    subst r21
    have zl := zparse_le (tx := tx) (L := L) (p := p)
    have hL60 := hT.2.1
    have hC21 : zCa p c h21 := zCa_fr hp.2 hC (fun a j ha => f21 a j (by omega))
    have hW21 : zWd p c hs tx L h21 := zWd_q H hC21 (fun a j ha => f21 a j (by unfold zFq at ha; omega))
    have hX21 : zFX h h21 := fun a j ha => f21 a j (by omega)
    refine w_istore2 dX9_read_24 rfl (by decide) (w_iload2 dX9_read_25 ?_)
    refine wp_if_lt 34 dX9_read_26 rfl ⟨by omega, by omega⟩ (fun c26 => ?_) (fun c26 => ?_)
    · skip
      refine w_aload0 dX9_read_34 ?_
      apply v_v0 (M := mX9_read) dX9_read_35 lk_RX9_72 mvX9_beginChange (by decide) meX9_read is_1 (Nat.le_of_ble_eq_true rfl)
      · exact t_X9_beginChange hW21
      intro h35 hP35
      have hP35' := zPol_bc hP35 hW21.2.1
      refine w_aload0 dX9_read_38 (wp_getr 2 dX9_read_39 fl_RX9_20 is_1 rfl (w_iload1 dX9_read_42 (w_aload0 dX9_read_43 (wp_getr 138 dX9_read_44 fl_RX9_36 is_1 rfl (wp_getr 139 dX9_read_47 fl_RX9_92 is_138 rfl ?_)))))
      apply v_v2 (M := mX9_read) dX9_read_50 lk_RX9_96 mvX4_replace (by decide) meX9_read is_2 (Nat.le_of_ble_eq_true rfl)
      · exact t_X4_replace (k := k.toNat) zPo_2 (by omega) (by omega) is_139 (by omega)
      intro h50 hP50
      replace hP50 := hP50.symm
      subst hP50
      refine w_aload0 dX9_read_53 (wp_getr 2 dX9_read_54 fl_RX9_20 is_1 rfl (w_iload1 dX9_read_57 ?_))
      apply v_i1 (M := mX9_read) dX9_read_58 lk_RX9_100 mvX4_termCount (by decide) meX9_read is_2 (Nat.le_of_ble_eq_true rfl)
      · exact t_X4_termCount (k := k.toNat) (f := (zparse tx L p).2) zPo_2 (by omega) (by omega) (fun j hj => ⟨by rw [zfl_i hj, hP35.1 _ _ (by unfold zFbc; omega)]; exact (g21 j hj).1, by have := g21 j hj; omega, by have := g21 j hj; omega⟩)
      intro x58 h58 hP58
      obtain ⟨eh58, ex58⟩ := hP58
      replace eh58 := eh58.symm
      subst eh58
      replace ex58 := ex58.symm
      subst ex58
      refine r_i dX9_read_61 rfl meX9_read ?_
      refine zPX_i (v := zcnt (zparse tx L p).2 27) (t := zch (p, c, hs, tx, L) p (zpkc c k.toNat (zparse tx L p).2)) ((zif_y (by omega)).trans (zif_n (by show ¬ 0 ≤ (zparse tx L p).1; omega))) rfl (zWd_ch hW21 hP35 (p' := p) (c' := zpkc c k.toNat (zparse tx L p).2) (zSt_pkc hs1 (fun j hj => by have := g21 j hj; omega)) ⟨?_, fun k' hk j hj => ?_⟩ (fun a j ha => zfl_o (by omega))) (fun a j ha => ?_)
      · rw [zfl_o (by omega)]
        exact hP35'.1
      · unfold zpkc
        by_cases e : k' = k.toNat
        · rw [e, if_pos ⟨rfl, hj⟩, zfl_i hj, hP35.1 _ _ (by unfold zFbc; omega)]
          exact (g21 j hj).1
        · rw [if_neg (fun q => e q.1), zfl_o (by omega)]
          exact hP35'.2 k' hk j hj
      · rw [zfl_o (by omega), hP35.1 _ _ (by unfold zFbc; omega)]
        exact hX21 a j ha
    · skip
      refine wp_bipush dX9_read_29 (by decide) (w_iload2 dX9_read_31 (wp_isub dX9_read_32 ?_))
      refine r_i dX9_read_33 rfl meX9_read ?_
      exact zPX_q hW21 hX21 ((zif_y (by omega)).trans (zif_y (by show 0 ≤ (zparse tx L p).1; omega))) rfl
  · skip
    refine wp_iconst dX9_read_8 ?_
    refine r_i dX9_read_9 rfl meX9_read ?_
    exact zPX_q H zFX_r (zif_n (by omega)) rfl
set_option maxRecDepth 100000 in
set_option maxHeartbeats 4000000 in
theorem t_X9_setCoefficient {h : zH} {p : Int} {c : Nat → Nat → Int} {hs : List (Int × (Nat → Nat → Int))} {tx : Nat → Int} {L : Nat} (H : zWd p c hs tx L h) {k i j e v : Int} (zk : zin k) (zi : zin i) (zj : zin j) (ze : zin e) (zv : zin v) : CI yX9_setCoefficient mX9_setCoefficient [vR 1, vI k, vI i, vI j, vI e, vI v] h (fun r h' => zPX (sp_setCoefficient (p, c, hs, tx, L) k i j e v) h r h') := by
  refine inV [some (vR 1), some (vI k), some (vI i), some (vI j), some (vI e), some (vI v), none] mvX9_setCoefficient rfl (Nat.le_of_ble_eq_true rfl) rfl ?_
  obtain ⟨hs1, hP, hH, hT, hC⟩ := id H
  have hp := hs1.p
  have hp0 : h 2 0 = p := hP.1
  have hpp : 0 < p := by omega
  have zk1 := zk.1
  have zk2 := zk.2
  have zi1 := zi.1
  have zi2 := zi.2
  have zj1 := zj.1
  have zj2 := zj.2
  have ze1 := ze.1
  have ze2 := ze.2
  have zv1 := zv.1
  have zv2 := zv.2
  refine w_iload1 dX9_setCoefficient_0 (w_iload2 dX9_setCoefficient_1 (w_iload3 dX9_setCoefficient_2 (w_iload4 dX9_setCoefficient_3 ?_)))
  apply s_i4 (M := mX9_setCoefficient) dX9_setCoefficient_5 lk_RX9_103 mvX9_noTerm (by decide) meX9_setCoefficient (Nat.le_of_ble_eq_true rfl)
  · exact t_X9_noTerm zk zi zj ze
  intro x5 h5 hP5
  obtain ⟨eh5, hP5⟩ := hP5
  replace eh5 := eh5.symm
  subst eh5
  refine wp_if_ne 28 dX9_setCoefficient_8 rfl ⟨by omega, by omega⟩ (fun c8 => ?_) (fun c8 => ?_)
  · skip
    refine wp_iconst dX9_setCoefficient_28 ?_
    refine r_i dX9_setCoefficient_29 rfl meX9_setCoefficient ?_
    exact zPX_q H zFX_r (zif_n (fun q => by have := hP5.2.mpr q.1; first | omega | exact absurd q.2 (by omega))) rfl
  · skip
    refine w_iload5 dX9_setCoefficient_11 (w_aload0 dX9_setCoefficient_13 (wp_getr 2 dX9_setCoefficient_14 fl_RX9_20 is_1 rfl (wp_geti dX9_setCoefficient_17 fl_RX9_68 is_2 (wp_iconst dX9_setCoefficient_20 (wp_isub dX9_setCoefficient_21 ?_)))))
    rw [hp0]
    apply s_i2 (M := mX9_setCoefficient) dX9_setCoefficient_22 lk_RX9_84 mvX9_outside (by decide) meX9_setCoefficient (Nat.le_of_ble_eq_true rfl)
    · exact t_X9_outside zv ⟨by omega, by omega⟩
    intro x22 h22 hP22
    obtain ⟨eh22, hP22⟩ := hP22
    replace eh22 := eh22.symm
    subst eh22
    refine wp_if_eq 30 dX9_setCoefficient_25 rfl ⟨by omega, by omega⟩ (fun c25 => ?_) (fun c25 => ?_)
    · skip
      refine w_aload0 dX9_setCoefficient_30 (wp_getr 2 dX9_setCoefficient_31 fl_RX9_20 is_1 rfl (w_iload1 dX9_setCoefficient_34 (w_iload2 dX9_setCoefficient_35 (w_iload3 dX9_setCoefficient_36 (w_iload4 dX9_setCoefficient_37 ?_)))))
      have hok : zoT k i j e := hP5.2.mp (by omega)
      obtain ⟨hpl, hpl2, hkk, hk3⟩ := zoT_pl hok
      apply s_i3 (M := mX9_setCoefficient) dX9_setCoefficient_39 lk_RX9_107 mvX9_place (by decide) meX9_setCoefficient (Nat.le_of_ble_eq_true rfl)
      · exact t_X9_place
      intro x39 h39 hP39
      obtain ⟨eh39, ex39⟩ := hP39
      replace eh39 := eh39.symm
      subst eh39
      replace ex39 := ex39.symm
      subst ex39
      apply v_i2 (M := mX9_setCoefficient) dX9_setCoefficient_42 lk_RX9_111 mvX4_term (by decide) meX9_setCoefficient is_2 (Nat.le_of_ble_eq_true rfl)
      · exact t_X4_term (k := k.toNat) (j := zpl3 i j e) zPo_2 hkk hk3 hpl hpl2
      intro x42 h42 hP42
      obtain ⟨eh42, ex42⟩ := hP42
      replace eh42 := eh42.symm
      subst eh42
      replace ex42 := ex42.symm
      subst ex42
      refine w_istore6 dX9_setCoefficient_45 rfl (by decide) (w_aload0 dX9_setCoefficient_47 ?_)
      apply v_v0 (M := mX9_setCoefficient) dX9_setCoefficient_48 lk_RX9_72 mvX9_beginChange (by decide) meX9_setCoefficient is_1 (Nat.le_of_ble_eq_true rfl)
      · exact t_X9_beginChange H
      intro h48 hP48
      have hP48' := zPol_bc hP48 hP
      refine w_aload0 dX9_setCoefficient_51 (wp_getr 2 dX9_setCoefficient_52 fl_RX9_20 is_1 rfl (w_iload1 dX9_setCoefficient_55 (w_iload2 dX9_setCoefficient_56 (w_iload3 dX9_setCoefficient_57 (w_iload4 dX9_setCoefficient_58 ?_)))))
      apply s_i3 (M := mX9_setCoefficient) dX9_setCoefficient_60 lk_RX9_107 mvX9_place (by decide) meX9_setCoefficient (Nat.le_of_ble_eq_true rfl)
      · exact t_X9_place
      intro x60 h60 hP60
      obtain ⟨eh60, ex60⟩ := hP60
      replace eh60 := eh60.symm
      subst eh60
      replace ex60 := ex60.symm
      subst ex60
      refine w_iload5 dX9_setCoefficient_63 ?_
      apply v_v3 (M := mX9_setCoefficient) dX9_setCoefficient_65 lk_RX9_115 mvX4_setTerm (by decide) meX9_setCoefficient is_2 (Nat.le_of_ble_eq_true rfl)
      · exact t_X4_setTerm (k := k.toNat) (j := zpl3 i j e) zPo_2 hkk hk3 hpl hpl2
      intro h65 hP65
      replace hP65 := hP65.symm
      subst hP65
      refine w_iload6 dX9_setCoefficient_68 ?_
      refine r_i dX9_setCoefficient_70 rfl meX9_setCoefficient ?_
      refine zPX_c H hP48 (zif_y ⟨hok, by omega⟩) (hP.2 _ hk3 _ hpl2) (zSt_pt hs1 (by omega)) ⟨?_, fun k' hk j' hj => ?_⟩ (fun a j' ha => zup_o (by omega))
      · rw [zup_o (by omega)]
        exact hP48'.1
      · unfold zpt
        by_cases w : k' = k.toNat ∧ j' = zpl3 i j e
        · rw [if_pos w, w.1, w.2, zup_s]
        · rw [if_neg w, zup_o (by omega)]
          exact hP48'.2 k' hk j' hj
    · skip
      refine wp_iconst dX9_setCoefficient_28 ?_
      refine r_i dX9_setCoefficient_29 rfl meX9_setCoefficient ?_
      exact zPX_q H zFX_r (zif_n (fun q => by have := hP5.2.mpr q.1; first | omega | exact absurd q.2 (by omega))) rfl
set_option maxRecDepth 100000 in
set_option maxHeartbeats 4000000 in
theorem t_X9_coefficient {h : zH} {p : Int} {c : Nat → Nat → Int} {hs : List (Int × (Nat → Nat → Int))} {tx : Nat → Int} {L : Nat} (H : zWd p c hs tx L h) {k i j e : Int} (zk : zin k) (zi : zin i) (zj : zin j) (ze : zin e) : CI yX9_coefficient mX9_coefficient [vR 1, vI k, vI i, vI j, vI e] h (fun r h' => zPX (sp_coefficient (p, c, hs, tx, L) k i j e) h r h') := by
  refine inV [some (vR 1), some (vI k), some (vI i), some (vI j), some (vI e)] mvX9_coefficient rfl (Nat.le_of_ble_eq_true rfl) rfl ?_
  obtain ⟨hs1, hP, hH, hT, hC⟩ := id H
  have hp := hs1.p
  have hp0 : h 2 0 = p := hP.1
  have hpp : 0 < p := by omega
  have zk1 := zk.1
  have zk2 := zk.2
  have zi1 := zi.1
  have zi2 := zi.2
  have zj1 := zj.1
  have zj2 := zj.2
  have ze1 := ze.1
  have ze2 := ze.2
  refine w_iload1 dX9_coefficient_0 (w_iload2 dX9_coefficient_1 (w_iload3 dX9_coefficient_2 (w_iload4 dX9_coefficient_3 ?_)))
  apply s_i4 (M := mX9_coefficient) dX9_coefficient_5 lk_RX9_103 mvX9_noTerm (by decide) meX9_coefficient (Nat.le_of_ble_eq_true rfl)
  · exact t_X9_noTerm zk zi zj ze
  intro x5 h5 hP5
  obtain ⟨eh5, hP5⟩ := hP5
  replace eh5 := eh5.symm
  subst eh5
  refine wp_if_eq 13 dX9_coefficient_8 rfl ⟨by omega, by omega⟩ (fun c8 => ?_) (fun c8 => ?_)
  · skip
    refine w_aload0 dX9_coefficient_13 (wp_getr 2 dX9_coefficient_14 fl_RX9_20 is_1 rfl (w_iload1 dX9_coefficient_17 (w_iload2 dX9_coefficient_18 (w_iload3 dX9_coefficient_19 (w_iload4 dX9_coefficient_20 ?_)))))
    have hok : zoT k i j e := hP5.2.mp (by omega)
    obtain ⟨hpl, hpl2, hkk, hk3⟩ := zoT_pl hok
    apply s_i3 (M := mX9_coefficient) dX9_coefficient_22 lk_RX9_107 mvX9_place (by decide) meX9_coefficient (Nat.le_of_ble_eq_true rfl)
    · exact t_X9_place
    intro x22 h22 hP22
    obtain ⟨eh22, ex22⟩ := hP22
    replace eh22 := eh22.symm
    subst eh22
    replace ex22 := ex22.symm
    subst ex22
    apply v_i2 (M := mX9_coefficient) dX9_coefficient_25 lk_RX9_111 mvX4_term (by decide) meX9_coefficient is_2 (Nat.le_of_ble_eq_true rfl)
    · exact t_X4_term (k := k.toNat) (j := zpl3 i j e) zPo_2 hkk hk3 hpl hpl2
    intro x25 h25 hP25
    obtain ⟨eh25, ex25⟩ := hP25
    replace eh25 := eh25.symm
    subst eh25
    replace ex25 := ex25.symm
    subst ex25
    refine r_i dX9_coefficient_28 rfl meX9_coefficient ?_
    exact zPX_q H zFX_r (zif_y hok) (hP.2 _ hk3 _ hpl2)
  · skip
    refine wp_iconst dX9_coefficient_11 ?_
    refine r_i dX9_coefficient_12 rfl meX9_coefficient ?_
    exact zPX_q H zFX_r (zif_n (fun q => by have := hP5.2.mpr q; omega)) rfl
set_option maxRecDepth 100000 in
set_option maxHeartbeats 4000000 in
theorem t_X9_draw {h : zH} {p : Int} {c : Nat → Nat → Int} {hs : List (Int × (Nat → Nat → Int))} {tx : Nat → Int} {L : Nat} (H : zWd p c hs tx L h) {sd u v w th : Int} (zsd : zin sd) (zu : zin u) (zv : zin v) (zw : zin w) (zth : zin th) : CI yX9_draw mX9_draw [vR 1, vI sd, vI u, vI v, vI w, vI th] h (fun r h' => zPX (sp_draw (p, c, hs, tx, L) sd u v w th) h r h') := by
  refine inV [some (vR 1), some (vI sd), some (vI u), some (vI v), some (vI w), some (vI th)] mvX9_draw rfl (Nat.le_of_ble_eq_true rfl) rfl ?_
  obtain ⟨hs1, hP, hH, hT, hC⟩ := id H
  have hp := hs1.p
  have hp0 : h 2 0 = p := hP.1
  have hpp : 0 < p := by omega
  have zsd1 := zsd.1
  have zsd2 := zsd.2
  have zu1 := zu.1
  have zu2 := zu.2
  have zv1 := zv.1
  have zv2 := zv.2
  have zw1 := zw.1
  have zw2 := zw.2
  have zth1 := zth.1
  have zth2 := zth.2
  refine w_iload2 dX9_draw_0 (wp_iconst dX9_draw_1 ?_)
  apply s_i2 (M := mX9_draw) dX9_draw_2 lk_RX9_84 mvX9_outside (by decide) meX9_draw (Nat.le_of_ble_eq_true rfl)
  · exact t_X9_outside zu ⟨by omega, by omega⟩
  intro x2 h2 hP2
  obtain ⟨eh2, hP2⟩ := hP2
  replace eh2 := eh2.symm
  subst eh2
  refine wp_if_ne 38 dX9_draw_5 rfl ⟨by omega, by omega⟩ (fun c5 => ?_) (fun c5 => ?_)
  · skip
    refine wp_iconst dX9_draw_38 ?_
    refine r_i dX9_draw_39 rfl meX9_draw ?_
    exact zPX_q H zFX_r (zif_n (by unfold zoD; omega)) rfl
  · skip
    refine w_iload3 dX9_draw_8 (wp_iconst dX9_draw_9 ?_)
    apply s_i2 (M := mX9_draw) dX9_draw_10 lk_RX9_84 mvX9_outside (by decide) meX9_draw (Nat.le_of_ble_eq_true rfl)
    · exact t_X9_outside zv ⟨by omega, by omega⟩
    intro x10 h10 hP10
    obtain ⟨eh10, hP10⟩ := hP10
    replace eh10 := eh10.symm
    subst eh10
    refine wp_if_ne 38 dX9_draw_13 rfl ⟨by omega, by omega⟩ (fun c13 => ?_) (fun c13 => ?_)
    · skip
      refine wp_iconst dX9_draw_38 ?_
      refine r_i dX9_draw_39 rfl meX9_draw ?_
      exact zPX_q H zFX_r (zif_n (by unfold zoD; omega)) rfl
    · skip
      refine w_iload4 dX9_draw_16 (wp_iconst dX9_draw_18 ?_)
      apply s_i2 (M := mX9_draw) dX9_draw_19 lk_RX9_84 mvX9_outside (by decide) meX9_draw (Nat.le_of_ble_eq_true rfl)
      · exact t_X9_outside zw ⟨by omega, by omega⟩
      intro x19 h19 hP19
      obtain ⟨eh19, hP19⟩ := hP19
      replace eh19 := eh19.symm
      subst eh19
      refine wp_if_ne 38 dX9_draw_22 rfl ⟨by omega, by omega⟩ (fun c22 => ?_) (fun c22 => ?_)
      · skip
        refine wp_iconst dX9_draw_38 ?_
        refine r_i dX9_draw_39 rfl meX9_draw ?_
        exact zPX_q H zFX_r (zif_n (by unfold zoD; omega)) rfl
      · skip
        refine w_iload5 dX9_draw_25 (wp_iconst dX9_draw_27 ?_)
        refine wp_icmp_lt 38 dX9_draw_28 rfl ⟨by omega, by omega⟩ ⟨by omega, by omega⟩ (fun c28 => ?_) (fun c28 => ?_)
        · skip
          refine wp_iconst dX9_draw_38 ?_
          refine r_i dX9_draw_39 rfl meX9_draw ?_
          exact zPX_q H zFX_r (zif_n (by unfold zoD; omega)) rfl
        · skip
          refine w_iload5 dX9_draw_31 (wp_bipush dX9_draw_33 (by decide) ?_)
          refine wp_icmp_le 40 dX9_draw_35 rfl ⟨by omega, by omega⟩ ⟨by omega, by omega⟩ (fun c35 => ?_) (fun c35 => ?_)
          · skip
            refine w_aload0 dX9_draw_40 ?_
            apply v_v0 (M := mX9_draw) dX9_draw_41 lk_RX9_72 mvX9_beginChange (by decide) meX9_draw is_1 (Nat.le_of_ble_eq_true rfl)
            · exact t_X9_beginChange H
            intro h41 hP41
            have hP41' := zPol_bc hP41 hP
            refine w_aload0 dX9_draw_44 (wp_getr 2 dX9_draw_45 fl_RX9_20 is_1 rfl (w_iload1 dX9_draw_48 (w_iload2 dX9_draw_49 (w_iload3 dX9_draw_50 (w_iload4 dX9_draw_51 (w_iload5 dX9_draw_53 ?_))))))
            apply v_v5 (M := mX9_draw) dX9_draw_55 lk_RX9_119 mvX4_scatter (by decide) meX9_draw is_2 (Nat.le_of_ble_eq_true rfl)
            · exact t_X4_scatter (u := u.toNat) (v := v.toNat) (w := w.toNat) zPo_2 (by omega) (by omega) (by omega) (by omega) (by omega) (by omega) (by omega) hp hP41'.1
            intro h55 hP55
            have hPol : zPol p (zpd p sd u.toNat v.toNat w.toNat th) 2 h55 := ⟨by
              rw [hP55]
              try dsimp only
              rw [if_neg (by omega)]
              exact hP41'.1, fun k hk j hj => by
              rw [hP55]
              try dsimp only
              unfold zpd
              rw [if_pos (by omega), if_pos ⟨hk, hj⟩, show 2 + 2 + k - (2 + 2) = k by omega]⟩
            refine w_aload0 dX9_draw_58 (wp_getr 2 dX9_draw_59 fl_RX9_20 is_1 rfl ?_)
            apply v_i0 (M := mX9_draw) dX9_draw_62 lk_RX9_123 mvX4_termCountOfAll (by decide) meX9_draw is_2 (Nat.le_of_ble_eq_true rfl)
            · exact t_X4_termCountOfAll zPo_2 (zSt_pd hs1) hPol
            intro x62 h62 hP62
            obtain ⟨eh62, ex62⟩ := hP62
            replace eh62 := eh62.symm
            subst eh62
            replace ex62 := ex62.symm
            subst ex62
            refine r_i dX9_draw_65 rfl meX9_draw ?_
            refine zPX_c H hP41 (zif_y (by unfold zoD; omega)) rfl (zSt_pd hs1) hPol (fun a j ha => ?_)
            rw [hP55]
            try dsimp only
            rw [if_neg (by omega)]
          · skip
            refine wp_iconst dX9_draw_38 ?_
            refine r_i dX9_draw_39 rfl meX9_draw ?_
            exact zPX_q H zFX_r (zif_n (by unfold zoD; omega)) rfl
set_option maxRecDepth 100000 in
set_option maxHeartbeats 4000000 in
theorem t_X9_plant {h : zH} {p : Int} {c : Nat → Nat → Int} {hs : List (Int × (Nat → Nat → Int))} {tx : Nat → Int} {L : Nat} (H : zWd p c hs tx L h) {x y t : Int} (zx : zin x) (zy : zin y) (zt : zin t) : CI yX9_plant mX9_plant [vR 1, vI x, vI y, vI t] h (fun r h' => zPX (sp_plant (p, c, hs, tx, L) x y t) h r h') := by
  refine inV [some (vR 1), some (vI x), some (vI y), some (vI t), none, none, none] mvX9_plant rfl (Nat.le_of_ble_eq_true rfl) rfl ?_
  obtain ⟨hs1, hP, hH, hT, hC⟩ := id H
  have hp := hs1.p
  have hp0 : h 2 0 = p := hP.1
  have hpp : 0 < p := by omega
  have zx1 := zx.1
  have zx2 := zx.2
  have zy1 := zy.1
  have zy2 := zy.2
  have zt1 := zt.1
  have zt2 := zt.2
  have L60 : ∀ (zm60 : Nat) (i : Nat) (h' : zH) (vn vi : Int), 3 - i = zm60 → (i ≤ 3) → (vi = (i : Int)) → (vn = zcnt (fun k => zval p c k x y t) i) → ((0 ≤ x ∧ x < p) ∧ (0 ≤ y ∧ y < p) ∧ (0 ≤ t ∧ t < p)) → (zPol p (zpp1 p c x y t i) 2 h') → (∃ h1, zBC p c hs h h1 ∧ ∀ a j, 7 ≤ a → h' a j = h1 a j) → WP mX9_plant (zMQ mX9_plant (zKI (fun r h' => zPX (sp_plant (p, c, hs, tx, L) x y t) h r h'))) 60 [some (vR 1), some (vI x), some (vI y), some (vI t), some (vI vn), some (vI vi), none] [] zN zGR h' := by
    intro zm60
    induction zm60 using Nat.strongRecOn with | _ zm60 ih60 => ?_
    intro i h' vn vi hzm60 hi hvi hvn0 hok0 hPl hXX
    subst hzm60
    refine w_iload5 dX9_plant_60 (wp_iconst dX9_plant_62 ?_)
    refine wp_icmp_ge 127 dX9_plant_63 rfl ⟨by omega, by omega⟩ ⟨by omega, by omega⟩ (fun c63 => ?_) (fun c63 => ?_)
    · skip
      refine w_iload4 dX9_plant_127 ?_
      refine r_i dX9_plant_129 rfl meX9_plant ?_
      obtain ⟨h1, q1, q2⟩ := hXX
      have hi3 : i = 3 := by omega
      rw [hi3] at hPl hvn0
      exact zPX_c H q1 (zif_y hok0) hvn0 (zSt_ppl hs1) (zPol_c hPl (fun k hk j hj => by unfold zpp1 zppl; rfl)) q2
    · skip
      refine w_aload0 dX9_plant_66 (wp_getr 2 dX9_plant_67 fl_RX9_20 is_1 rfl (w_iload5 dX9_plant_70 (w_iload1 dX9_plant_72 (w_iload2 dX9_plant_73 (w_iload3 dX9_plant_74 ?_)))))
      have hok : zoP p x y t := by unfold zoP; omega
      have hstn : zSt p (zpp1 p c x y t i) := zSt_pp1 hs1
      have hPn : zPol p (zpp1 p c x y t i) 2 h' := hPl
      have hvn : zval p (zpp1 p c x y t i) i x y t = zval p c i x y t := zval_c (fun j => by unfold zpp1; rw [if_neg (by omega)])
      apply v_i4 (M := mX9_plant) dX9_plant_75 lk_RX9_127 mvX4_valueOf (by decide) meX9_plant is_2 (Nat.le_of_ble_eq_true rfl)
      · exact t_X4_valueOf (k := i) zPo_2 hvi (by omega) hstn hPn (by omega) (by omega) (by omega)
      intro x75 h75 hP75
      obtain ⟨eh75, ex75⟩ := hP75
      replace eh75 := eh75.symm
      subst eh75
      subst ex75
      rw [hvn]
      have hvb := zval_in hpp (c := c) (k := i) (x := x) (y := y) (t := t)
      refine w_istore6 dX9_plant_78 rfl (by decide) (w_iload6 dX9_plant_80 ?_)
      refine wp_if_eq 121 dX9_plant_82 rfl ⟨by omega, by omega⟩ (fun c82 => ?_) (fun c82 => ?_)
      · skip
        refine w_iinc5 dX9_plant_121 rfl (by decide) (wp_goto 60 dX9_plant_124 rfl ?_)
        refine w_forget6 ?_
        first
        | (have c9 : zval p c i x y t = 0 := c82
           refine ih60 _ (by omega) (i + 1) _ _ _ rfl (by omega) (by omega) ?_ hok0 ?_ hXX
           · unfold zcnt
             rw [if_pos c9, Int.add_zero]
             exact hvn0
           · rw [zpp1_s0 hs1 c9]
             exact hPl)
        | (have c9 : zval p c i x y t ≠ 0 := c82
           refine ih60 _ (by omega) (i + 1) _ _ _ rfl (by omega) (by omega) ?_ hok0 ⟨?_, fun k hk j hj => ?_⟩ ?_
           · unfold zcnt
             rw [if_neg c9, hvn0]
           · rw [zup_o (by omega)]
             exact hPl.1
           · unfold zpp1
             by_cases w : k = i ∧ j = 0
             · rw [if_pos ⟨by omega, w.2⟩, w.1, w.2, zup_s]
             · rw [zup_o (by omega), hPl.2 k hk j hj]
               unfold zpp1
               by_cases w2 : k < i ∧ j = 0
               · rw [if_pos w2, if_pos ⟨by omega, w2.2⟩]
               · rw [if_neg w2, if_neg (by omega)]
           · obtain ⟨h1, q1, q2⟩ := hXX
             exact ⟨h1, q1, fun a j ha => by rw [zup_o (by omega)]; exact q2 a j ha⟩)
      · skip
        refine w_iinc4 dX9_plant_85 rfl (by decide) (w_aload0 dX9_plant_88 (wp_getr 2 dX9_plant_89 fl_RX9_20 is_1 rfl (w_iload5 dX9_plant_92 (wp_iconst dX9_plant_94 (w_aload0 dX9_plant_95 (wp_getr 2 dX9_plant_96 fl_RX9_20 is_1 rfl (w_iload5 dX9_plant_99 (wp_iconst dX9_plant_101 ?_))))))))
        apply v_i2 (M := mX9_plant) dX9_plant_102 lk_RX9_111 mvX4_term (by decide) meX9_plant is_2 (Nat.le_of_ble_eq_true rfl)
        · exact t_X4_term (k := i) (j := 0) zPo_2 hvi (by omega) rfl (by omega)
        intro x102 h102 hP102
        obtain ⟨eh102, ex102⟩ := hP102
        replace eh102 := eh102.symm
        subst eh102
        replace ex102 := ex102.symm
        subst ex102
        have h0i : h' (2 + 2 + i) 0 = c i 0 := by rw [hPl.2 i (by omega) 0 (by omega)]; unfold zpp1; rw [if_neg (by omega)]
        rw [h0i]
        have hc0 := hs1.2 i 0
        refine w_iload6 dX9_plant_105 (wp_isub dX9_plant_107 (w_aload0 dX9_plant_108 (wp_getr 2 dX9_plant_109 fl_RX9_20 is_1 rfl (wp_geti dX9_plant_112 fl_RX9_68 is_2 ?_))))
        rw [hPl.1]
        apply s_i2 (M := mX9_plant) dX9_plant_115 lk_RX9_131 mvX3_residue (by decide) meX9_plant (Nat.le_of_ble_eq_true rfl)
        · exact t_X3_residue ⟨by omega, by omega⟩ (by omega)
        intro x115 h115 hP115
        obtain ⟨eh115, ex115⟩ := hP115
        replace eh115 := eh115.symm
        subst eh115
        replace ex115 := ex115.symm
        subst ex115
        apply v_v3 (M := mX9_plant) dX9_plant_118 lk_RX9_115 mvX4_setTerm (by decide) meX9_plant is_2 (Nat.le_of_ble_eq_true rfl)
        · exact t_X4_setTerm (k := i) (j := 0) zPo_2 hvi (by omega) rfl (by omega)
        intro h118 hP118
        replace hP118 := hP118.symm
        subst hP118
        refine w_iinc5 dX9_plant_121 rfl (by decide) (wp_goto 60 dX9_plant_124 rfl ?_)
        refine w_forget6 ?_
        first
        | (have c9 : zval p c i x y t = 0 := c82
           refine ih60 _ (by omega) (i + 1) _ _ _ rfl (by omega) (by omega) ?_ hok0 ?_ hXX
           · unfold zcnt
             rw [if_pos c9, Int.add_zero]
             exact hvn0
           · rw [zpp1_s0 hs1 c9]
             exact hPl)
        | (have c9 : zval p c i x y t ≠ 0 := c82
           refine ih60 _ (by omega) (i + 1) _ _ _ rfl (by omega) (by omega) ?_ hok0 ⟨?_, fun k hk j hj => ?_⟩ ?_
           · unfold zcnt
             rw [if_neg c9, hvn0]
           · rw [zup_o (by omega)]
             exact hPl.1
           · unfold zpp1
             by_cases w : k = i ∧ j = 0
             · rw [if_pos ⟨by omega, w.2⟩, w.1, w.2, zup_s]
             · rw [zup_o (by omega), hPl.2 k hk j hj]
               unfold zpp1
               by_cases w2 : k < i ∧ j = 0
               · rw [if_pos w2, if_pos ⟨by omega, w2.2⟩]
               · rw [if_neg w2, if_neg (by omega)]
           · obtain ⟨h1, q1, q2⟩ := hXX
             exact ⟨h1, q1, fun a j ha => by rw [zup_o (by omega)]; exact q2 a j ha⟩)
  refine w_iload1 dX9_plant_0 (w_aload0 dX9_plant_1 (wp_getr 2 dX9_plant_2 fl_RX9_20 is_1 rfl (wp_geti dX9_plant_5 fl_RX9_68 is_2 (wp_iconst dX9_plant_8 (wp_isub dX9_plant_9 ?_)))))
  rw [hp0]
  apply s_i2 (M := mX9_plant) dX9_plant_10 lk_RX9_84 mvX9_outside (by decide) meX9_plant (Nat.le_of_ble_eq_true rfl)
  · exact t_X9_outside zx ⟨by omega, by omega⟩
  intro x10 h10 hP10
  obtain ⟨eh10, hP10⟩ := hP10
  replace eh10 := eh10.symm
  subst eh10
  refine wp_if_ne 48 dX9_plant_13 rfl ⟨by omega, by omega⟩ (fun c13 => ?_) (fun c13 => ?_)
  · skip
    refine wp_iconst dX9_plant_48 ?_
    refine r_i dX9_plant_49 rfl meX9_plant ?_
    exact zPX_q H zFX_r (zif_n (by unfold zoP; omega)) rfl
  · skip
    refine w_iload2 dX9_plant_16 (w_aload0 dX9_plant_17 (wp_getr 2 dX9_plant_18 fl_RX9_20 is_1 rfl (wp_geti dX9_plant_21 fl_RX9_68 is_2 (wp_iconst dX9_plant_24 (wp_isub dX9_plant_25 ?_)))))
    rw [hp0]
    apply s_i2 (M := mX9_plant) dX9_plant_26 lk_RX9_84 mvX9_outside (by decide) meX9_plant (Nat.le_of_ble_eq_true rfl)
    · exact t_X9_outside zy ⟨by omega, by omega⟩
    intro x26 h26 hP26
    obtain ⟨eh26, hP26⟩ := hP26
    replace eh26 := eh26.symm
    subst eh26
    refine wp_if_ne 48 dX9_plant_29 rfl ⟨by omega, by omega⟩ (fun c29 => ?_) (fun c29 => ?_)
    · skip
      refine wp_iconst dX9_plant_48 ?_
      refine r_i dX9_plant_49 rfl meX9_plant ?_
      exact zPX_q H zFX_r (zif_n (by unfold zoP; omega)) rfl
    · skip
      refine w_iload3 dX9_plant_32 (w_aload0 dX9_plant_33 (wp_getr 2 dX9_plant_34 fl_RX9_20 is_1 rfl (wp_geti dX9_plant_37 fl_RX9_68 is_2 (wp_iconst dX9_plant_40 (wp_isub dX9_plant_41 ?_)))))
      rw [hp0]
      apply s_i2 (M := mX9_plant) dX9_plant_42 lk_RX9_84 mvX9_outside (by decide) meX9_plant (Nat.le_of_ble_eq_true rfl)
      · exact t_X9_outside zt ⟨by omega, by omega⟩
      intro x42 h42 hP42
      obtain ⟨eh42, hP42⟩ := hP42
      replace eh42 := eh42.symm
      subst eh42
      refine wp_if_eq 50 dX9_plant_45 rfl ⟨by omega, by omega⟩ (fun c45 => ?_) (fun c45 => ?_)
      · skip
        refine w_aload0 dX9_plant_50 ?_
        apply v_v0 (M := mX9_plant) dX9_plant_51 lk_RX9_72 mvX9_beginChange (by decide) meX9_plant is_1 (Nat.le_of_ble_eq_true rfl)
        · exact t_X9_beginChange H
        intro h51 hP51
        have hP51' := zPol_bc hP51 hP
        refine wp_iconst dX9_plant_54 (w_istore4 dX9_plant_55 rfl (by decide) (wp_iconst dX9_plant_57 (w_istore5 dX9_plant_58 rfl (by decide) ?_)))
        refine L60 _ 0 _ 0 0 rfl (Nat.zero_le _) rfl rfl (by omega) ?_ ⟨_, hP51, fun a j ha => rfl⟩
        rw [zpp1_0]
        exact hP51'
      · skip
        refine wp_iconst dX9_plant_48 ?_
        refine r_i dX9_plant_49 rfl meX9_plant ?_
        exact zPX_q H zFX_r (zif_n (by unfold zoP; omega)) rfl
set_option maxRecDepth 100000 in
set_option maxHeartbeats 4000000 in
theorem t_X9_swap {h : zH} {p : Int} {c : Nat → Nat → Int} {hs : List (Int × (Nat → Nat → Int))} {tx : Nat → Int} {L : Nat} (H : zWd p c hs tx L h) {k l : Int} (zk : zin k) (zl : zin l) : CI yX9_swap mX9_swap [vR 1, vI k, vI l] h (fun r h' => zPX (sp_swap (p, c, hs, tx, L) k l) h r h') := by
  refine inV [some (vR 1), some (vI k), some (vI l)] mvX9_swap rfl (Nat.le_of_ble_eq_true rfl) rfl ?_
  obtain ⟨hs1, hP, hH, hT, hC⟩ := id H
  have hp := hs1.p
  have hp0 : h 2 0 = p := hP.1
  have hpp : 0 < p := by omega
  have zk1 := zk.1
  have zk2 := zk.2
  have zl1 := zl.1
  have zl2 := zl.2
  have L39 : ∀ (h28 h19 : zH) (v : Int), (zBC p c hs h h19) → (∀ a j, 7 ≤ a → h28 a j = h19 a j) → (zPol p (zpw c k.toNat l.toNat) 2 h28) → ((0 ≤ k ∧ k ≤ 2) ∧ (0 ≤ l ∧ l ≤ 2)) → (v = zif (zdf (c k.toNat) (c l.toNat)) 1 0) → WP mX9_swap (zMQ mX9_swap (zKI (fun r h' => zPX (sp_swap (p, c, hs, tx, L) k l) h r h'))) 39 [some (vR 1), none, none] [vI v] zN zGR h28 := by
    intro h28 h19 v hB e28 hPol hok hv
    refine r_i dX9_swap_39 rfl meX9_swap ?_
    exact zPX_c H hB (zif_y hok) hv (zSt_pw hs1) hPol e28
  refine w_iload1 dX9_swap_0 (wp_iconst dX9_swap_1 ?_)
  apply s_i2 (M := mX9_swap) dX9_swap_2 lk_RX9_84 mvX9_outside (by decide) meX9_swap (Nat.le_of_ble_eq_true rfl)
  · exact t_X9_outside zk ⟨by omega, by omega⟩
  intro x2 h2 hP2
  obtain ⟨eh2, hP2⟩ := hP2
  replace eh2 := eh2.symm
  subst eh2
  refine wp_if_ne 16 dX9_swap_5 rfl ⟨by omega, by omega⟩ (fun c5 => ?_) (fun c5 => ?_)
  · skip
    refine wp_iconst dX9_swap_16 ?_
    refine r_i dX9_swap_17 rfl meX9_swap ?_
    exact zPX_q H zFX_r (zif_n (by omega)) rfl
  · skip
    refine w_iload2 dX9_swap_8 (wp_iconst dX9_swap_9 ?_)
    apply s_i2 (M := mX9_swap) dX9_swap_10 lk_RX9_84 mvX9_outside (by decide) meX9_swap (Nat.le_of_ble_eq_true rfl)
    · exact t_X9_outside zl ⟨by omega, by omega⟩
    intro x10 h10 hP10
    obtain ⟨eh10, hP10⟩ := hP10
    replace eh10 := eh10.symm
    subst eh10
    refine wp_if_eq 18 dX9_swap_13 rfl ⟨by omega, by omega⟩ (fun c13 => ?_) (fun c13 => ?_)
    · skip
      refine w_aload0 dX9_swap_18 ?_
      apply v_v0 (M := mX9_swap) dX9_swap_19 lk_RX9_72 mvX9_beginChange (by decide) meX9_swap is_1 (Nat.le_of_ble_eq_true rfl)
      · exact t_X9_beginChange H
      intro h19 hP19
      have hP19' := zPol_bc hP19 hP
      refine w_aload0 dX9_swap_22 (wp_getr 2 dX9_swap_23 fl_RX9_20 is_1 rfl (w_iload1 dX9_swap_26 (w_iload2 dX9_swap_27 ?_)))
      have hk3 : k.toNat < 3 := by omega
      have hl3 : l.toNat < 3 := by omega
      apply v_i2 (M := mX9_swap) dX9_swap_28 lk_RX9_136 mvX4_exchange (by decide) meX9_swap is_2 (Nat.le_of_ble_eq_true rfl)
      · exact t_X4_exchange (k := k.toNat) (l := l.toNat) zPo_2 (by omega) (by omega) (by omega) (by omega) (fun q hq j hj => by rw [hP19'.2 q hq j hj]; exact zSt_f hs1 _ _)
      intro x28 h28 hP28
      obtain ⟨e28, i29⟩ := hP28
      have i28 : (x28 = 0 ∨ x28 = 1) ∧ (x28 = 1 ↔ zdf (c k.toNat) (c l.toNat)) := by
        refine ⟨i29.1, i29.2.trans ⟨fun q => ?_, fun q => ?_⟩⟩
        · obtain ⟨j, q1, q2⟩ := q
          rw [hP19'.2 _ hk3 j q1, hP19'.2 _ hl3 j q1] at q2
          exact ⟨j, q1, q2⟩
        · obtain ⟨j, q1, q2⟩ := q
          exact ⟨j, q1, by rw [hP19'.2 _ hk3 j q1, hP19'.2 _ hl3 j q1]; exact q2⟩
      clear i29
      obtain ⟨b28, i28⟩ := i28
      have hPol : zPol p (zpw c k.toNat l.toNat) 2 h28 := ⟨by
        rw [e28]
        unfold zsw
        rw [if_neg (by omega), if_neg (by omega)]
        exact hP19'.1, fun q hq j hj => by
        rw [e28]
        unfold zsw zpw
        by_cases w : q = k.toNat
        · rw [if_pos w, if_pos ⟨hj, by omega⟩]
          exact hP19'.2 _ (by omega) j hj
        · rw [if_neg w, if_neg (by omega)]
          by_cases w2 : q = l.toNat
          · rw [if_pos w2, if_pos ⟨hj, by omega⟩]
            exact hP19'.2 _ (by omega) j hj
          · rw [if_neg w2, if_neg (by omega)]
            exact hP19'.2 q hq j hj⟩
      have e28' : ∀ a j, 7 ≤ a → h28 a j = h19 a j := fun a j ha => by rw [e28]; unfold zsw; rw [if_neg (by omega), if_neg (by omega)]
      refine wp_if_eq 38 dX9_swap_31 rfl ⟨by omega, by omega⟩ (fun c31 => ?_) (fun c31 => ?_)
      · skip
        refine wp_iconst dX9_swap_38 ?_
        refine w_forget1 ?_
        refine w_forget2 ?_
        first
        | (have c9 := i28.mp (by omega)
           exact L39 _ _ _ hP19 e28' hPol (by omega) (zif_y c9).symm)
        | exact L39 _ _ _ hP19 e28' hPol (by omega) (zif_n (fun q => by have := i28.mpr q; omega)).symm
      · skip
        refine wp_iconst dX9_swap_34 (wp_goto 39 dX9_swap_35 rfl ?_)
        refine w_forget1 ?_
        refine w_forget2 ?_
        first
        | (have c9 := i28.mp (by omega)
           exact L39 _ _ _ hP19 e28' hPol (by omega) (zif_y c9).symm)
        | exact L39 _ _ _ hP19 e28' hPol (by omega) (zif_n (fun q => by have := i28.mpr q; omega)).symm
    · skip
      refine wp_iconst dX9_swap_16 ?_
      refine r_i dX9_swap_17 rfl meX9_swap ?_
      exact zPX_q H zFX_r (zif_n (by omega)) rfl
set_option maxRecDepth 100000 in
set_option maxHeartbeats 4000000 in
theorem t_X9_combine {h : zH} {p : Int} {c : Nat → Nat → Int} {hs : List (Int × (Nat → Nat → Int))} {tx : Nat → Int} {L : Nat} (H : zWd p c hs tx L h) {k l cc i j e : Int} (zk : zin k) (zl : zin l) (zcc : zin cc) (zi : zin i) (zj : zin j) (ze : zin e) : CI yX9_combine mX9_combine [vR 1, vI k, vI l, vI cc, vI i, vI j, vI e] h (fun r h' => zPX (sp_combine (p, c, hs, tx, L) k l cc i j e) h r h') := by
  refine inV [some (vR 1), some (vI k), some (vI l), some (vI cc), some (vI i), some (vI j), some (vI e)] mvX9_combine rfl (Nat.le_of_ble_eq_true rfl) rfl ?_
  obtain ⟨hs1, hP, hH, hT, hC⟩ := id H
  have hp := hs1.p
  have hp0 : h 2 0 = p := hP.1
  have hpp : 0 < p := by omega
  have zk1 := zk.1
  have zk2 := zk.2
  have zl1 := zl.1
  have zl2 := zl.2
  have zcc1 := zcc.1
  have zcc2 := zcc.2
  have zi1 := zi.1
  have zi2 := zi.2
  have zj1 := zj.1
  have zj2 := zj.2
  have ze1 := ze.1
  have ze2 := ze.2
  refine w_iload1 dX9_combine_0 (w_iload4 dX9_combine_1 (w_iload5 dX9_combine_3 (w_iload6 dX9_combine_5 ?_)))
  apply s_i4 (M := mX9_combine) dX9_combine_7 lk_RX9_103 mvX9_noTerm (by decide) meX9_combine (Nat.le_of_ble_eq_true rfl)
  · exact t_X9_noTerm zk zi zj ze
  intro x7 h7 hP7
  obtain ⟨eh7, hP7⟩ := hP7
  replace eh7 := eh7.symm
  subst eh7
  refine wp_if_ne 42 dX9_combine_10 rfl ⟨by omega, by omega⟩ (fun c10 => ?_) (fun c10 => ?_)
  · skip
    refine wp_iconst dX9_combine_42 ?_
    refine r_i dX9_combine_43 rfl meX9_combine ?_
    exact zPX_q H zFX_r (zif_n (fun q => by unfold zoM at q; have := hP7.2.mpr q.1; have q2 := q.2.1; have q3 := q.2.2.1; have q4 := q.2.2.2; clear q; omega)) rfl
  · skip
    refine w_iload2 dX9_combine_13 (wp_iconst dX9_combine_14 ?_)
    apply s_i2 (M := mX9_combine) dX9_combine_15 lk_RX9_84 mvX9_outside (by decide) meX9_combine (Nat.le_of_ble_eq_true rfl)
    · exact t_X9_outside zl ⟨by omega, by omega⟩
    intro x15 h15 hP15
    obtain ⟨eh15, hP15⟩ := hP15
    replace eh15 := eh15.symm
    subst eh15
    refine wp_if_ne 42 dX9_combine_18 rfl ⟨by omega, by omega⟩ (fun c18 => ?_) (fun c18 => ?_)
    · skip
      refine wp_iconst dX9_combine_42 ?_
      refine r_i dX9_combine_43 rfl meX9_combine ?_
      exact zPX_q H zFX_r (zif_n (fun q => by unfold zoM at q; have := hP7.2.mpr q.1; have q2 := q.2.1; have q3 := q.2.2.1; have q4 := q.2.2.2; clear q; omega)) rfl
    · skip
      refine w_iload1 dX9_combine_21 (w_iload2 dX9_combine_22 ?_)
      refine wp_icmp_eq 42 dX9_combine_23 rfl ⟨by omega, by omega⟩ ⟨by omega, by omega⟩ (fun c23 => ?_) (fun c23 => ?_)
      · skip
        refine wp_iconst dX9_combine_42 ?_
        refine r_i dX9_combine_43 rfl meX9_combine ?_
        exact zPX_q H zFX_r (zif_n (fun q => by unfold zoM at q; have := hP7.2.mpr q.1; have q2 := q.2.1; have q3 := q.2.2.1; have q4 := q.2.2.2; clear q; omega)) rfl
      · skip
        refine w_iload3 dX9_combine_26 (w_aload0 dX9_combine_27 (wp_getr 2 dX9_combine_28 fl_RX9_20 is_1 rfl (wp_geti dX9_combine_31 fl_RX9_68 is_2 (wp_iconst dX9_combine_34 (wp_isub dX9_combine_35 ?_)))))
        rw [hp0]
        apply s_i2 (M := mX9_combine) dX9_combine_36 lk_RX9_84 mvX9_outside (by decide) meX9_combine (Nat.le_of_ble_eq_true rfl)
        · exact t_X9_outside zcc ⟨by omega, by omega⟩
        intro x36 h36 hP36
        obtain ⟨eh36, hP36⟩ := hP36
        replace eh36 := eh36.symm
        subst eh36
        refine wp_if_eq 44 dX9_combine_39 rfl ⟨by omega, by omega⟩ (fun c39 => ?_) (fun c39 => ?_)
        · skip
          refine w_iload3 dX9_combine_44 ?_
          have hok : zoT k i j e := hP7.2.mp (by omega)
          obtain ⟨hpl, hpl2, hkk, hk3⟩ := zoT_pl hok
          have hM : zoM p k l cc i j e := ⟨hok, by omega, by omega, by omega, by omega⟩
          refine wp_if_eq 68 dX9_combine_45 rfl ⟨by omega, by omega⟩ (fun c45 => ?_) (fun c45 => ?_)
          · skip
            refine w_aload0 dX9_combine_68 ?_
            apply v_v0 (M := mX9_combine) dX9_combine_69 lk_RX9_72 mvX9_beginChange (by decide) meX9_combine is_1 (Nat.le_of_ble_eq_true rfl)
            · exact t_X9_beginChange H
            intro h69 hP69
            have hP69' := zPol_bc hP69 hP
            refine w_aload0 dX9_combine_72 (wp_getr 2 dX9_combine_73 fl_RX9_20 is_1 rfl (w_iload1 dX9_combine_76 (w_iload2 dX9_combine_77 (w_iload3 dX9_combine_78 (w_iload4 dX9_combine_79 (w_iload5 dX9_combine_81 (w_iload6 dX9_combine_83 ?_)))))))
            apply s_i3 (M := mX9_combine) dX9_combine_85 lk_RX9_107 mvX9_place (by decide) meX9_combine (Nat.le_of_ble_eq_true rfl)
            · exact t_X9_place
            intro x85 h85 hP85
            obtain ⟨eh85, ex85⟩ := hP85
            replace eh85 := eh85.symm
            subst eh85
            replace ex85 := ex85.symm
            subst ex85
            apply v_v4 (M := mX9_combine) dX9_combine_88 lk_RX9_142 mvX4_addMultiple (by decide) meX9_combine is_2 (Nat.le_of_ble_eq_true rfl)
            · exact t_X4_addMultiple (k := k.toNat) (l := l.toNat) (off := zpl3 i j e) zPo_2 hkk hk3 (by omega) (by omega) (by omega) hpl hpl2 hp hP69'.1 (by omega) (fun q hq j hj => by rw [hP69'.2 q hq j hj]; exact hs1.2 _ _)
            intro h88 hP88
            have hPol : zPol p (zpm p c k.toNat l.toNat cc (zpl3 i j e)) 2 h88 := ⟨by
              rw [hP88]
              try dsimp only
              rw [if_neg (by omega)]
              exact hP69'.1, fun q hq j' hj => by
              rw [hP88]
              try dsimp only
              unfold zpm
              by_cases w : q = k.toNat ∧ zpl3 i j e ≤ j' ∧ j' < 27
              · rw [if_pos w, if_pos ⟨by omega, w.2⟩, hP69'.2 _ hk3 j' hj, hP69'.2 _ (by omega) _ (by omega)]
              · rw [if_neg w, if_neg (by omega)]
                exact hP69'.2 q hq j' hj⟩
            refine w_aload0 dX9_combine_91 (wp_getr 2 dX9_combine_92 fl_RX9_20 is_1 rfl (w_iload1 dX9_combine_95 ?_))
            apply v_i1 (M := mX9_combine) dX9_combine_96 lk_RX9_100 mvX4_termCount (by decide) meX9_combine is_2 (Nat.le_of_ble_eq_true rfl)
            · exact t_X4_termCount (k := k.toNat) (f := zpm p c k.toNat l.toNat cc (zpl3 i j e) k.toNat) zPo_2 hkk hk3 (fun j' hj => ⟨hPol.2 _ hk3 j' hj, zSt_f (zSt_pm hs1) _ _⟩)
            intro x96 h96 hP96
            obtain ⟨eh96, ex96⟩ := hP96
            replace eh96 := eh96.symm
            subst eh96
            replace ex96 := ex96.symm
            subst ex96
            refine r_i dX9_combine_99 rfl meX9_combine ?_
            refine zPX_c H hP69 ((zif_y hM).trans (zif_n (fun q => ?_))) rfl (zSt_pm hs1) hPol (fun a j' ha => ?_)
            · first
              | exact q.1 c45
              | (have := hP59.2.mpr q.2; omega)
            · rw [hP88]
              try dsimp only
              rw [if_neg (by omega)]
          · skip
            refine w_aload0 dX9_combine_48 (wp_getr 2 dX9_combine_49 fl_RX9_20 is_1 rfl (w_iload2 dX9_combine_52 (w_iload4 dX9_combine_53 (w_iload5 dX9_combine_55 (w_iload6 dX9_combine_57 ?_)))))
            apply v_i4 (M := mX9_combine) dX9_combine_59 lk_RX9_139 mvX4_leavesRange (by decide) meX9_combine is_2 (Nat.le_of_ble_eq_true rfl)
            · exact t_X4_leavesRange (k := l.toNat) (u := i.toNat) (v := j.toNat) (w := e.toNat) (f := c l.toNat) zPo_2 (by omega) (by omega) (by unfold zoT at hok; omega) (by unfold zoT at hok; omega) (by unfold zoT at hok; omega) (by unfold zoT at hok; omega) (by unfold zoT at hok; omega) (by unfold zoT at hok; omega) (fun j hj => ⟨hP.2 _ (by omega) j hj, zSt_f hs1 _ _⟩)
            intro x59 h59 hP59
            obtain ⟨eh59, hP59⟩ := hP59
            replace eh59 := eh59.symm
            subst eh59
            refine wp_if_eq 68 dX9_combine_62 rfl ⟨by omega, by omega⟩ (fun c62 => ?_) (fun c62 => ?_)
            · skip
              refine w_aload0 dX9_combine_68 ?_
              apply v_v0 (M := mX9_combine) dX9_combine_69 lk_RX9_72 mvX9_beginChange (by decide) meX9_combine is_1 (Nat.le_of_ble_eq_true rfl)
              · exact t_X9_beginChange H
              intro h69 hP69
              have hP69' := zPol_bc hP69 hP
              refine w_aload0 dX9_combine_72 (wp_getr 2 dX9_combine_73 fl_RX9_20 is_1 rfl (w_iload1 dX9_combine_76 (w_iload2 dX9_combine_77 (w_iload3 dX9_combine_78 (w_iload4 dX9_combine_79 (w_iload5 dX9_combine_81 (w_iload6 dX9_combine_83 ?_)))))))
              apply s_i3 (M := mX9_combine) dX9_combine_85 lk_RX9_107 mvX9_place (by decide) meX9_combine (Nat.le_of_ble_eq_true rfl)
              · exact t_X9_place
              intro x85 h85 hP85
              obtain ⟨eh85, ex85⟩ := hP85
              replace eh85 := eh85.symm
              subst eh85
              replace ex85 := ex85.symm
              subst ex85
              apply v_v4 (M := mX9_combine) dX9_combine_88 lk_RX9_142 mvX4_addMultiple (by decide) meX9_combine is_2 (Nat.le_of_ble_eq_true rfl)
              · exact t_X4_addMultiple (k := k.toNat) (l := l.toNat) (off := zpl3 i j e) zPo_2 hkk hk3 (by omega) (by omega) (by omega) hpl hpl2 hp hP69'.1 (by omega) (fun q hq j hj => by rw [hP69'.2 q hq j hj]; exact hs1.2 _ _)
              intro h88 hP88
              have hPol : zPol p (zpm p c k.toNat l.toNat cc (zpl3 i j e)) 2 h88 := ⟨by
                rw [hP88]
                try dsimp only
                rw [if_neg (by omega)]
                exact hP69'.1, fun q hq j' hj => by
                rw [hP88]
                try dsimp only
                unfold zpm
                by_cases w : q = k.toNat ∧ zpl3 i j e ≤ j' ∧ j' < 27
                · rw [if_pos w, if_pos ⟨by omega, w.2⟩, hP69'.2 _ hk3 j' hj, hP69'.2 _ (by omega) _ (by omega)]
                · rw [if_neg w, if_neg (by omega)]
                  exact hP69'.2 q hq j' hj⟩
              refine w_aload0 dX9_combine_91 (wp_getr 2 dX9_combine_92 fl_RX9_20 is_1 rfl (w_iload1 dX9_combine_95 ?_))
              apply v_i1 (M := mX9_combine) dX9_combine_96 lk_RX9_100 mvX4_termCount (by decide) meX9_combine is_2 (Nat.le_of_ble_eq_true rfl)
              · exact t_X4_termCount (k := k.toNat) (f := zpm p c k.toNat l.toNat cc (zpl3 i j e) k.toNat) zPo_2 hkk hk3 (fun j' hj => ⟨hPol.2 _ hk3 j' hj, zSt_f (zSt_pm hs1) _ _⟩)
              intro x96 h96 hP96
              obtain ⟨eh96, ex96⟩ := hP96
              replace eh96 := eh96.symm
              subst eh96
              replace ex96 := ex96.symm
              subst ex96
              refine r_i dX9_combine_99 rfl meX9_combine ?_
              refine zPX_c H hP69 ((zif_y hM).trans (zif_n (fun q => ?_))) rfl (zSt_pm hs1) hPol (fun a j' ha => ?_)
              · first
                | exact q.1 c45
                | (have := hP59.2.mpr q.2; omega)
              · rw [hP88]
                try dsimp only
                rw [if_neg (by omega)]
            · skip
              refine wp_bipush dX9_combine_65 (by decide) ?_
              refine r_i dX9_combine_67 rfl meX9_combine ?_
              exact zPX_q H zFX_r ((zif_y hM).trans (zif_y ⟨c45, hP59.2.mp (by omega)⟩)) rfl
        · skip
          refine wp_iconst dX9_combine_42 ?_
          refine r_i dX9_combine_43 rfl meX9_combine ?_
          exact zPX_q H zFX_r (zif_n (fun q => by unfold zoM at q; have := hP7.2.mpr q.1; have q2 := q.2.1; have q3 := q.2.2.1; have q4 := q.2.2.2; clear q; omega)) rfl
set_option maxRecDepth 100000 in
set_option maxHeartbeats 4000000 in
theorem t_X9_shift {h : zH} {p : Int} {c : Nat → Nat → Int} {hs : List (Int × (Nat → Nat → Int))} {tx : Nat → Int} {L : Nat} (H : zWd p c hs tx L h) {cc : Int} (zcc : zin cc) : CI yX9_shift mX9_shift [vR 1, vI cc] h (fun r h' => zPX (sp_shift (p, c, hs, tx, L) cc) h r h') := by
  refine inV [some (vR 1), some (vI cc)] mvX9_shift rfl (Nat.le_of_ble_eq_true rfl) rfl ?_
  obtain ⟨hs1, hP, hH, hT, hC⟩ := id H
  have hp := hs1.p
  have hp0 : h 2 0 = p := hP.1
  have hpp : 0 < p := by omega
  have zcc1 := zcc.1
  have zcc2 := zcc.2
  refine w_iload1 dX9_shift_0 (w_aload0 dX9_shift_1 (wp_getr 2 dX9_shift_2 fl_RX9_20 is_1 rfl (wp_geti dX9_shift_5 fl_RX9_68 is_2 (wp_iconst dX9_shift_8 (wp_isub dX9_shift_9 ?_)))))
  rw [hp0]
  apply s_i2 (M := mX9_shift) dX9_shift_10 lk_RX9_84 mvX9_outside (by decide) meX9_shift (Nat.le_of_ble_eq_true rfl)
  · exact t_X9_outside zcc ⟨by omega, by omega⟩
  intro x10 h10 hP10
  obtain ⟨eh10, hP10⟩ := hP10
  replace eh10 := eh10.symm
  subst eh10
  refine wp_if_eq 18 dX9_shift_13 rfl ⟨by omega, by omega⟩ (fun c13 => ?_) (fun c13 => ?_)
  · skip
    refine w_aload0 dX9_shift_18 ?_
    apply v_v0 (M := mX9_shift) dX9_shift_19 lk_RX9_72 mvX9_beginChange (by decide) meX9_shift is_1 (Nat.le_of_ble_eq_true rfl)
    · exact t_X9_beginChange H
    intro h19 hP19
    have hP19' := zPol_bc hP19 hP
    refine w_aload0 dX9_shift_22 (wp_getr 2 dX9_shift_23 fl_RX9_20 is_1 rfl (w_iload1 dX9_shift_26 ?_))
    apply v_v1 (M := mX9_shift) dX9_shift_27 lk_RX9_146 mvX4_substitute (by decide) meX9_shift is_2 (Nat.le_of_ble_eq_true rfl)
    · exact t_X4_substitute zPo_2 hp hP19'.1 (by omega) (fun q hq j hj => by rw [hP19'.2 q hq j hj]; exact hs1.2 _ _)
    intro h27 hP27
    have hPol : zPol p (zpsh p c cc) 2 h27 := ⟨by
      rw [hP27]
      try dsimp only
      rw [if_neg (by omega)]
      exact hP19'.1, fun q hq j hj => by
      rw [hP27]
      try dsimp only
      unfold zpsh
      rw [if_pos (by omega), if_pos ⟨hq, hj⟩]
      exact zsh_c (hP19'.2 q hq) hj⟩
    refine w_aload0 dX9_shift_30 (wp_getr 2 dX9_shift_31 fl_RX9_20 is_1 rfl ?_)
    apply v_i0 (M := mX9_shift) dX9_shift_34 lk_RX9_123 mvX4_termCountOfAll (by decide) meX9_shift is_2 (Nat.le_of_ble_eq_true rfl)
    · exact t_X4_termCountOfAll zPo_2 (zSt_psh hs1) hPol
    intro x34 h34 hP34
    obtain ⟨eh34, ex34⟩ := hP34
    replace eh34 := eh34.symm
    subst eh34
    replace ex34 := ex34.symm
    subst ex34
    refine r_i dX9_shift_37 rfl meX9_shift ?_
    refine zPX_c H hP19 (zif_y (by omega)) rfl (zSt_psh hs1) hPol (fun a j ha => ?_)
    rw [hP27]
    try dsimp only
    rw [if_neg (by omega)]
  · skip
    refine wp_iconst dX9_shift_16 ?_
    refine r_i dX9_shift_17 rfl meX9_shift ?_
    exact zPX_q H zFX_r (zif_n (by omega)) rfl
set_option maxRecDepth 100000 in
set_option maxHeartbeats 4000000 in
theorem t_X9_value {h : zH} {p : Int} {c : Nat → Nat → Int} {hs : List (Int × (Nat → Nat → Int))} {tx : Nat → Int} {L : Nat} (H : zWd p c hs tx L h) {k x y t : Int} (zk : zin k) (zx : zin x) (zy : zin y) (zt : zin t) : CI yX9_value mX9_value [vR 1, vI k, vI x, vI y, vI t] h (fun r h' => zPX (sp_value (p, c, hs, tx, L) k x y t) h r h') := by
  refine inV [some (vR 1), some (vI k), some (vI x), some (vI y), some (vI t)] mvX9_value rfl (Nat.le_of_ble_eq_true rfl) rfl ?_
  obtain ⟨hs1, hP, hH, hT, hC⟩ := id H
  have hp := hs1.p
  have hp0 : h 2 0 = p := hP.1
  have hpp : 0 < p := by omega
  have zk1 := zk.1
  have zk2 := zk.2
  have zx1 := zx.1
  have zx2 := zx.2
  have zy1 := zy.1
  have zy2 := zy.2
  have zt1 := zt.1
  have zt2 := zt.2
  refine w_iload1 dX9_value_0 (wp_iconst dX9_value_1 ?_)
  apply s_i2 (M := mX9_value) dX9_value_2 lk_RX9_84 mvX9_outside (by decide) meX9_value (Nat.le_of_ble_eq_true rfl)
  · exact t_X9_outside zk ⟨by omega, by omega⟩
  intro x2 h2 hP2
  obtain ⟨eh2, hP2⟩ := hP2
  replace eh2 := eh2.symm
  subst eh2
  refine wp_if_ne 57 dX9_value_5 rfl ⟨by omega, by omega⟩ (fun c5 => ?_) (fun c5 => ?_)
  · skip
    refine wp_iconst dX9_value_57 ?_
    refine r_i dX9_value_58 rfl meX9_value ?_
    exact zPX_q H zFX_r (zif_n (by unfold zoP; omega)) rfl
  · skip
    refine w_iload2 dX9_value_8 (w_aload0 dX9_value_9 (wp_getr 2 dX9_value_10 fl_RX9_20 is_1 rfl (wp_geti dX9_value_13 fl_RX9_68 is_2 (wp_iconst dX9_value_16 (wp_isub dX9_value_17 ?_)))))
    rw [hp0]
    apply s_i2 (M := mX9_value) dX9_value_18 lk_RX9_84 mvX9_outside (by decide) meX9_value (Nat.le_of_ble_eq_true rfl)
    · exact t_X9_outside zx ⟨by omega, by omega⟩
    intro x18 h18 hP18
    obtain ⟨eh18, hP18⟩ := hP18
    replace eh18 := eh18.symm
    subst eh18
    refine wp_if_ne 57 dX9_value_21 rfl ⟨by omega, by omega⟩ (fun c21 => ?_) (fun c21 => ?_)
    · skip
      refine wp_iconst dX9_value_57 ?_
      refine r_i dX9_value_58 rfl meX9_value ?_
      exact zPX_q H zFX_r (zif_n (by unfold zoP; omega)) rfl
    · skip
      refine w_iload3 dX9_value_24 (w_aload0 dX9_value_25 (wp_getr 2 dX9_value_26 fl_RX9_20 is_1 rfl (wp_geti dX9_value_29 fl_RX9_68 is_2 (wp_iconst dX9_value_32 (wp_isub dX9_value_33 ?_)))))
      rw [hp0]
      apply s_i2 (M := mX9_value) dX9_value_34 lk_RX9_84 mvX9_outside (by decide) meX9_value (Nat.le_of_ble_eq_true rfl)
      · exact t_X9_outside zy ⟨by omega, by omega⟩
      intro x34 h34 hP34
      obtain ⟨eh34, hP34⟩ := hP34
      replace eh34 := eh34.symm
      subst eh34
      refine wp_if_ne 57 dX9_value_37 rfl ⟨by omega, by omega⟩ (fun c37 => ?_) (fun c37 => ?_)
      · skip
        refine wp_iconst dX9_value_57 ?_
        refine r_i dX9_value_58 rfl meX9_value ?_
        exact zPX_q H zFX_r (zif_n (by unfold zoP; omega)) rfl
      · skip
        refine w_iload4 dX9_value_40 (w_aload0 dX9_value_42 (wp_getr 2 dX9_value_43 fl_RX9_20 is_1 rfl (wp_geti dX9_value_46 fl_RX9_68 is_2 (wp_iconst dX9_value_49 (wp_isub dX9_value_50 ?_)))))
        rw [hp0]
        apply s_i2 (M := mX9_value) dX9_value_51 lk_RX9_84 mvX9_outside (by decide) meX9_value (Nat.le_of_ble_eq_true rfl)
        · exact t_X9_outside zt ⟨by omega, by omega⟩
        intro x51 h51 hP51
        obtain ⟨eh51, hP51⟩ := hP51
        replace eh51 := eh51.symm
        subst eh51
        refine wp_if_eq 59 dX9_value_54 rfl ⟨by omega, by omega⟩ (fun c54 => ?_) (fun c54 => ?_)
        · skip
          refine w_aload0 dX9_value_59 (wp_getr 2 dX9_value_60 fl_RX9_20 is_1 rfl (w_iload1 dX9_value_63 (w_iload2 dX9_value_64 (w_iload3 dX9_value_65 (w_iload4 dX9_value_66 ?_)))))
          apply v_i4 (M := mX9_value) dX9_value_68 lk_RX9_127 mvX4_valueOf (by decide) meX9_value is_2 (Nat.le_of_ble_eq_true rfl)
          · exact t_X4_valueOf (k := k.toNat) zPo_2 (by omega) (by omega) hs1 hP (by omega) (by omega) (by omega)
          intro x68 h68 hP68
          obtain ⟨eh68, ex68⟩ := hP68
          replace eh68 := eh68.symm
          subst eh68
          replace ex68 := ex68.symm
          subst ex68
          refine r_i dX9_value_71 rfl meX9_value ?_
          exact zPX_q H zFX_r (zif_y (by unfold zoP; omega)) rfl
        · skip
          refine wp_iconst dX9_value_57 ?_
          refine r_i dX9_value_58 rfl meX9_value ?_
          exact zPX_q H zFX_r (zif_n (by unfold zoP; omega)) rfl
set_option maxRecDepth 100000 in
set_option maxHeartbeats 4000000 in
theorem t_X9_degree {h : zH} {p : Int} {c : Nat → Nat → Int} {hs : List (Int × (Nat → Nat → Int))} {tx : Nat → Int} {L : Nat} (H : zWd p c hs tx L h) {k v : Int} (zk : zin k) (zv : zin v) : CI yX9_degree mX9_degree [vR 1, vI k, vI v] h (fun r h' => zPX (sp_degree (p, c, hs, tx, L) k v) h r h') := by
  refine inV [some (vR 1), some (vI k), some (vI v)] mvX9_degree rfl (Nat.le_of_ble_eq_true rfl) rfl ?_
  obtain ⟨hs1, hP, hH, hT, hC⟩ := id H
  have hp := hs1.p
  have hp0 : h 2 0 = p := hP.1
  have hpp : 0 < p := by omega
  have zk1 := zk.1
  have zk2 := zk.2
  have zv1 := zv.1
  have zv2 := zv.2
  refine w_iload1 dX9_degree_0 (wp_iconst dX9_degree_1 ?_)
  apply s_i2 (M := mX9_degree) dX9_degree_2 lk_RX9_84 mvX9_outside (by decide) meX9_degree (Nat.le_of_ble_eq_true rfl)
  · exact t_X9_outside zk ⟨by omega, by omega⟩
  intro x2 h2 hP2
  obtain ⟨eh2, hP2⟩ := hP2
  replace eh2 := eh2.symm
  subst eh2
  refine wp_if_ne 16 dX9_degree_5 rfl ⟨by omega, by omega⟩ (fun c5 => ?_) (fun c5 => ?_)
  · skip
    refine wp_iconst dX9_degree_16 ?_
    refine r_i dX9_degree_17 rfl meX9_degree ?_
    exact zPX_q H zFX_r (zif_n (by omega)) rfl
  · skip
    refine w_iload2 dX9_degree_8 (wp_iconst dX9_degree_9 ?_)
    apply s_i2 (M := mX9_degree) dX9_degree_10 lk_RX9_84 mvX9_outside (by decide) meX9_degree (Nat.le_of_ble_eq_true rfl)
    · exact t_X9_outside zv ⟨by omega, by omega⟩
    intro x10 h10 hP10
    obtain ⟨eh10, hP10⟩ := hP10
    replace eh10 := eh10.symm
    subst eh10
    refine wp_if_eq 18 dX9_degree_13 rfl ⟨by omega, by omega⟩ (fun c13 => ?_) (fun c13 => ?_)
    · skip
      refine w_aload0 dX9_degree_18 (wp_getr 2 dX9_degree_19 fl_RX9_20 is_1 rfl (w_iload1 dX9_degree_22 (w_iload2 dX9_degree_23 ?_)))
      apply v_i2 (M := mX9_degree) dX9_degree_24 lk_RX9_150 mvX4_degreeIn (by decide) meX9_degree is_2 (Nat.le_of_ble_eq_true rfl)
      · exact t_X4_degreeIn (k := k.toNat) (v := v.toNat) (f := c k.toNat) zPo_2 (by omega) (by omega) (by omega) (by omega) (fun j hj => ⟨hP.2 _ (by omega) j hj, zSt_f hs1 _ _⟩)
      intro x24 h24 hP24
      obtain ⟨eh24, ex24⟩ := hP24
      replace eh24 := eh24.symm
      subst eh24
      replace ex24 := ex24.symm
      subst ex24
      refine r_i dX9_degree_27 rfl meX9_degree ?_
      exact zPX_q H zFX_r (zif_y (by omega)) rfl
    · skip
      refine wp_iconst dX9_degree_16 ?_
      refine r_i dX9_degree_17 rfl meX9_degree ?_
      exact zPX_q H zFX_r (zif_n (by omega)) rfl
set_option maxRecDepth 100000 in
set_option maxHeartbeats 4000000 in
theorem t_X9_degreeAt {h : zH} {p : Int} {c : Nat → Nat → Int} {hs : List (Int × (Nat → Nat → Int))} {tx : Nat → Int} {L : Nat} (H : zWd p c hs tx L h) {k v t : Int} (zk : zin k) (zv : zin v) (zt : zin t) : CI yX9_degreeAt mX9_degreeAt [vR 1, vI k, vI v, vI t] h (fun r h' => zPX (sp_degreeAt (p, c, hs, tx, L) k v t) h r h') := by
  refine inV [some (vR 1), some (vI k), some (vI v), some (vI t)] mvX9_degreeAt rfl (Nat.le_of_ble_eq_true rfl) rfl ?_
  obtain ⟨hs1, hP, hH, hT, hC⟩ := id H
  have hp := hs1.p
  have hp0 : h 2 0 = p := hP.1
  have hpp : 0 < p := by omega
  have zk1 := zk.1
  have zk2 := zk.2
  have zv1 := zv.1
  have zv2 := zv.2
  have zt1 := zt.1
  have zt2 := zt.2
  refine w_iload1 dX9_degreeAt_0 (wp_iconst dX9_degreeAt_1 ?_)
  apply s_i2 (M := mX9_degreeAt) dX9_degreeAt_2 lk_RX9_84 mvX9_outside (by decide) meX9_degreeAt (Nat.le_of_ble_eq_true rfl)
  · exact t_X9_outside zk ⟨by omega, by omega⟩
  intro x2 h2 hP2
  obtain ⟨eh2, hP2⟩ := hP2
  replace eh2 := eh2.symm
  subst eh2
  refine wp_if_ne 32 dX9_degreeAt_5 rfl ⟨by omega, by omega⟩ (fun c5 => ?_) (fun c5 => ?_)
  · skip
    refine wp_iconst dX9_degreeAt_32 ?_
    refine r_i dX9_degreeAt_33 rfl meX9_degreeAt ?_
    exact zPX_q H zFX_r (zif_n (by omega)) rfl
  · skip
    refine w_iload2 dX9_degreeAt_8 (wp_iconst dX9_degreeAt_9 ?_)
    apply s_i2 (M := mX9_degreeAt) dX9_degreeAt_10 lk_RX9_84 mvX9_outside (by decide) meX9_degreeAt (Nat.le_of_ble_eq_true rfl)
    · exact t_X9_outside zv ⟨by omega, by omega⟩
    intro x10 h10 hP10
    obtain ⟨eh10, hP10⟩ := hP10
    replace eh10 := eh10.symm
    subst eh10
    refine wp_if_ne 32 dX9_degreeAt_13 rfl ⟨by omega, by omega⟩ (fun c13 => ?_) (fun c13 => ?_)
    · skip
      refine wp_iconst dX9_degreeAt_32 ?_
      refine r_i dX9_degreeAt_33 rfl meX9_degreeAt ?_
      exact zPX_q H zFX_r (zif_n (by omega)) rfl
    · skip
      refine w_iload3 dX9_degreeAt_16 (w_aload0 dX9_degreeAt_17 (wp_getr 2 dX9_degreeAt_18 fl_RX9_20 is_1 rfl (wp_geti dX9_degreeAt_21 fl_RX9_68 is_2 (wp_iconst dX9_degreeAt_24 (wp_isub dX9_degreeAt_25 ?_)))))
      rw [hp0]
      apply s_i2 (M := mX9_degreeAt) dX9_degreeAt_26 lk_RX9_84 mvX9_outside (by decide) meX9_degreeAt (Nat.le_of_ble_eq_true rfl)
      · exact t_X9_outside zt ⟨by omega, by omega⟩
      intro x26 h26 hP26
      obtain ⟨eh26, hP26⟩ := hP26
      replace eh26 := eh26.symm
      subst eh26
      refine wp_if_eq 34 dX9_degreeAt_29 rfl ⟨by omega, by omega⟩ (fun c29 => ?_) (fun c29 => ?_)
      · skip
        refine w_aload0 dX9_degreeAt_34 (wp_getr 2 dX9_degreeAt_35 fl_RX9_20 is_1 rfl (w_iload1 dX9_degreeAt_38 (w_iload2 dX9_degreeAt_39 (w_iload3 dX9_degreeAt_40 ?_))))
        apply v_i3 (M := mX9_degreeAt) dX9_degreeAt_41 lk_RX9_153 mvX4_degreeInAt (by decide) meX9_degreeAt is_2 (Nat.le_of_ble_eq_true rfl)
        · exact t_X4_degreeInAt (k := k.toNat) (v := v.toNat) zPo_2 (by omega) (by omega) (by omega) (by omega) hs1 hP (by omega)
        intro x41 h41 hP41
        obtain ⟨eh41, ex41⟩ := hP41
        replace eh41 := eh41.symm
        subst eh41
        replace ex41 := ex41.symm
        subst ex41
        refine r_i dX9_degreeAt_44 rfl meX9_degreeAt ?_
        exact zPX_q H zFX_r (zif_y (by omega)) rfl
      · skip
        refine wp_iconst dX9_degreeAt_32 ?_
        refine r_i dX9_degreeAt_33 rfl meX9_degreeAt ?_
        exact zPX_q H zFX_r (zif_n (by omega)) rfl
set_option maxRecDepth 100000 in
set_option maxHeartbeats 4000000 in
theorem t_X9_degreeDrops {h : zH} {p : Int} {c : Nat → Nat → Int} {hs : List (Int × (Nat → Nat → Int))} {tx : Nat → Int} {L : Nat} (H : zWd p c hs tx L h) : CI yX9_degreeDrops mX9_degreeDrops [vR 1] h (fun r h' => zPX (sp_degreeDrops (p, c, hs, tx, L)) h r h') := by
  refine inV [some (vR 1), none, none] mvX9_degreeDrops rfl (Nat.le_of_ble_eq_true rfl) rfl ?_
  obtain ⟨hs1, hP, hH, hT, hC⟩ := id H
  have hp := hs1.p
  have hp0 : h 2 0 = p := hP.1
  have hpp : 0 < p := by omega
  have L4 : ∀ (zm4 : Nat) (i : Nat) (vs vi : Int), p.toNat - i = zm4 → ((i : Int) ≤ p) → (vi = (i : Int)) → (vs = (zmk (fun t => zdrop p c (t : Int)) i : Int)) → WP mX9_degreeDrops (zMQ mX9_degreeDrops (zKI (fun r h' => zPX (sp_degreeDrops (p, c, hs, tx, L)) h r h'))) 4 [some (vR 1), some (vI vs), some (vI vi)] [] zN zGR h := by
    intro zm4
    induction zm4 using Nat.strongRecOn with | _ zm4 ih4 => ?_
    intro i vs vi hzm4 hi hvi hvs
    subst hzm4
    have hmb := zmk_b8 (P := fun t => zdrop p c (t : Int)) (i := i) (by omega)
    refine w_iload2 dX9_degreeDrops_4 (w_aload0 dX9_degreeDrops_5 (wp_getr 2 dX9_degreeDrops_6 fl_RX9_20 is_1 rfl (wp_geti dX9_degreeDrops_9 fl_RX9_68 is_2 ?_)))
    rw [hp0]
    refine wp_icmp_ge 38 dX9_degreeDrops_12 rfl ⟨by omega, by omega⟩ ⟨by omega, by omega⟩ (fun c12 => ?_) (fun c12 => ?_)
    · skip
      refine w_iload1 dX9_degreeDrops_38 ?_
      refine r_i dX9_degreeDrops_39 rfl meX9_degreeDrops ?_
      rw [show i = p.toNat by omega] at hvs
      exact zPX_q H zFX_r rfl hvs
    · skip
      refine w_aload0 dX9_degreeDrops_15 (wp_getr 2 dX9_degreeDrops_16 fl_RX9_20 is_1 rfl (w_iload2 dX9_degreeDrops_19 ?_))
      apply v_i1 (M := mX9_degreeDrops) dX9_degreeDrops_20 lk_RX9_156 mvX4_dropsAt (by decide) meX9_degreeDrops is_2 (Nat.le_of_ble_eq_true rfl)
      · exact t_X4_dropsAt (c := c) zPo_2 hs1 hP ⟨by omega, by omega⟩
      intro x20 h20 hP20
      obtain ⟨eh20, hP20⟩ := hP20
      replace eh20 := eh20.symm
      subst eh20
      refine wp_if_eq 32 dX9_degreeDrops_23 rfl ⟨by omega, by omega⟩ (fun c23 => ?_) (fun c23 => ?_)
      · skip
        refine w_iinc2 dX9_degreeDrops_32 rfl (by decide) (wp_goto 4 dX9_degreeDrops_35 rfl ?_)
        first
        | (have c9 : ¬ zdrop p c (i : Int) := fun q => by have := hP20.2.mpr (by rw [hvi]; exact q); omega
           refine ih4 _ (by omega) (i + 1) _ _ rfl (by omega) (by omega) ?_
           rw [hvs, zmk_n (P := fun t => zdrop p c (t : Int)) c9])
        | (have c9 : zdrop p c (i : Int) := by have := hP20.2.mp (by omega); rw [hvi] at this; exact this
           refine ih4 _ (by omega) (i + 1) _ _ rfl (by omega) (by omega) ?_
           rw [hvs, hvi, z_or1, zmk_or, zmk_y (P := fun t => zdrop p c (t : Int)) c9])
      · skip
        refine w_iload1 dX9_degreeDrops_26 (wp_iconst dX9_degreeDrops_27 (w_iload2 dX9_degreeDrops_28 (wp_ishl dX9_degreeDrops_29 (by omega) (wp_ior dX9_degreeDrops_30 ⟨by omega, by omega⟩ (by rw [hvi]; exact z_1s i (by omega)) (w_istore1 dX9_degreeDrops_31 rfl (by decide) (w_iinc2 dX9_degreeDrops_32 rfl (by decide) (wp_goto 4 dX9_degreeDrops_35 rfl ?_)))))))
        first
        | (have c9 : ¬ zdrop p c (i : Int) := fun q => by have := hP20.2.mpr (by rw [hvi]; exact q); omega
           refine ih4 _ (by omega) (i + 1) _ _ rfl (by omega) (by omega) ?_
           rw [hvs, zmk_n (P := fun t => zdrop p c (t : Int)) c9])
        | (have c9 : zdrop p c (i : Int) := by have := hP20.2.mp (by omega); rw [hvi] at this; exact this
           refine ih4 _ (by omega) (i + 1) _ _ rfl (by omega) (by omega) ?_
           rw [hvs, hvi, z_or1, zmk_or, zmk_y (P := fun t => zdrop p c (t : Int)) c9])
  refine wp_iconst dX9_degreeDrops_0 (w_istore1 dX9_degreeDrops_1 rfl (by decide) (wp_iconst dX9_degreeDrops_2 (w_istore2 dX9_degreeDrops_3 rfl (by decide) ?_)))
  exact L4 _ 0 _ _ rfl (by omega) rfl rfl
