
theorem zcount_iV {p : Int} {c : Nat → Nat → Int} {hs : List (Int × (Nat → Nat → Int))} {tx : Nat → Int} {L : Nat} {h : zH} (W : zVd p c hs tx L h) (w : Int) : zin (zcount (p, c, hs, tx, L) w) := by
  have hp := W.1.p.2
  have a1 := zgd_le c 0
  have a2 := zgd_le c 1
  have a3 := W.2.2.2.1.2.1
  have a4 := W.2.2.1.1.2.1
  have a5 := ztot_in c
  have a6 := zpairs_in hp (c := c)
  have a7 := W.1.p.1
  unfold zcount
  try dsimp only
  unfold zin
  repeat' split
  all_goals omega
theorem zmixN_c {f g : Nat → Int} {x : Int} : ∀ n, (∀ i, i < n → f i = g i) → zmixN f n x = zmixN g n x := by
  intro n
  induction n with
  | zero => intro _; rfl
  | succ n ih =>
    intro h
    show zmix (zmixN f n x) (f n) = zmix (zmixN g n x) (g n)
    rw [ih (fun i hi => h i (by omega)), h n (by omega)]
theorem zspm_1 {s : zS} {v : Int} (hz : ¬ zsd s.2.1 = 0) : (sp_m s v).1 = v := congrArg Prod.fst (zif_n (a := ((-2 : Int), s)) (b := (v, s)) hz)
def zFW (h h' : zH) : Prop := ∀ a j, a < 445 → h' a j = h a j
/-- behind a question, its answer mixed -/
theorem zdg_q {p : Int} {c : Nat → Nat → Int} {hs : List (Int × (Nat → Nat → Int))} {tx : Nat → Int} {L : Nat} {h h1 h2 h3 : zH} {x v : Int} (V : zVd p c hs tx L h2) (X : zFV h1 h2) (F : zFW h h1) (hx : h1 445 40 = x) (e : h3 = zup h2 445 40 (zmix (h2 445 40) v)) : zVd p c hs tx L h3 ∧ zFW h h3 ∧ h3 445 40 = zmix x v ∧ (zKn p c h2 → zKn p c h3) := by
  subst e
  refine ⟨zVd_fr V (fun a j ha => zup_o (by unfold zVFm zKnF zKoF at ha; omega)), fun a j ha => ?_, ?_, fun k => zKn_fr k (fun a j ha => zup_o (by unfold zKnF at ha; omega))⟩
  · rw [zup_o (by omega), X a j (by omega), F a j ha]
  · rw [zup_s, X _ _ (Or.inr ⟨rfl, rfl⟩), hx]
theorem zdg_p {p : Int} {c : Nat → Nat → Int} {hs : List (Int × (Nat → Nat → Int))} {tx : Nat → Int} {L : Nat} {h h1 h3 : zH} (V : zVd p c hs tx L h1) (F : zFW h h1) (K : zKn p c h1) (e : zFr (fun a j => a = 445 ∧ j = 40) h1 h3) : zVd p c hs tx L h3 ∧ zFW h h3 ∧ zKn p c h3 :=
  ⟨zVd_fr V (fun a j ha => e a j (by unfold zVFm zKnF zKoF at ha; omega)), fun a j ha => (e a j (by omega)).trans (F a j ha), zKn_fr K (fun a j ha => e a j (by unfold zKnF at ha; omega))⟩
theorem zelm_1 {p : Int} {c : Nat → Nat → Int} {hs : List (Int × (Nat → Nat → Int))} {tx : Nat → Int} {L : Nat} (hz : ¬ zsd c = 0) {b : Int} {e : Nat} (he : e < 49) : zform p c b e = (sp_eliminant (p, c, hs, tx, L) b (e : Int)).1 := by
  unfold sp_eliminant
  rw [zif_y (by omega)]
  exact (zspm_1 (s := (p, c, hs, tx, L)) hz).symm
theorem zcfm_1 {p : Int} {c : Nat → Nat → Int} {hs : List (Int × (Nat → Nat → Int))} {tx : Nat → Int} {L : Nat} (hz : ¬ zsd c = 0) {t : Nat} (ht : (t : Int) < p) : zcfv p c (t : Int) = (sp_confirmed (p, c, hs, tx, L) (t : Int)).1 := by
  unfold sp_confirmed sp_mt
  rw [zif_y (by dsimp only; omega), zif_n hz]
theorem zcfv_in {p : Int} {c : Nat → Nat → Int} {t : Int} : zin (zcfv p c t) := by
  unfold zcfv zif
  split <;> exact ⟨by decide, by decide⟩

noncomputable def zdgm (s : zS) : Int := zmix (zmix (zmix (zmix (zmix (zmix (zmix (zdg1 s) (sp_rank s).1) (sp_pivotPoint s).1) (sp_selected s 1).1) (sp_selected s 0).1) (sp_rankDrops s).1) (sp_condition s).1) (sp_extraneous s).1
theorem zdg4_m {p : Int} {c : Nat → Nat → Int} {hs : List (Int × (Nat → Nat → Int))} {tx : Nat → Int} {L : Nat} (hz : ¬ zsd c = 0) : zmixN (fun t => zcfv p c (t : Int)) p.toNat (zmixN (zform p c 1) 49 (zmix (zmixN (zform p c 0) 49 (zmix (zdgm (p, c, hs, tx, L)) (ztop (zform p c 0) 49 : Int))) (ztop (zform p c 1) 49 : Int))) = zdg4 (p, c, hs, tx, L) := by
  unfold zdg4 zdg3 zdg2
  rw [zmixN_c 49 (fun i hi => zelm_1 (hs := hs) (tx := tx) (L := L) (p := p) (b := 1) hz hi), zmixN_c 49 (fun i hi => zelm_1 (hs := hs) (tx := tx) (L := L) (p := p) (b := 0) hz hi), zmixN_c p.toNat (fun i hi => zcfm_1 (hs := hs) (tx := tx) (L := L) hz (by omega))]
  rw [show (sp_eliminantDegree (p, c, hs, tx, L) 0).1 = (ztop (zform p c 0) 49 : Int) from zspm_1 (s := (p, c, hs, tx, L)) hz, show (sp_eliminantDegree (p, c, hs, tx, L) 1).1 = (ztop (zform p c 1) 49 : Int) from zspm_1 (s := (p, c, hs, tx, L)) hz]
  rfl

set_option maxRecDepth 100000 in
set_option maxHeartbeats 4000000 in
theorem t_X10_rankDrops2 {h : zH} {p : Int} {c : Nat → Nat → Int} {hs : List (Int × (Nat → Nat → Int))} {tx : Nat → Int} {L : Nat} (H : zVd p c hs tx L h) (hz0 : zsd c ≠ 0) : CI yX10_rankDrops mX10_rankDrops [vR 445] h (fun r h' => r = (zmk (fun t => zrk p c t < zgP p c) p.toNat : Int) ∧ zVd p c hs tx L h' ∧ zFV h h' ∧ zKn p c h') := by
  refine inV [some (vR 445), none, none] mvX10_rankDrops rfl (Nat.le_of_ble_eq_true rfl) rfl ?_
  obtain ⟨hs1, hR, hH, hT, hK, hO⟩ := id H
  have hp := hs1.p
  have hp0 : h 446 0 = p := hR.1
  have hpp : 0 < p := by omega
  have L14 : ∀ (zm14 : Nat) (t : Nat) (h' : zH) (vs : Int), p.toNat - t = zm14 → ((t : Int) ≤ p) → (vs = (zmk (fun t => zrk p c t < zgP p c) t : Int)) → (zsd c ≠ 0) → (zKn p c h') → (zVd p c hs tx L h') → (zFV h h') → WP mX10_rankDrops (zMQ mX10_rankDrops (zKI (fun r h' => r = (zmk (fun t => zrk p c t < zgP p c) p.toNat : Int) ∧ zVd p c hs tx L h' ∧ zFV h h' ∧ zKn p c h'))) 14 [some (vR 445), some (vI vs), some (vI (t : Int))] [] zN zGR h' := by
    intro zm14
    induction zm14 using Nat.strongRecOn with | _ zm14 ih14 => ?_
    intro t h' vs hzm14 ht hvs hz hk hV hX
    subst hzm14
    have hmb := zmk_b8 (P := fun t => zrk p c t < zgP p c) (i := t) (by omega)
    obtain ⟨-, -, a5, ⟨b1, -⟩, -⟩ := id hk
    refine w_iload2 dX10_rankDrops_14 (w_aload0 dX10_rankDrops_15 ?_)
    apply v_i0 (M := mX10_rankDrops) dX10_rankDrops_16 lk_RX10_76 mvX10_p (by decide) meX10_rankDrops is_445 (Nat.le_of_ble_eq_true rfl)
    · exact t_X10_p hV.2.1.1
    intro x16 h16 hP16
    obtain ⟨eh16, ex16⟩ := hP16
    replace eh16 := eh16.symm
    subst eh16
    replace ex16 := ex16.symm
    subst ex16
    refine wp_icmp_ge 51 dX10_rankDrops_19 rfl ⟨by omega, by omega⟩ ⟨by omega, by omega⟩ (fun c19 => ?_) (fun c19 => ?_)
    · skip
      refine w_iload1 dX10_rankDrops_51 ?_
      refine r_i dX10_rankDrops_52 rfl meX10_rankDrops ?_
      rw [show t = p.toNat by omega] at hvs
      exact ⟨hvs, hV, hX, hk⟩
    · skip
      refine w_iload1 dX10_rankDrops_22 (w_aload0 dX10_rankDrops_23 (wp_getr 455 dX10_rankDrops_24 fl_RX10_37 is_445 rfl (w_iload2 dX10_rankDrops_27 (x_iald t dX10_rankDrops_28 is_455 rfl (by omega) ?_))))
      rw [a5 t (by omega)]
      have hrk := zrk_le (p := p) (c := c) (t := t)
      have hs8 := zsd_le c
      have hgp : zgP p c ≤ zsd c := zgt_le (p := p) (c := c) p.toNat
      refine w_aload0 dX10_rankDrops_29 (wp_geti dX10_rankDrops_30 fl_RX10_204 is_445 ?_)
      refine wp_icmp_ge 42 dX10_rankDrops_33 rfl ⟨by omega, by omega⟩ ⟨by omega, by omega⟩ (fun c33 => ?_) (fun c33 => ?_)
      · skip
        refine wp_iconst dX10_rankDrops_42 (wp_ior dX10_rankDrops_43 (by omega) (by first | exact z_1s t (by omega) | exact ⟨by decide, by decide⟩) (w_istore1 dX10_rankDrops_44 rfl (by decide) (w_iinc2 dX10_rankDrops_45 rfl (by decide) (wp_goto 14 dX10_rankDrops_48 rfl ?_))))
        first
        | (have c9 : zrk p c t < zgP p c := by omega
           refine ih14 _ (by omega) (t + 1) _ _ rfl (by omega) ?_ hz hk hV hX
           rw [hvs, z_or1, zmk_or, zmk_y (P := fun t => zrk p c t < zgP p c) c9])
        | (have c9 : ¬ zrk p c t < zgP p c := by omega
           refine ih14 _ (by omega) (t + 1) _ _ rfl (by omega) ?_ hz hk hV hX
           rw [hvs, z_or0, zmk_n (P := fun t => zrk p c t < zgP p c) c9])
      · skip
        refine wp_iconst dX10_rankDrops_36 (w_iload2 dX10_rankDrops_37 (wp_ishl dX10_rankDrops_38 (by omega) (wp_goto 43 dX10_rankDrops_39 rfl (wp_ior dX10_rankDrops_43 (by omega) (by first | exact z_1s t (by omega) | exact ⟨by decide, by decide⟩) (w_istore1 dX10_rankDrops_44 rfl (by decide) (w_iinc2 dX10_rankDrops_45 rfl (by decide) (wp_goto 14 dX10_rankDrops_48 rfl ?_)))))))
        first
        | (have c9 : zrk p c t < zgP p c := by omega
           refine ih14 _ (by omega) (t + 1) _ _ rfl (by omega) ?_ hz hk hV hX
           rw [hvs, z_or1, zmk_or, zmk_y (P := fun t => zrk p c t < zgP p c) c9])
        | (have c9 : ¬ zrk p c t < zgP p c := by omega
           refine ih14 _ (by omega) (t + 1) _ _ rfl (by omega) ?_ hz hk hV hX
           rw [hvs, z_or0, zmk_n (P := fun t => zrk p c t < zgP p c) c9])
  refine w_aload0 dX10_rankDrops_0 ?_
  apply v_i0 (M := mX10_rankDrops) dX10_rankDrops_1 lk_RX10_277 mvX10_has (by decide) meX10_rankDrops is_445 (Nat.le_of_ble_eq_true rfl)
  · exact t_X10_has H
  intro x1 h1 hP1
  obtain ⟨Vn, Xn, bn1, bn2, bn3⟩ := hP1
  obtain ⟨sn, Rn, Hn, Tn, Kn, On⟩ := id Vn
  refine wp_if_ne 10 dX10_rankDrops_4 rfl ⟨by omega, by omega⟩ (fun c4 => ?_) (fun c4 => ?_)
  · skip
    refine wp_iconst dX10_rankDrops_10 (w_istore1 dX10_rankDrops_11 rfl (by decide) (wp_iconst dX10_rankDrops_12 (w_istore2 dX10_rankDrops_13 rfl (by decide) ?_)))
    exact L14 _ 0 _ _ rfl (by omega) rfl (by omega) (bn3 (by omega)) Vn Xn
  · skip
    refine wp_bipush dX10_rankDrops_7 (by decide) ?_
    refine r_i dX10_rankDrops_9 rfl meX10_rankDrops ?_
    exact absurd (show zsd c = 0 by omega) hz0
set_option maxRecDepth 100000 in
set_option maxHeartbeats 4000000 in
theorem t_X10_digest {h : zH} {p : Int} {c : Nat → Nat → Int} {hs : List (Int × (Nat → Nat → Int))} {tx : Nat → Int} {L : Nat} (H : zVd p c hs tx L h) : CL yX10_digest mX10_digest [vR 445] h (fun r h' => r = (sp_digest (p, c, hs, tx, L)).1 ∧ zVd p c hs tx L h' ∧ zFW h h') := by
  refine inV [some (vR 445), none] mvX10_digest rfl (Nat.le_of_ble_eq_true rfl) rfl ?_
  obtain ⟨hs1, hR, hH, hT, hK, hO⟩ := id H
  have hp := hs1.p
  have hp0 : h 446 0 = p := hR.1
  have hpp : 0 < p := by omega
  have hV := H
  have hs8 := zsd_le c
  have L160 : ∀ (h' : zH), (zVd p c hs tx L h') → (zFW h h') → (h' 445 40 = (sp_digest (p, c, hs, tx, L)).1) → WP mX10_digest (zMQ mX10_digest (zKL (fun r h' => r = (sp_digest (p, c, hs, tx, L)).1 ∧ zVd p c hs tx L h' ∧ zFW h h'))) 160 [some (vR 445), none] [] zN zGR h' := by
    intro h' hV hF hx
    refine w_aload0 dX10_digest_160 (wp_getl dX10_digest_161 fl_RX10_308 is_445 ?_)
    refine r_l dX10_digest_164 rfl meX10_digest ?_
    exact ⟨hx, hV, hF⟩
  have L137 : ∀ (zm137 : Nat) (i : Nat) (h' : zH), p.toNat - i = zm137 → ((i : Int) ≤ p) → (¬ zsd c = 0) → (zVd p c hs tx L h') → (zFW h h') → (zKn p c h') → (h' 445 40 = zmixN (fun t => zcfv p c (t : Int)) i (zmixN (zform p c 1) 49 (zmix (zmixN (zform p c 0) 49 (zmix (zdgm (p, c, hs, tx, L)) (ztop (zform p c 0) 49 : Int))) (ztop (zform p c 1) 49 : Int)))) → WP mX10_digest (zMQ mX10_digest (zKL (fun r h' => r = (sp_digest (p, c, hs, tx, L)).1 ∧ zVd p c hs tx L h' ∧ zFW h h'))) 137 [some (vR 445), some (vI (i : Int))] [] zN zGR h' := by
    intro zm137
    induction zm137 using Nat.strongRecOn with | _ zm137 ih137 => ?_
    intro i h' hzm137 hi hsd hV hF hk hx
    subst hzm137
    refine w_iload1 dX10_digest_137 (w_aload0 dX10_digest_138 ?_)
    apply v_i0 (M := mX10_digest) dX10_digest_139 lk_RX10_76 mvX10_p (by decide) meX10_digest is_445 (Nat.le_of_ble_eq_true rfl)
    · exact t_X10_p hV.2.1.1
    intro x139 h139 hP139
    obtain ⟨eh139, ex139⟩ := hP139
    replace eh139 := eh139.symm
    subst eh139
    replace ex139 := ex139.symm
    subst ex139
    refine wp_icmp_ge 160 dX10_digest_142 rfl ⟨by omega, by omega⟩ ⟨by omega, by omega⟩ (fun c142 => ?_) (fun c142 => ?_)
    · skip
      refine w_forget1 ?_
      refine L160 _ hV hF ?_
      rw [hx, show i = p.toNat by omega, show (sp_digest (p, c, hs, tx, L)).1 = zdg4 (p, c, hs, tx, L) from congrArg Prod.fst (zif_n hsd)]
      exact zdg4_m hsd
    · skip
      refine w_aload0 dX10_digest_145 (w_aload0 dX10_digest_146 (w_iload1 dX10_digest_147 ?_))
      apply v_i1 (M := mX10_digest) dX10_digest_148 lk_RX10_303 mvX10_isConfirmed (by decide) meX10_digest is_445 (Nat.le_of_ble_eq_true rfl)
      · exact t_X10_isConfirmed hV hsd (by omega) hk
      intro x148 h148 hP148
      obtain ⟨V148, X148, K148, er148⟩ := hP148
      subst er148
      apply v_v1 (M := mX10_digest) dX10_digest_151 lk_RX10_312 mvX10_mixes (by decide) meX10_digest is_445 (Nat.le_of_ble_eq_true rfl)
      · exact t_X10_mixes zcfv_in
      intro h151 hP151
      obtain ⟨V151, F151, x151, k151⟩ := zdg_q V148 X148 hF hx hP151
      replace k151 := k151 K148
      refine w_iinc1 dX10_digest_154 rfl (by decide) (wp_goto 137 dX10_digest_157 rfl ?_)
      refine ih137 _ (by omega) (i + 1) _ rfl (by omega) hsd V151 F151 k151 ?_
      rw [x151]
      rfl
  have L114 : ∀ (h' : zH) (v : Int), (¬ zsd c = 0) → (v = if zgw p c p.toNat < zgP p c then 1 else 0) → (v = 0 ∨ v = 1) → (zVd p c hs tx L h') → (zFW h h') → (zKn p c h') → (h' 445 40 = zmix (zmix (zmix (zmix (zmix (zdg1 (p, c, hs, tx, L)) (sp_rank (p, c, hs, tx, L)).1) (sp_pivotPoint (p, c, hs, tx, L)).1) (sp_selected (p, c, hs, tx, L) 1).1) (sp_selected (p, c, hs, tx, L) 0).1) (sp_rankDrops (p, c, hs, tx, L)).1) → WP mX10_digest (zMQ mX10_digest (zKL (fun r h' => r = (sp_digest (p, c, hs, tx, L)).1 ∧ zVd p c hs tx L h' ∧ zFW h h'))) 114 [some (vR 445), none] [vI v, vR 445] zN zGR h' := by
    intro h' v hsd hv hv1 hV hF hk hx
    apply v_v1 (M := mX10_digest) dX10_digest_114 lk_RX10_312 mvX10_mixes (by decide) meX10_digest is_445 (Nat.le_of_ble_eq_true rfl)
    · exact t_X10_mixes ⟨by omega, by omega⟩
    intro h114 hP114
    obtain ⟨V114, F114, x114, k114⟩ := zdg_q hV zFV_r hF hx hP114
    replace k114 := k114 hk
    refine w_aload0 dX10_digest_117 (w_aload0 dX10_digest_118 (wp_geti dX10_digest_119 fl_RX10_238 is_445 ?_))
    apply v_v1 (M := mX10_digest) dX10_digest_122 lk_RX10_312 mvX10_mixes (by decide) meX10_digest is_445 (Nat.le_of_ble_eq_true rfl)
    · exact t_X10_mixes (by rw [k114.2.2.2.2.2.2]; exact zmk_zin (by omega))
    intro h122 hP122
    obtain ⟨V122, F122, x122, k122⟩ := zdg_q V114 zFV_r F114 x114 hP122
    replace k122 := k122 k114
    refine w_aload0 dX10_digest_125 (wp_iconst dX10_digest_126 ?_)
    apply v_v1 (M := mX10_digest) dX10_digest_127 lk_RX10_331 mvX10_mixesPoly (by decide) meX10_digest is_445 (Nat.le_of_ble_eq_true rfl)
    · exact t_X10_mixesPoly (p := p) (f := zform p c 0) (Or.inl rfl) (by omega) x122 (fun e _ => zform_in (by omega) e) (fun _ e he => (k122.2.2.2.2.1 e he).trans (by rw [show zform p c 0 = zWp p c from if_pos rfl])) (fun q => absurd rfl q)
    intro h127 hP127
    obtain ⟨f127, x127⟩ := hP127
    obtain ⟨V127, F127, k127⟩ := zdg_p V122 F122 k122 f127
    refine w_aload0 dX10_digest_130 (wp_iconst dX10_digest_131 ?_)
    apply v_v1 (M := mX10_digest) dX10_digest_132 lk_RX10_331 mvX10_mixesPoly (by decide) meX10_digest is_445 (Nat.le_of_ble_eq_true rfl)
    · exact t_X10_mixesPoly (p := p) (f := zform p c 1) (Or.inr rfl) (by omega) x127 (fun e _ => zform_in (by omega) e) (fun q => absurd q (by decide)) (fun _ e he => k127.2.2.2.2.2.1 e he)
    intro h132 hP132
    obtain ⟨f132, x132⟩ := hP132
    obtain ⟨V132, F132, k132⟩ := zdg_p V127 F127 k127 f132
    refine wp_iconst dX10_digest_135 (w_istore1 dX10_digest_136 rfl (by decide) ?_)
    refine L137 _ 0 _ rfl (by omega) hsd V132 F132 k132 ?_
    rw [x132, k114.2.2.2.2.2.2, hv]
    unfold zdgm
    rw [show (sp_condition (p, c, hs, tx, L)).1 = (if zgw p c p.toNat < zgP p c then 1 else 0) from zspm_1 (s := (p, c, hs, tx, L)) hsd, show (sp_extraneous (p, c, hs, tx, L)).1 = (zmk (zxt p c (zWp p c)) p.toNat : Int) from zspm_1 (s := (p, c, hs, tx, L)) hsd]
    rfl
  have L9 : ∀ (zm9 : Nat) (i : Nat) (vi : Int) (h' : zH), 7 - i = zm9 → (i ≤ 7) → (vi = (i : Int)) → (zVd p c hs tx L h') → (zFW h h') → (h' 445 40 = zmixN (fun w => zcount (p, c, hs, tx, L) (w : Int)) i 18404) → WP mX10_digest (zMQ mX10_digest (zKL (fun r h' => r = (sp_digest (p, c, hs, tx, L)).1 ∧ zVd p c hs tx L h' ∧ zFW h h'))) 9 [some (vR 445), some (vI vi)] [] zN zGR h' := by
    intro zm9
    induction zm9 using Nat.strongRecOn with | _ zm9 ih9 => ?_
    intro i vi h' hzm9 hi hvi hV hF hx
    subst hzm9
    have hzi : zin vi := ⟨by omega, by omega⟩
    refine w_iload1 dX10_digest_9 (wp_bipush dX10_digest_10 (by decide) ?_)
    refine wp_icmp_ge 30 dX10_digest_12 rfl ⟨by omega, by omega⟩ ⟨by omega, by omega⟩ (fun c12 => ?_) (fun c12 => ?_)
    · skip
      refine w_aload0 dX10_digest_30 (w_aload0 dX10_digest_31 ?_)
      skip
      apply v_i0 (M := mX10_digest) dX10_digest_32 lk_RX10_320 mvX10_degreeDrops (by decide) meX10_digest is_445 (Nat.le_of_ble_eq_true rfl)
      · exact t_X10_degreeDrops hV
      intro x32 h32 hP32
      obtain ⟨er32, V32, X32⟩ := hP32
      subst er32
      replace V32 : zVd p c hs tx L h32 := V32
      apply v_v1 (M := mX10_digest) dX10_digest_35 lk_RX10_312 mvX10_mixes (by decide) meX10_digest is_445 (Nat.le_of_ble_eq_true rfl)
      · exact t_X10_mixes (zdrops_in hs1)
      intro h35 hP35
      obtain ⟨V35, F35, x35, -⟩ := zdg_q V32 X32 hF hx hP35
      refine w_aload0 dX10_digest_38 (w_aload0 dX10_digest_39 ?_)
      apply v_i0 (M := mX10_digest) dX10_digest_40 lk_RX10_323 mvX10_solvable (by decide) meX10_digest is_445 (Nat.le_of_ble_eq_true rfl)
      · exact t_X10_solvable V35
      intro x40 h40 hP40
      obtain ⟨er40, V40, X40⟩ := hP40
      subst er40
      replace V40 : zVd p c hs tx L h40 := V40
      apply v_v1 (M := mX10_digest) dX10_digest_43 lk_RX10_312 mvX10_mixes (by decide) meX10_digest is_445 (Nat.le_of_ble_eq_true rfl)
      · exact t_X10_mixes (zsolv_in hs1)
      intro h43 hP43
      obtain ⟨V43, F43, x43, -⟩ := zdg_q V40 X40 F35 x35 hP43
      refine w_aload0 dX10_digest_46 (w_aload0 dX10_digest_47 ?_)
      apply v_i0 (M := mX10_digest) dX10_digest_48 lk_RX10_325 mvX10_size (by decide) meX10_digest is_445 (Nat.le_of_ble_eq_true rfl)
      · exact t_X10_size V43
      intro x48 h48 hP48
      obtain ⟨er48, V48, X48⟩ := hP48
      subst er48
      rw [sp_size_2] at V48
      replace V48 : zVd p c hs tx L h48 := V48
      apply v_v1 (M := mX10_digest) dX10_digest_51 lk_RX10_312 mvX10_mixes (by decide) meX10_digest is_445 (Nat.le_of_ble_eq_true rfl)
      · exact t_X10_mixes zsize_in
      intro h51 hP51
      obtain ⟨V51, F51, x51, -⟩ := zdg_q V48 X48 F43 x43 hP51
      refine w_aload0 dX10_digest_54 ?_
      apply v_i0 (M := mX10_digest) dX10_digest_55 lk_RX10_277 mvX10_has (by decide) meX10_digest is_445 (Nat.le_of_ble_eq_true rfl)
      · exact t_X10_has V51
      intro x55 h55 hP55
      obtain ⟨V55, X55, bn1, bn2, bn3⟩ := hP55
      have F55 : zFW h h55 := fun a j ha => (X55 a j (by omega)).trans (F51 a j ha)
      have x55 := (X55 445 40 (Or.inr ⟨rfl, rfl⟩)).trans x51
      refine wp_if_eq 160 dX10_digest_58 rfl ⟨by omega, by omega⟩ (fun c58 => ?_) (fun c58 => ?_)
      · skip
        refine w_forget1 ?_
        have hsd : zsd c = 0 := by omega
        refine L160 _ V55 F55 ?_
        rw [x55, show (sp_digest (p, c, hs, tx, L)).1 = zdg1 (p, c, hs, tx, L) from congrArg Prod.fst (zif_y hsd), show i = 7 by omega]
        rfl
      · skip
        have hk : zKn p c h55 := bn3 (by omega)
        have b1 := hk.2.2.2.1.1
        refine w_aload0 dX10_digest_61 (w_aload0 dX10_digest_62 (wp_geti dX10_digest_63 fl_RX10_204 is_445 ?_))
        apply v_v1 (M := mX10_digest) dX10_digest_66 lk_RX10_312 mvX10_mixes (by decide) meX10_digest is_445 (Nat.le_of_ble_eq_true rfl)
        · exact t_X10_mixes (by rw [b1]; have := zgt_le (p := p) (c := c) p.toNat; unfold zgP; exact ⟨by omega, by omega⟩)
        intro h66 hP66
        obtain ⟨V66, F66, x66, k66⟩ := zdg_q V55 zFV_r F55 x55 hP66
        replace k66 := k66 hk
        refine w_aload0 dX10_digest_69 (w_aload0 dX10_digest_70 (wp_geti dX10_digest_71 fl_RX10_217 is_445 ?_))
        apply v_v1 (M := mX10_digest) dX10_digest_74 lk_RX10_312 mvX10_mixes (by decide) meX10_digest is_445 (Nat.le_of_ble_eq_true rfl)
        · exact t_X10_mixes (by rw [k66.2.2.2.1.2.1]; have := zpv_lt (p := p) (c := c) p.toNat (by omega); unfold zpP; exact ⟨by omega, by omega⟩)
        intro h74 hP74
        obtain ⟨V74, F74, x74, k74⟩ := zdg_q V66 zFV_r F66 x66 hP74
        replace k74 := k74 k66
        refine w_aload0 dX10_digest_77 (w_aload0 dX10_digest_78 (wp_geti dX10_digest_79 fl_RX10_223 is_445 ?_))
        apply v_v1 (M := mX10_digest) dX10_digest_82 lk_RX10_312 mvX10_mixes (by decide) meX10_digest is_445 (Nat.le_of_ble_eq_true rfl)
        · exact t_X10_mixes (by rw [k74.2.2.2.1.2.2.1]; exact zmk_zin (by omega))
        intro h82 hP82
        obtain ⟨V82, F82, x82, k82⟩ := zdg_q V74 zFV_r F74 x74 hP82
        replace k82 := k82 k74
        refine w_aload0 dX10_digest_85 (w_aload0 dX10_digest_86 (wp_geti dX10_digest_87 fl_RX10_226 is_445 ?_))
        apply v_v1 (M := mX10_digest) dX10_digest_90 lk_RX10_312 mvX10_mixes (by decide) meX10_digest is_445 (Nat.le_of_ble_eq_true rfl)
        · exact t_X10_mixes (by rw [k82.2.2.2.1.2.2.2.1]; exact zmk_zin (by omega))
        intro h90 hP90
        obtain ⟨V90, F90, x90, k90⟩ := zdg_q V82 zFV_r F82 x82 hP90
        replace k90 := k90 k82
        refine w_aload0 dX10_digest_93 (w_aload0 dX10_digest_94 ?_)
        apply v_i0 (M := mX10_digest) dX10_digest_95 lk_RX10_328 mvX10_rankDrops (by decide) meX10_digest is_445 (Nat.le_of_ble_eq_true rfl)
        · exact t_X10_rankDrops2 V90 (by omega)
        intro x95 h95 hP95
        obtain ⟨er95, V95, X95, K95⟩ := hP95
        subst er95
        apply v_v1 (M := mX10_digest) dX10_digest_98 lk_RX10_312 mvX10_mixes (by decide) meX10_digest is_445 (Nat.le_of_ble_eq_true rfl)
        · exact t_X10_mixes (zmk_zin (by omega))
        intro h98 hP98
        obtain ⟨V98, F98, x98, k98⟩ := zdg_q V95 X95 F90 x90 hP98
        replace k98 := k98 K95
        have e22 := k98.2.2.2.1.2.2.2.2
        have e22' : h98 445 22 = 0 ∨ h98 445 22 = 1 := by rw [e22]; split <;> omega
        refine w_aload0 dX10_digest_101 (w_aload0 dX10_digest_102 (wp_getz dX10_digest_103 fl_RX10_220 is_445 ?_))
        refine wp_if_eq 113 dX10_digest_106 rfl ⟨by omega, by omega⟩ (fun c106 => ?_) (fun c106 => ?_)
        · skip
          refine wp_iconst dX10_digest_113 ?_
          refine w_forget1 ?_
          have hsd : ¬ zsd c = 0 := by omega
          refine L114 _ _ hsd (by rw [← e22]; omega) (by omega) V98 F98 k98 ?_
          rw [x98, show (sp_rankDrops (p, c, hs, tx, L)).1 = (zmk (fun t => zrk p c t < zgP p c) p.toNat : Int) from zspm_1 (s := (p, c, hs, tx, L)) hsd]
          rw [show (sp_selected (p, c, hs, tx, L) 0).1 = (zselC p c : Int) from zspm_1 (s := (p, c, hs, tx, L)) hsd, show (sp_selected (p, c, hs, tx, L) 1).1 = (zselR p c : Int) from zspm_1 (s := (p, c, hs, tx, L)) hsd, show (sp_pivotPoint (p, c, hs, tx, L)).1 = (zpP p c : Int) from zspm_1 (s := (p, c, hs, tx, L)) hsd, show (sp_rank (p, c, hs, tx, L)).1 = (zgP p c : Int) from zspm_1 (s := (p, c, hs, tx, L)) hsd]
          rw [← b1, ← k66.2.2.2.1.2.1, ← k74.2.2.2.1.2.2.1, ← k82.2.2.2.1.2.2.2.1, show i = 7 by omega]
          try rfl
        · skip
          refine wp_iconst dX10_digest_109 (wp_goto 114 dX10_digest_110 rfl ?_)
          refine w_forget1 ?_
          have hsd : ¬ zsd c = 0 := by omega
          refine L114 _ _ hsd (by rw [← e22]; omega) (by omega) V98 F98 k98 ?_
          rw [x98, show (sp_rankDrops (p, c, hs, tx, L)).1 = (zmk (fun t => zrk p c t < zgP p c) p.toNat : Int) from zspm_1 (s := (p, c, hs, tx, L)) hsd]
          rw [show (sp_selected (p, c, hs, tx, L) 0).1 = (zselC p c : Int) from zspm_1 (s := (p, c, hs, tx, L)) hsd, show (sp_selected (p, c, hs, tx, L) 1).1 = (zselR p c : Int) from zspm_1 (s := (p, c, hs, tx, L)) hsd, show (sp_pivotPoint (p, c, hs, tx, L)).1 = (zpP p c : Int) from zspm_1 (s := (p, c, hs, tx, L)) hsd, show (sp_rank (p, c, hs, tx, L)).1 = (zgP p c : Int) from zspm_1 (s := (p, c, hs, tx, L)) hsd]
          rw [← b1, ← k66.2.2.2.1.2.1, ← k74.2.2.2.1.2.2.1, ← k82.2.2.2.1.2.2.2.1, show i = 7 by omega]
          try rfl
    · skip
      refine w_aload0 dX10_digest_15 (w_aload0 dX10_digest_16 (w_iload1 dX10_digest_17 ?_))
      apply v_i1 (M := mX10_digest) dX10_digest_18 lk_RX10_317 mvX10_count (by decide) meX10_digest is_445 (Nat.le_of_ble_eq_true rfl)
      · exact t_X10_count hV hzi
      intro x18 h18 hP18
      obtain ⟨er18, V18, X18⟩ := hP18
      subst er18
      replace V18 : zVd p c hs tx L h18 := V18
      apply v_v1 (M := mX10_digest) dX10_digest_21 lk_RX10_312 mvX10_mixes (by decide) meX10_digest is_445 (Nat.le_of_ble_eq_true rfl)
      · exact t_X10_mixes (zcount_iV hV vi)
      intro h21 hP21
      obtain ⟨V21, F21, x21, -⟩ := zdg_q V18 X18 hF hx hP21
      refine w_iinc1 dX10_digest_24 rfl (by decide) (wp_goto 9 dX10_digest_27 rfl ?_)
      refine ih9 _ (by omega) (i + 1) _ _ rfl (by omega) (by omega) V21 F21 ?_
      rw [x21, hvi]
      rfl
  refine w_aload0 dX10_digest_0 (wp_ldc2 dX10_digest_1 kc_RX10_315 (wp_putl dX10_digest_4 fl_RX10_308 is_445 rfl (wp_iconst dX10_digest_7 (w_istore1 dX10_digest_8 rfl (by decide) ?_))))
  exact L9 _ 0 _ _ rfl (Nat.zero_le _) rfl (zVd_fr H (fun a j ha => zup_o (by unfold zVFm zKnF zKoF at ha; omega))) (fun a j ha => zup_o (by omega)) zup_s
