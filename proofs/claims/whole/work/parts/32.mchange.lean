
def zMt (tx : Nat → Int) (L : Nat) (h : zH) : Prop := h 445 4 = (L : Int) ∧ L ≤ 60 ∧ ∀ j, j < L → h 448 j = tx j ∧ 0 ≤ tx j ∧ tx j < 200
/-- what the model knows of the matrix -/
def zKn (p : Int) (c : Nat → Nat → Int) (h : zH) : Prop := (h 445 9 = (zgd c 0 : Int) ∧ h 445 10 = (zgd c 1 : Int) ∧ h 445 11 = (zsd c : Int)) ∧ (∀ r, r < zsd c → ∀ q, q < zsd c → ∀ e, e < 7 → h 454 ((8 * r + q) * 7 + e) = zEn p c (8 * r + q) e) ∧ (∀ t : Nat, (t : Int) < p → h 455 t = (zrk p c t : Int)) ∧ (h 445 18 = (zgP p c : Int) ∧ h 445 19 = (zpP p c : Int) ∧ h 445 20 = (zselR p c : Int) ∧ h 445 21 = (zselC p c : Int) ∧ h 445 22 = if zgw p c p.toNat < zgP p c then 1 else 0) ∧ (∀ e, e < 49 → h 456 e = zWp p c e) ∧ (∀ e, e < 49 → h 457 e = zform p c 1 e) ∧ h 445 25 = (zmk (zxt p c (zWp p c)) p.toNat : Int)
def zKnF (a j : Nat) : Prop := (a = 445 ∧ (8 ≤ j ∧ j ≤ 11 ∨ 18 ≤ j ∧ j ≤ 22 ∨ j = 25)) ∨ (454 ≤ a ∧ a ≤ 457)
theorem zKn_fr {p : Int} {c : Nat → Nat → Int} {h h' : zH} (H : zKn p c h) (e : ∀ a j, zKnF a j → h' a j = h a j) : zKn p c h' := by
  obtain ⟨⟨a1, a2, a3⟩, a4, a5, ⟨b1, b2, b3, b4, b5⟩, b6, b7, b8⟩ := H
  refine ⟨⟨?_, ?_, ?_⟩, fun r hr q hq i hi => ?_, fun t ht => ?_, ⟨?_, ?_, ?_, ?_, ?_⟩, fun i hi => ?_, fun i hi => ?_, ?_⟩
  · rw [e _ _ (by unfold zKnF; omega)]; exact a1
  · rw [e _ _ (by unfold zKnF; omega)]; exact a2
  · rw [e _ _ (by unfold zKnF; omega)]; exact a3
  · rw [e _ _ (by unfold zKnF; omega)]; exact a4 r hr q hq i hi
  · rw [e _ _ (by unfold zKnF; omega)]; exact a5 t ht
  · rw [e _ _ (by unfold zKnF; omega)]; exact b1
  · rw [e _ _ (by unfold zKnF; omega)]; exact b2
  · rw [e _ _ (by unfold zKnF; omega)]; exact b3
  · rw [e _ _ (by unfold zKnF; omega)]; exact b4
  · rw [e _ _ (by unfold zKnF; omega)]; exact b5
  · rw [e _ _ (by unfold zKnF; omega)]; exact b6 i hi
  · rw [e _ _ (by unfold zKnF; omega)]; exact b7 i hi
  · rw [e _ _ (by unfold zKnF; omega)]; exact b8
def zMk (p : Int) (c : Nat → Nat → Int) (h : zH) : Prop := h 445 8 = 0 ∨ (h 445 8 = 1 ∧ zKn p c h)
theorem zMk_fr {p : Int} {c : Nat → Nat → Int} {h h' : zH} (H : zMk p c h) (e : ∀ a j, zKnF a j → h' a j = h a j) : zMk p c h' := by
  unfold zMk at H ⊢
  rw [e 445 8 (by unfold zKnF; omega)]
  exact H.imp id (fun q => ⟨q.1, zKn_fr q.2 e⟩)
def zKo (p : Int) (c : Nat → Nat → Int) (h : zH) : Prop := h 445 33 = (zmk (fun t => 0 < zcn p c (t : Int)) p.toNat : Int) ∧ h 445 34 = (zpairs p c : Int) ∧ ∀ t : Nat, (t : Int) < p → h 463 t = (zcn p c (t : Int) : Int)
def zMo (p : Int) (c : Nat → Nat → Int) (h : zH) : Prop := h 445 32 = 0 ∨ (h 445 32 = 1 ∧ zKo p c h)
def zKoF (a j : Nat) : Prop := (a = 445 ∧ 32 ≤ j ∧ j ≤ 34) ∨ a = 463
theorem zMo_fr {p : Int} {c : Nat → Nat → Int} {h h' : zH} (H : zMo p c h) (e : ∀ a j, zKoF a j → h' a j = h a j) : zMo p c h' := by
  unfold zMo zKo at H ⊢
  rw [e 445 32 (by unfold zKoF; omega), e 445 33 (by unfold zKoF; omega), e 445 34 (by unfold zKoF; omega)]
  exact H.imp id (fun q => ⟨q.1, q.2.1, q.2.2.1, fun t ht => by rw [e _ _ (by unfold zKoF; omega)]; exact q.2.2.2 t ht⟩)
def zMh (hs : List (Int × (Nat → Nat → Int))) (h : zH) : Prop := zMb hs h ∧ ∀ q, q ∈ hs → zSt q.1 q.2
/-- the model's world -/
def zVd (p : Int) (c : Nat → Nat → Int) (hs : List (Int × (Nat → Nat → Int))) (tx : Nat → Int) (L : Nat) (h : zH) : Prop := zSt p c ∧ zMr p c h ∧ zMh hs h ∧ zMt tx L h ∧ zMk p c h ∧ zMo p c h
abbrev zV (s : zS) (h : zH) : Prop := zVd s.1 s.2.1 s.2.2.1 s.2.2.2.1 s.2.2.2.2 h
theorem zMt_fr {tx : Nat → Int} {L : Nat} {h h' : zH} (H : zMt tx L h) (e : ∀ a j, (a = 445 ∧ j = 4) ∨ a = 448 → h' a j = h a j) : zMt tx L h' := by
  obtain ⟨h1, h2, h3⟩ := H
  exact ⟨by rw [e _ _ (by omega)]; exact h1, h2, fun j hj => by rw [e _ _ (by omega)]; exact h3 j hj⟩
/-- cells of the model that are not for scratch -/
def zVFm (a j : Nat) : Prop := zKnF a j ∨ zKoF a j ∨ (446 ≤ a ∧ a ≤ 448) ∨ (a = 445 ∧ (j = 2 ∨ j = 4))
theorem zVd_fr {p : Int} {c : Nat → Nat → Int} {hs : List (Int × (Nat → Nat → Int))} {tx : Nat → Int} {L : Nat} {h h' : zH} (H : zVd p c hs tx L h) (e : ∀ a j, zVFm a j → h' a j = h a j) : zVd p c hs tx L h' := by
  obtain ⟨h1, h2, h3, h4, h5, h6⟩ := H
  exact ⟨h1, zMr_fr h2 (fun j _ => e _ _ (by unfold zVFm; omega)), ⟨zMb_fr h3.1 (fun a j ha => e _ _ (by unfold zVFm; omega)), h3.2⟩, zMt_fr h4 (fun a j ha => e _ _ (by unfold zVFm; omega)), zMk_fr h5 (fun a j ha => e _ _ (Or.inl ha)), zMo_fr h6 (fun a j ha => e _ _ (Or.inr (Or.inl ha)))⟩
def zFV (h h' : zH) : Prop := ∀ a j, (a < 445 ∨ (a = 445 ∧ j = 40)) → h' a j = h a j
theorem zFV_r {h : zH} : zFV h h := fun _ _ _ => rfl
theorem zFV_t {h h1 h2 : zH} (a : zFV h h1) (b : zFV h1 h2) : zFV h h2 := fun x j hx => (b x j hx).trans (a x j hx)
def zPV (s : Int × zS) (h : zH) (r : Int) (h' : zH) : Prop := r = s.1 ∧ zV s.2 h' ∧ zFV h h'
theorem zPV_i {s : Int × zS} {v r : Int} {t : zS} {h h' : zH} (e : s = (v, t)) (hr : r = v) (hw : zV t h') (hf : zFV h h') : zPV s h r h' := by
  subst e
  exact ⟨hr, hw, hf⟩
theorem zPV_q {p : Int} {c : Nat → Nat → Int} {hs : List (Int × (Nat → Nat → Int))} {tx : Nat → Int} {L : Nat} {h h' : zH} (H : zVd p c hs tx L h') (hX : zFV h h') {s : Int × zS} {v r : Int} (es : s = (v, (p, c, hs, tx, L))) (hr : r = v) : zPV s h r h' := zPV_i es hr H hX
def zFbv (a j : Nat) : Prop := a = 447 ∨ (a = 445 ∧ (j = 2 ∨ j = 8 ∨ j = 32))
def zBV (p : Int) (c : Nat → Nat → Int) (hs : List (Int × (Nat → Nat → Int))) (h h' : zH) : Prop := zFr zFbv h h' ∧ zMb (((p, c) :: hs).take 8) h' ∧ h' 445 8 = 0 ∧ h' 445 32 = 0
theorem zVd_ch {p : Int} {c : Nat → Nat → Int} {hs : List (Int × (Nat → Nat → Int))} {tx : Nat → Int} {L : Nat} {h h1 h' : zH} (H : zVd p c hs tx L h) (B : zBV p c hs h h1) {p' : Int} {c' : Nat → Nat → Int} (hst : zSt p' c') (hpol : zMr p' c' h') (e : ∀ a j, a ≠ 446 → h' a j = h1 a j) : zVd p' c' (((p, c) :: hs).take 8) tx L h' := by
  obtain ⟨h1', h2, h3, h4, h5, h6⟩ := H
  obtain ⟨b1, b2, b3, b4⟩ := B
  refine ⟨hst, hpol, ⟨zMb_fr b2 (fun a j ha => e a j (by omega)), fun q hq => ?_⟩, zMt_fr h4 (fun a j ha => (e a j (by omega)).trans (b1 a j (by unfold zFbv; omega))), Or.inl ((e _ _ (by omega)).trans b3), Or.inl ((e _ _ (by omega)).trans b4)⟩
  rcases List.mem_cons.mp (List.mem_of_mem_take hq) with q1 | q1
  · rw [q1]; exact h1'
  · exact h3.2 q q1
theorem zPV_c {p : Int} {c : Nat → Nat → Int} {hs : List (Int × (Nat → Nat → Int))} {tx : Nat → Int} {L : Nat} {h h1 h' : zH} (H : zVd p c hs tx L h) (B : zBV p c hs h h1) {p' : Int} {c' : Nat → Nat → Int} {s : Int × zS} {v r : Int} (es : s = (v, zch (p, c, hs, tx, L) p' c')) (hr : r = v) (hst : zSt p' c') (hpol : zMr p' c' h') (e : ∀ a j, a ≠ 446 → h' a j = h1 a j) : zPV s h r h' :=
  zPV_i es hr (zVd_ch H B hst hpol e) (fun a j ha => (e a j (by omega)).trans (B.1 a j (by unfold zFbv; omega)))
theorem zMr_bv {p : Int} {c : Nat → Nat → Int} {hs : List (Int × (Nat → Nat → Int))} {h h1 : zH} (B : zBV p c hs h h1) {q : Int} {d : Nat → Nat → Int} (H : zMr q d h) : zMr q d h1 := zMr_fr H (fun j _ => B.1 _ _ (by unfold zFbv; omega))
theorem zpr_a {x : Int} (h : zPr x) : (5 ≤ x ∧ x ≤ 31) ∧ ∀ d : Int, 2 ≤ d → d < x → x % d ≠ 0 := by
  have q : ∀ x, x < 32 → (x = 5 ∨ x = 7 ∨ x = 11 ∨ x = 13 ∨ x = 17 ∨ x = 19 ∨ x = 23 ∨ x = 29 ∨ x = 31) → ∀ d, d < x → 2 ≤ d → x % d ≠ 0 := by decide +kernel
  refine ⟨by unfold zPr at h; omega, fun d h1 h2 e => ?_⟩
  have h3 : x.toNat < 32 := by unfold zPr at h; omega
  refine q x.toNat h3 (by unfold zPr at h; omega) d.toNat (by omega) (by omega) ?_
  have e1 : x = (x.toNat : Int) := by unfold zPr at h; omega
  have e2 : d = (d.toNat : Int) := by omega
  rw [e1, e2] at e
  omega
theorem zpr_b {x : Int} (h : 5 ≤ x ∧ x ≤ 31) (hd : ∀ d : Nat, 2 ≤ d → (d : Int) < x → x % (d : Int) ≠ 0) : zPr x := by
  have q : ∀ x, x < 32 → 5 ≤ x → (x = 5 ∨ x = 7 ∨ x = 11 ∨ x = 13 ∨ x = 17 ∨ x = 19 ∨ x = 23 ∨ x = 29 ∨ x = 31) ∨ x % 2 = 0 ∨ x % 3 = 0 ∨ (x % 5 = 0 ∧ 5 < x) := by decide +kernel
  have h2 := hd 2 (by decide) (by omega)
  have h3 := hd 3 (by decide) (by omega)
  rcases q x.toNat (by omega) (by omega) with h1 | h1 | h1 | h1
  · unfold zPr
    omega
  · exfalso; omega
  · exfalso; omega
  · have h5 := hd 5 (by decide) (by omega)
    exfalso; omega

set_option maxRecDepth 100000 in
set_option maxHeartbeats 4000000 in
theorem t_X10_begins {h : zH} {p : Int} {c : Nat → Nat → Int} {hs : List (Int × (Nat → Nat → Int))} {tx : Nat → Int} {L : Nat} (H : zVd p c hs tx L h) : CV yX10_begins mX10_begins [vR 445] h (fun h' => zBV p c hs h h') := by
  refine inV [some (vR 445), none] mvX10_begins rfl (Nat.le_of_ble_eq_true rfl) rfl ?_
  obtain ⟨hs1, hR, hH, hT, hK, hO⟩ := id H
  have hp := hs1.p
  have hp0 : h 446 0 = p := hR.1
  have hpp : 0 < p := by omega
  obtain ⟨m1, m2, m3⟩ := id hH.1
  have L49 : ∀ (h1 : zH), (zMb (hs.take 7) h1) → (∀ a j, ¬ (a = 447 ∨ (a = 445 ∧ j = 2)) → h1 a j = h a j) → WP mX10_begins (zMQ mX10_begins (zKV (fun h' => zBV p c hs h h'))) 49 [some (vR 445), none] [] zN zGR h1 := by
    intro h1 hm hF
    obtain ⟨m, hme⟩ : ∃ m, m = (hs.take 7).length := ⟨_, rfl⟩
    have hm7 : m ≤ 7 := by rw [hme, List.length_take]; omega
    obtain ⟨n1, n2, n3⟩ := id hm
    have L51 : ∀ (zm51 : Nat) (i : Nat) (h' : zH), 82 - i = zm51 → (i ≤ 82) → (h' = fun b j => if b = 447 ∧ 82 * m ≤ j ∧ j < 82 * m + i then h1 446 (j - 82 * m) else h1 b j) → WP mX10_begins (zMQ mX10_begins (zKV (fun h' => zBV p c hs h h'))) 51 [some (vR 445), some (vI (i : Int))] [] zN zGR h' := by
      intro zm51
      induction zm51 using Nat.strongRecOn with | _ zm51 ih51 => ?_
      intro i h' hzm51 hi hh
      subst hzm51
      have k1 : h' 445 2 = (m : Int) := by rw [hh]; dsimp only; rw [if_neg (by omega), hme]; exact n1
      refine w_iload1 dX10_begins_51 (wp_bipush dX10_begins_52 (by decide) ?_)
      refine wp_icmp_ge 83 dX10_begins_54 rfl ⟨by omega, by omega⟩ ⟨by omega, by omega⟩ (fun c54 => ?_) (fun c54 => ?_)
      · skip
        refine w_aload0 dX10_begins_83 (wp_dup dX10_begins_84 rfl (wp_geti dX10_begins_85 fl_RX10_88 is_445 (wp_iconst dX10_begins_88 (wp_iadd dX10_begins_89 ?_))))
        rw [k1]
        refine wp_puti dX10_begins_90 fl_RX10_88 is_445 rfl (w_aload0 dX10_begins_93 ?_)
        apply v_v0 (M := mX10_begins) dX10_begins_94 lk_RX10_92 mvX10_forgets (by decide) meX10_begins is_445 (Nat.le_of_ble_eq_true rfl)
        · exact t_X10_forgets
        intro h94 hP94
        replace hP94 := hP94.symm
        subst hP94
        refine r_v dX10_begins_97 rfl meX10_begins ?_
        have hi9 : i = 82 := by omega
        have htk : ((p, c) :: hs).take 8 = (p, c) :: hs.take 7 := rfl
        have kk : ∀ a j, a ≠ 445 → zup (zup (zup h' 445 2 ((m : Int) + 1)) 445 8 0) 445 32 0 a j = h' a j := fun a j ha => by rw [zup_o (by omega), zup_o (by omega), zup_o (by omega)]
        refine ⟨fun a j n => ?_, ?_, by rw [zup_o (by omega), zup_s], by rw [zup_s]⟩
        · unfold zFbv at n
          rw [zup_o (by omega), zup_o (by omega), zup_o (by omega), hh]
          dsimp only
          rw [if_neg (by omega)]
          exact hF a j (by omega)
        · rw [htk]
          refine ⟨?_, ?_, fun k q hq => ?_⟩
          · rw [zup_o (by omega), zup_o (by omega), zup_s, List.length_cons]
            omega
          · rw [List.length_cons]; omega
          · rw [List.length_cons]
            cases k with
            | zero =>
              simp only [List.getElem?_cons_zero, Option.some.injEq] at hq
              rw [← hq]
              have e0 : (hs.take 7).length + 1 - 1 - 0 = m := by omega
              rw [e0]
              refine ⟨?_, fun k2 hk2 j hj => ?_⟩
              · rw [kk _ _ (by omega), hh]
                dsimp only
                rw [if_pos (by omega), Nat.sub_self, hF _ _ (by omega)]
                exact hR.1
              · rw [kk _ _ (by omega), hh]
                dsimp only
                rw [if_pos (by omega), show 82 * m + (1 + 27 * k2 + j) - 82 * m = 1 + 27 * k2 + j by omega, hF _ _ (by omega)]
                exact hR.2 k2 hk2 j hj
            | succ k =>
              rw [List.getElem?_cons_succ] at hq
              have hb := n3 k q hq
              have hkl : k < (hs.take 7).length := (List.getElem?_eq_some_iff.mp hq).1
              have e0 : (hs.take 7).length + 1 - 1 - (k + 1) = (hs.take 7).length - 1 - k := by omega
              rw [e0]
              have hb0 := hb.1
              refine ⟨?_, fun k2 hk2 j hj => ?_⟩
              · rw [kk _ _ (by omega), hh]
                dsimp only
                rw [if_neg (by omega)]
                exact hb0
              · rw [kk _ _ (by omega), hh]
                dsimp only
                rw [if_neg (by omega)]
                exact hb.2 k2 hk2 j hj
      · skip
        refine w_aload0 dX10_begins_57 (wp_getr 447 dX10_begins_58 fl_RX10_13 is_445 rfl (wp_bipush dX10_begins_61 (by decide) (w_aload0 dX10_begins_63 (wp_geti dX10_begins_64 fl_RX10_88 is_445 ?_))))
        rw [k1]
        refine wp_imul dX10_begins_67 (w_iload1 dX10_begins_68 (wp_iadd dX10_begins_69 (w_aload0 dX10_begins_70 (wp_getr 446 dX10_begins_71 fl_RX10_7 is_445 rfl (w_iload1 dX10_begins_74 (x_iald i dX10_begins_75 is_446 rfl (by omega) (x_iast (82 * m + i) dX10_begins_76 is_447 (by omega) (by omega) (w_iinc1 dX10_begins_77 rfl (by decide) (wp_goto 51 dX10_begins_80 rfl ?_)))))))))
        refine ih51 _ (by omega) (i + 1) _ rfl (by omega) ?_
        rw [hh]
        funext b j
        unfold zup
        try dsimp only
        by_cases e : b = 447 ∧ j = 82 * m + i
        · rw [if_pos e, if_neg (by omega), if_pos (by omega), e.2, show 82 * m + i - 82 * m = i by omega]
        · rw [if_neg e]
          by_cases e2 : b = 447 ∧ 82 * m ≤ j ∧ j < 82 * m + i
          · rw [if_pos e2, if_pos (by omega)]
          · rw [if_neg e2, if_neg (by omega)]
    refine wp_iconst dX10_begins_49 (w_istore1 dX10_begins_50 rfl (by decide) ?_)
    exact L51 _ 0 _ rfl (Nat.zero_le _) (by funext b j; rw [if_neg (by omega)])
  have L11 : ∀ (zm11 : Nat) (i : Nat) (h' : zH), 574 - i = zm11 → (i ≤ 574) → (hs.length = 8) → (h' = fun b j => if b = 447 ∧ j < i then h 447 (j + 82) else h b j) → WP mX10_begins (zMQ mX10_begins (zKV (fun h' => zBV p c hs h h'))) 11 [some (vR 445), some (vI (i : Int))] [] zN zGR h' := by
    intro zm11
    induction zm11 using Nat.strongRecOn with | _ zm11 ih11 => ?_
    intro i h' hzm11 hi h8 hh
    subst hzm11
    have k2 : h' 445 2 = (hs.length : Int) := by rw [hh]; dsimp only; rw [if_neg (by omega)]; exact m1
    refine w_iload1 dX10_begins_11 (wp_sipush dX10_begins_12 (by decide) ?_)
    refine wp_icmp_ge 39 dX10_begins_15 rfl ⟨by omega, by omega⟩ ⟨by omega, by omega⟩ (fun c15 => ?_) (fun c15 => ?_)
    · skip
      refine w_aload0 dX10_begins_39 (wp_dup dX10_begins_40 rfl (wp_geti dX10_begins_41 fl_RX10_88 is_445 (wp_iconst dX10_begins_44 (wp_isub dX10_begins_45 ?_))))
      rw [k2]
      refine wp_puti dX10_begins_46 fl_RX10_88 is_445 rfl ?_
      refine w_forget1 ?_
      refine L49 _ ⟨?_, ?_, fun k q hq => ?_⟩ (fun a j n => ?_)
      · rw [zup_s, List.length_take]
        omega
      · rw [List.length_take]; omega
      · rw [List.getElem?_take] at hq
        split at hq
        · next hk =>
          have hb := m3 k q hq
          have hl7 : (hs.take 7).length = 7 := by rw [List.length_take]; omega
          rw [h8] at hb
          rw [hl7]
          have hb0 := hb.1
          refine ⟨?_, fun k2 hk2 j hj => ?_⟩
          · rw [zup_o (by omega), hh]
            dsimp only
            rw [if_pos (by omega), show 82 * (7 - 1 - k) + 82 = 82 * (8 - 1 - k) by omega]
            exact hb0
          · rw [zup_o (by omega), hh]
            dsimp only
            rw [if_pos (by omega), show 82 * (7 - 1 - k) + (1 + 27 * k2 + j) + 82 = 82 * (8 - 1 - k) + (1 + 27 * k2 + j) by omega]
            exact hb.2 k2 hk2 j hj
        · cases hq
      · rw [zup_o (by omega), hh]
        dsimp only
        rw [if_neg (by omega)]
    · skip
      refine w_aload0 dX10_begins_18 (wp_getr 447 dX10_begins_19 fl_RX10_13 is_445 rfl (w_iload1 dX10_begins_22 (w_aload0 dX10_begins_23 (wp_getr 447 dX10_begins_24 fl_RX10_13 is_445 rfl (w_iload1 dX10_begins_27 (wp_bipush dX10_begins_28 (by decide) (wp_iadd dX10_begins_30 (x_iald (i + 82) dX10_begins_31 is_447 (by omega) (by omega) (x_iast i dX10_begins_32 is_447 rfl (by omega) ?_)))))))))
      refine w_iinc1 dX10_begins_33 rfl (by decide) (wp_goto 11 dX10_begins_36 rfl ?_)
      refine ih11 _ (by omega) (i + 1) _ rfl (by omega) h8 ?_
      rw [hh]
      funext b j
      unfold zup
      try dsimp only
      by_cases e : b = 447 ∧ j = i
      · rw [if_pos e, if_neg (by omega), if_pos (by omega), e.2]
      · rw [if_neg e]
        by_cases e2 : b = 447 ∧ j < i
        · rw [if_pos e2, if_pos (by omega)]
        · rw [if_neg e2, if_neg (by omega)]
  refine w_aload0 dX10_begins_0 (wp_geti dX10_begins_1 fl_RX10_88 is_445 (wp_bipush dX10_begins_4 (by decide) ?_))
  rw [m1]
  refine wp_icmp_ne 49 dX10_begins_6 rfl ⟨by omega, by omega⟩ ⟨by omega, by omega⟩ (fun c6 => ?_) (fun c6 => ?_)
  · skip
    exact L49 _ (by rw [List.take_of_length_le (by omega)]; exact hH.1) (fun a j n => rfl)
  · skip
    refine wp_iconst dX10_begins_9 (w_istore1 dX10_begins_10 rfl (by decide) ?_)
    exact L11 _ 0 _ rfl (Nat.zero_le _) (by omega) (by funext b j; rw [if_neg (by omega)])
set_option maxRecDepth 100000 in
set_option maxHeartbeats 4000000 in
theorem t_X10_undo {h : zH} {p : Int} {c : Nat → Nat → Int} {hs : List (Int × (Nat → Nat → Int))} {tx : Nat → Int} {L : Nat} (H : zVd p c hs tx L h) : CI yX10_undo mX10_undo [vR 445] h (fun r h' => zPV (sp_undo (p, c, hs, tx, L)) h r h') := by
  refine inV [some (vR 445), none] mvX10_undo rfl (Nat.le_of_ble_eq_true rfl) rfl ?_
  obtain ⟨hs1, hR, hH, hT, hK, hO⟩ := id H
  have hp := hs1.p
  have hp0 : h 446 0 = p := hR.1
  have hpp : 0 < p := by omega
  obtain ⟨m1, m2, m3⟩ := id hH.1
  have L22 : ∀ (zm22 : Nat) (i : Nat) (h' : zH) (q : Int × (Nat → Nat → Int)) (hs' : List (Int × (Nat → Nat → Int))), 82 - i = zm22 → (hs = q :: hs') → (i ≤ 82) → (hs'.length ≤ 7) → (zbk q hs'.length h) → (h' = fun b j => if b = 446 ∧ j < i then h 447 (82 * hs'.length + j) else zup h 445 2 (hs'.length : Int) b j) → WP mX10_undo (zMQ mX10_undo (zKI (fun r h' => zPV (sp_undo (p, c, hs, tx, L)) h r h'))) 22 [some (vR 445), some (vI (i : Int))] [] zN zGR h' := by
    intro zm22
    induction zm22 using Nat.strongRecOn with | _ zm22 ih22 => ?_
    intro i h' q hs' hzm22 ehs hi hlen hb hh
    subst hzm22
    have k2 : h' 445 2 = (hs'.length : Int) := by rw [hh]; dsimp only; rw [if_neg (by omega), zup_s]
    refine w_iload1 dX10_undo_22 (wp_bipush dX10_undo_23 (by decide) ?_)
    refine wp_icmp_ge 54 dX10_undo_25 rfl ⟨by omega, by omega⟩ ⟨by omega, by omega⟩ (fun c25 => ?_) (fun c25 => ?_)
    · skip
      refine w_aload0 dX10_undo_54 ?_
      apply v_v0 (M := mX10_undo) dX10_undo_55 lk_RX10_92 mvX10_forgets (by decide) meX10_undo is_445 (Nat.le_of_ble_eq_true rfl)
      · exact t_X10_forgets
      intro h55 hP55
      replace hP55 := hP55.symm
      subst hP55
      refine w_aload0 dX10_undo_58 (wp_geti dX10_undo_59 fl_RX10_88 is_445 ?_)
      rw [zup_o (by omega), zup_o (by omega), k2]
      refine r_i dX10_undo_62 rfl meX10_undo ?_
      subst ehs
      have hi9 : i = 82 := by omega
      have kk : ∀ a j, ¬ (a = 446 ∧ j < 82) → ¬ (a = 445 ∧ (j = 2 ∨ j = 8 ∨ j = 32)) → zup (zup h' 445 8 0) 445 32 0 a j = h a j := fun a j n1 n2 => by
        rw [zup_o (by omega), zup_o (by omega), hh]
        dsimp only
        rw [if_neg (by omega), zup_o (by omega)]
      refine zPV_i rfl rfl ⟨hH.2 q List.mem_cons_self, ⟨?_, fun k hk j hj => ?_⟩, ⟨⟨?_, by show hs'.length ≤ 8; omega, fun k q2 hq => ?_⟩, fun w hw => hH.2 w (List.mem_cons_of_mem _ hw)⟩, zMt_fr hT (fun a j ha => kk a j (by omega) (by omega)), Or.inl (by rw [zup_o (by omega), zup_s]), Or.inl zup_s⟩ (fun a j ha => kk a j (by omega) (by omega))
      · rw [zup_o (by omega), zup_o (by omega), hh]
        dsimp only
        rw [if_pos (by omega)]
        exact hb.1
      · rw [zup_o (by omega), zup_o (by omega), hh]
        dsimp only
        rw [if_pos (by omega)]
        exact hb.2 k hk j hj
      · rw [zup_o (by omega), zup_o (by omega)]; exact k2
      · have hq2 := m3 (k + 1) q2 (by rw [List.getElem?_cons_succ]; exact hq)
        have hkl : k < hs'.length := (List.getElem?_eq_some_iff.mp hq).1
        rw [show (q :: hs').length - 1 - (k + 1) = hs'.length - 1 - k by rw [List.length_cons]; omega] at hq2
        have hq3 := hq2.1
        exact ⟨(kk _ _ (by omega) (by omega)).trans hq3, fun k2 hk2 j hj => (kk _ _ (by omega) (by omega)).trans (hq2.2 k2 hk2 j hj)⟩
    · skip
      refine w_aload0 dX10_undo_28 (wp_getr 446 dX10_undo_29 fl_RX10_7 is_445 rfl (w_iload1 dX10_undo_32 (w_aload0 dX10_undo_33 (wp_getr 447 dX10_undo_34 fl_RX10_13 is_445 rfl (wp_bipush dX10_undo_37 (by decide) (w_aload0 dX10_undo_39 (wp_geti dX10_undo_40 fl_RX10_88 is_445 ?_)))))))
      rw [k2]
      refine wp_imul dX10_undo_43 (w_iload1 dX10_undo_44 (wp_iadd dX10_undo_45 (x_iald (82 * hs'.length + i) dX10_undo_46 is_447 (by omega) (by omega) (x_iast i dX10_undo_47 is_446 rfl (by omega) (w_iinc1 dX10_undo_48 rfl (by decide) (wp_goto 22 dX10_undo_51 rfl ?_))))))
      refine ih22 _ (by omega) (i + 1) _ q hs' rfl ehs (by omega) hlen hb ?_
      rw [hh]
      funext b j
      by_cases e : b = 446 ∧ j = i
      · rw [e.1, e.2, zup_s]
        try dsimp only
        rw [if_neg (by omega), if_pos (by omega), zup_o (by omega)]
      · rw [zup_o e]
        try dsimp only
        by_cases e2 : b = 446 ∧ j < i
        · rw [if_pos e2, if_pos (by omega)]
        · rw [if_neg e2, if_neg (by omega)]
  refine w_aload0 dX10_undo_0 (wp_geti dX10_undo_1 fl_RX10_88 is_445 ?_)
  rw [m1]
  refine wp_if_ne 10 dX10_undo_4 rfl ⟨by omega, by omega⟩ (fun c4 => ?_) (fun c4 => ?_)
  · skip
    refine w_aload0 dX10_undo_10 ?_
    obtain ⟨q, hs', ehs⟩ : ∃ q hs', hs = q :: hs' := by
      cases hs with
      | nil => exact absurd rfl c4
      | cons q hs' => exact ⟨q, hs', rfl⟩
    subst ehs
    have hb := m3 0 q rfl
    have hl : (q :: hs').length = hs'.length + 1 := rfl
    rw [hl] at m1 m2 hb
    rw [show hs'.length + 1 - 1 - 0 = hs'.length by omega] at hb
    refine wp_dup dX10_undo_11 rfl (wp_geti dX10_undo_12 fl_RX10_88 is_445 (wp_iconst dX10_undo_15 (wp_isub dX10_undo_16 ?_)))
    rw [m1]
    refine wp_puti dX10_undo_17 fl_RX10_88 is_445 rfl (wp_iconst dX10_undo_20 (w_istore1 dX10_undo_21 rfl (by decide) ?_))
    exact L22 _ 0 _ q hs' rfl rfl (Nat.zero_le _) (by omega) hb (by funext b j; rw [if_neg (by omega)]; show zup h 445 2 ((hs'.length + 1 : Nat) - 1 : Int) b j = _; congr 2; omega)
  · skip
    refine wp_bipush dX10_undo_7 (by decide) ?_
    refine r_i dX10_undo_9 rfl meX10_undo ?_
    have e : hs = [] := List.eq_nil_of_length_eq_zero (by omega)
    subst e
    exact zPV_q H zFV_r rfl rfl
set_option maxRecDepth 100000 in
set_option maxHeartbeats 4000000 in
theorem t_X10_setPrime {h : zH} {p : Int} {c : Nat → Nat → Int} {hs : List (Int × (Nat → Nat → Int))} {tx : Nat → Int} {L : Nat} (H : zVd p c hs tx L h) {x : Int} (zx : zin x) : CI yX10_setPrime mX10_setPrime [vR 445, vI x] h (fun r h' => zPV (sp_setPrime (p, c, hs, tx, L) x) h r h') := by
  refine inV [some (vR 445), some (vI x), none, none, none] mvX10_setPrime rfl (Nat.le_of_ble_eq_true rfl) rfl ?_
  obtain ⟨hs1, hR, hH, hT, hK, hO⟩ := id H
  have hp := hs1.p
  have hp0 : h 446 0 = p := hR.1
  have hpp : 0 < p := by omega
  have zx1 := zx.1
  have zx2 := zx.2
  have L55 : ∀ (zm55 : Nat) (i : Nat) (h' h44 : zH), 82 - i = zm55 → (zBV p c hs h h44) → (zPr x) → (i ≤ 82) → (h' = zfl h44 446 i (fun _ => 0)) → WP mX10_setPrime (zMQ mX10_setPrime (zKI (fun r h' => zPV (sp_setPrime (p, c, hs, tx, L) x) h r h'))) 55 [some (vR 445), some (vI x), none, some (vI p), some (vI (i : Int))] [] zN zGR h' := by
    intro zm55
    induction zm55 using Nat.strongRecOn with | _ zm55 ih55 => ?_
    intro i h' h44 hzm55 hB hPr hi hh
    subst hzm55
    refine w_iload4 dX10_setPrime_55 (wp_bipush dX10_setPrime_57 (by decide) ?_)
    refine wp_icmp_ge 76 dX10_setPrime_59 rfl ⟨by omega, by omega⟩ ⟨by omega, by omega⟩ (fun c59 => ?_) (fun c59 => ?_)
    · skip
      refine w_aload0 dX10_setPrime_76 (wp_getr 446 dX10_setPrime_77 fl_RX10_7 is_445 rfl (wp_iconst dX10_setPrime_80 (w_iload1 dX10_setPrime_81 (x_iast 0 dX10_setPrime_82 is_446 rfl (by decide) (w_iload3 dX10_setPrime_83 ?_)))))
      refine r_i dX10_setPrime_84 rfl meX10_setPrime ?_
      refine zPV_c H hB (zif_y hPr) rfl ⟨hPr, fun k j => ⟨Int.le_refl 0, by show (0 : Int) < x; unfold zPr at hPr; omega⟩⟩ ⟨zup_s, fun k hk j hj => ?_⟩ (fun a j ha => ?_)
      · rw [zup_o (by omega), hh, show i = 82 by omega, zfl_i (by omega)]
      · rw [zup_o (by omega), hh, zfl_o (by omega)]
    · skip
      refine w_aload0 dX10_setPrime_62 (wp_getr 446 dX10_setPrime_63 fl_RX10_7 is_445 rfl (w_iload4 dX10_setPrime_66 (wp_iconst dX10_setPrime_68 (x_iast i dX10_setPrime_69 is_446 rfl (by omega) (w_iinc4 dX10_setPrime_70 rfl (by decide) (wp_goto 55 dX10_setPrime_73 rfl ?_))))))
      exact ih55 _ (by omega) (i + 1) _ _ rfl hB hPr (by omega) (by rw [hh]; exact zfl_s rfl)
  have L10 : ∀ (zm10 : Nat) (d : Nat) (b : Int), x.toNat + 2 - d = zm10 → (2 ≤ d ∧ ((d : Int) ≤ x ∨ d = 2)) → (b = 0 ∨ b = 1) → (b = 1 → (5 ≤ x ∧ x ≤ 31) ∧ ∀ e : Nat, 2 ≤ e → e < d → x % (e : Int) ≠ 0) → (b = 0 → ¬ zPr x) → WP mX10_setPrime (zMQ mX10_setPrime (zKI (fun r h' => zPV (sp_setPrime (p, c, hs, tx, L) x) h r h'))) 10 [some (vR 445), some (vI x), some (vI b), some (vI (d : Int)), none] [] zN zGR h := by
    intro zm10
    induction zm10 using Nat.strongRecOn with | _ zm10 ih10 => ?_
    intro d b hzm10 hd hb hb1 hb0
    subst hzm10
    have L30 : ∀ (g : Int), (g = 0 ∨ g = 1) → ((d : Int) < x) → (g = 1 → (5 ≤ x ∧ x ≤ 31) ∧ ∀ e : Nat, 2 ≤ e → e < d + 1 → x % (e : Int) ≠ 0) → (g = 0 → ¬ zPr x) → WP mX10_setPrime (zMQ mX10_setPrime (zKI (fun r h' => zPV (sp_setPrime (p, c, hs, tx, L) x) h r h'))) 30 [some (vR 445), some (vI x), none, some (vI (d : Int)), none] [vI g] zN zGR h := by
      intro g hg hdx hg1 hg0
      refine w_istore2 dX10_setPrime_30 rfl (by decide) (w_iinc3 dX10_setPrime_31 rfl (by decide) (wp_goto 10 dX10_setPrime_34 rfl ?_))
      exact ih10 _ (by omega) (d + 1) _ rfl ⟨by omega, Or.inl (by omega)⟩ hg (fun w => hg1 w) hg0
    refine w_iload3 dX10_setPrime_10 (w_iload1 dX10_setPrime_11 ?_)
    refine wp_icmp_ge 37 dX10_setPrime_12 rfl ⟨by omega, by omega⟩ ⟨by omega, by omega⟩ (fun c12 => ?_) (fun c12 => ?_)
    · skip
      refine w_iload2 dX10_setPrime_37 ?_
      refine wp_if_ne 43 dX10_setPrime_38 rfl ⟨by omega, by omega⟩ (fun c38 => ?_) (fun c38 => ?_)
      · skip
        refine w_aload0 dX10_setPrime_43 ?_
        apply v_v0 (M := mX10_setPrime) dX10_setPrime_44 lk_RX10_106 mvX10_begins (by decide) meX10_setPrime is_445 (Nat.le_of_ble_eq_true rfl)
        · exact t_X10_begins H
        intro h44 hP44
        have hR44 := zMr_bv hP44 hR
        refine w_aload0 dX10_setPrime_47 ?_
        apply v_i0 (M := mX10_setPrime) dX10_setPrime_48 lk_RX10_76 mvX10_p (by decide) meX10_setPrime is_445 (Nat.le_of_ble_eq_true rfl)
        · exact t_X10_p hR44.1
        intro x48 h48 hP48
        obtain ⟨eh48, ex48⟩ := hP48
        replace eh48 := eh48.symm
        subst eh48
        replace ex48 := ex48.symm
        subst ex48
        refine w_istore3 dX10_setPrime_51 rfl (by decide) (wp_iconst dX10_setPrime_52 (w_istore4 dX10_setPrime_53 rfl (by decide) ?_))
        refine w_forget2 ?_
        have hPr : zPr x := by
          have hb2 := hb1 (by omega)
          exact zpr_b hb2.1 (fun e h1 h2 => hb2.2 e h1 (by omega))
        exact L55 _ 0 _ _ rfl hP44 hPr (Nat.zero_le _) zfl_0.symm
      · skip
        refine wp_iconst dX10_setPrime_41 ?_
        refine r_i dX10_setPrime_42 rfl meX10_setPrime ?_
        exact zPV_q H zFV_r (zif_n (hb0 (by omega))) rfl
    · skip
      refine w_iload2 dX10_setPrime_15 ?_
      refine wp_if_eq 37 dX10_setPrime_16 rfl ⟨by omega, by omega⟩ (fun c16 => ?_) (fun c16 => ?_)
      · skip
        refine w_iload2 dX10_setPrime_37 ?_
        refine wp_if_ne 43 dX10_setPrime_38 rfl ⟨by omega, by omega⟩ (fun c38 => ?_) (fun c38 => ?_)
        · skip
          refine w_aload0 dX10_setPrime_43 ?_
          apply v_v0 (M := mX10_setPrime) dX10_setPrime_44 lk_RX10_106 mvX10_begins (by decide) meX10_setPrime is_445 (Nat.le_of_ble_eq_true rfl)
          · exact t_X10_begins H
          intro h44 hP44
          have hR44 := zMr_bv hP44 hR
          refine w_aload0 dX10_setPrime_47 ?_
          apply v_i0 (M := mX10_setPrime) dX10_setPrime_48 lk_RX10_76 mvX10_p (by decide) meX10_setPrime is_445 (Nat.le_of_ble_eq_true rfl)
          · exact t_X10_p hR44.1
          intro x48 h48 hP48
          obtain ⟨eh48, ex48⟩ := hP48
          replace eh48 := eh48.symm
          subst eh48
          replace ex48 := ex48.symm
          subst ex48
          refine w_istore3 dX10_setPrime_51 rfl (by decide) (wp_iconst dX10_setPrime_52 (w_istore4 dX10_setPrime_53 rfl (by decide) ?_))
          refine w_forget2 ?_
          have hPr : zPr x := by
            have hb2 := hb1 (by omega)
            exact zpr_b hb2.1 (fun e h1 h2 => hb2.2 e h1 (by omega))
          exact L55 _ 0 _ _ rfl hP44 hPr (Nat.zero_le _) zfl_0.symm
        · skip
          refine wp_iconst dX10_setPrime_41 ?_
          refine r_i dX10_setPrime_42 rfl meX10_setPrime ?_
          exact zPV_q H zFV_r (zif_n (hb0 (by omega))) rfl
      · skip
        refine w_iload1 dX10_setPrime_19 (w_iload3 dX10_setPrime_20 (wp_irem dX10_setPrime_21 (by omega) (by omega) ?_))
        have hxm := z_mod (by omega) x (p := (d : Int))
        refine wp_if_eq 29 dX10_setPrime_22 rfl ⟨by omega, by omega⟩ (fun c22 => ?_) (fun c22 => ?_)
        · skip
          refine wp_iconst dX10_setPrime_29 ?_
          refine w_forget2 ?_
          first
          | exact L30 1 (Or.inr rfl) (by omega) (fun _ => ⟨(hb1 (by omega)).1, fun e h1 h2 => by
              by_cases w : e = d
              · rw [w]; exact c22
              · exact (hb1 (by omega)).2 e h1 (by omega)⟩) (fun w => absurd w (by decide))
          | exact L30 0 (Or.inl rfl) (by omega) (fun w => absurd w (by decide)) (fun _ q => (zpr_a q).2 (d : Int) (by omega) (by omega) c22)
        · skip
          refine wp_iconst dX10_setPrime_25 (wp_goto 30 dX10_setPrime_26 rfl ?_)
          refine w_forget2 ?_
          first
          | exact L30 1 (Or.inr rfl) (by omega) (fun _ => ⟨(hb1 (by omega)).1, fun e h1 h2 => by
              by_cases w : e = d
              · rw [w]; exact c22
              · exact (hb1 (by omega)).2 e h1 (by omega)⟩) (fun w => absurd w (by decide))
          | exact L30 0 (Or.inl rfl) (by omega) (fun w => absurd w (by decide)) (fun _ q => (zpr_a q).2 (d : Int) (by omega) (by omega) c22)
  refine w_iload1 dX10_setPrime_0 (wp_iconst dX10_setPrime_1 (wp_bipush dX10_setPrime_2 (by decide) ?_))
  apply s_i3 (M := mX10_setPrime) dX10_setPrime_4 lk_RX10_80 mvX10_in (by decide) meX10_setPrime (Nat.le_of_ble_eq_true rfl)
  · exact t_X10_in zx ⟨by decide, by decide⟩ ⟨by decide, by decide⟩
  intro x4 h4 hP4
  obtain ⟨eh4, hP4⟩ := hP4
  replace eh4 := eh4.symm
  subst eh4
  refine w_istore2 dX10_setPrime_7 rfl (by decide) (wp_iconst dX10_setPrime_8 (w_istore3 dX10_setPrime_9 rfl (by decide) ?_))
  exact L10 _ 2 _ rfl ⟨Nat.le_refl _, Or.inr rfl⟩ hP4.1 (fun w => ⟨by omega, fun e h1 h2 => by omega⟩) (fun w q => by unfold zPr at q; omega)
set_option maxRecDepth 100000 in
set_option maxHeartbeats 4000000 in
theorem t_X10_type {h : zH} {p : Int} {c : Nat → Nat → Int} {hs : List (Int × (Nat → Nat → Int))} {tx : Nat → Int} {L : Nat} (H : zVd p c hs tx L h) {x : Int} (zx : zin x) : CI yX10_type mX10_type [vR 445, vI x] h (fun r h' => zPV (sp_type (p, c, hs, tx, L) x) h r h') := by
  refine inV [some (vR 445), some (vI x)] mvX10_type rfl (Nat.le_of_ble_eq_true rfl) rfl ?_
  obtain ⟨hs1, hR, hH, hT, hK, hO⟩ := id H
  have hp := hs1.p
  have hp0 : h 446 0 = p := hR.1
  have hpp : 0 < p := by omega
  have zx1 := zx.1
  have zx2 := zx.2
  refine w_iload1 dX10_type_0 (wp_bipush dX10_type_1 (by decide) (wp_bipush dX10_type_3 (by decide) ?_))
  apply s_i3 (M := mX10_type) dX10_type_5 lk_RX10_80 mvX10_in (by decide) meX10_type (Nat.le_of_ble_eq_true rfl)
  · exact t_X10_in zx ⟨by decide, by decide⟩ ⟨by decide, by decide⟩
  intro x5 h5 hP5
  obtain ⟨eh5, hP5⟩ := hP5
  replace eh5 := eh5.symm
  subst eh5
  refine wp_if_ne 13 dX10_type_8 rfl ⟨by omega, by omega⟩ (fun c8 => ?_) (fun c8 => ?_)
  · skip
    refine w_aload0 dX10_type_13 (wp_geti dX10_type_14 fl_RX10_109 is_445 (wp_bipush dX10_type_17 (by decide) ?_))
    rw [hT.1]
    have hL60 := hT.2.1
    refine wp_icmp_ne 25 dX10_type_19 rfl ⟨by omega, by omega⟩ ⟨by omega, by omega⟩ (fun c19 => ?_) (fun c19 => ?_)
    · skip
      refine w_aload0 dX10_type_25 (wp_getr 448 dX10_type_26 fl_RX10_16 is_445 rfl (w_aload0 dX10_type_29 (wp_geti dX10_type_30 fl_RX10_109 is_445 (w_iload1 dX10_type_33 ?_))))
      rw [hT.1]
      refine x_iast L dX10_type_34 is_448 rfl (by omega) (w_aload0 dX10_type_35 (wp_dup dX10_type_36 rfl (wp_geti dX10_type_37 fl_RX10_109 is_445 (wp_iconst dX10_type_40 (wp_iadd dX10_type_41 ?_)))))
      rw [show zup h 448 L x 445 4 = (L : Int) by rw [zup_o (by omega)]; exact hT.1]
      refine wp_puti dX10_type_42 fl_RX10_109 is_445 rfl (w_aload0 dX10_type_45 (wp_geti dX10_type_46 fl_RX10_109 is_445 ?_))
      rw [zup_s]
      refine r_i dX10_type_49 rfl meX10_type ?_
      refine zPV_i ((zif_y (by first | omega | (dsimp only; omega))).trans (zif_y (by show L < 60; omega))) rfl ⟨hs1, zMr_fr hR (fun j _ => by rw [zup_o (by omega), zup_o (by omega)]), ⟨zMb_fr hH.1 (fun a j ha => by rw [zup_o (by omega), zup_o (by omega)]), hH.2⟩, ⟨zup_s, by show L + 1 ≤ 60; omega, fun j hj => ?_⟩, zMk_fr hK (fun a j ha => by unfold zKnF at ha; rw [zup_o (by omega), zup_o (by omega)]), zMo_fr hO (fun a j ha => by unfold zKoF at ha; rw [zup_o (by omega), zup_o (by omega)])⟩ (fun a j ha => by rw [zup_o (by omega), zup_o (by omega)])
      rw [zup_o (by omega)]
      show zup h 448 L x 448 j = (if j = L then x else tx j) ∧ 0 ≤ (if j = L then x else tx j) ∧ (if j = L then x else tx j) < 200
      by_cases e : j = L
      · rw [if_pos e, e, zup_s]
        omega
      · have hj2 : j < L + 1 := hj
        rw [if_neg e, zup_o (by omega)]
        exact hT.2.2 j (by omega)
    · skip
      refine wp_bipush dX10_type_22 (by decide) ?_
      refine r_i dX10_type_24 rfl meX10_type ?_
      exact zPV_q H zFV_r ((zif_y (by first | omega | (dsimp only; omega))).trans (zif_n (by first | omega | (dsimp only; omega)))) rfl
  · skip
    refine wp_iconst dX10_type_11 ?_
    refine r_i dX10_type_12 rfl meX10_type ?_
    exact zPV_q H zFV_r (zif_n (by first | omega | (dsimp only; omega))) rfl
set_option maxRecDepth 100000 in
set_option maxHeartbeats 4000000 in
theorem t_X10_clearText {h : zH} {p : Int} {c : Nat → Nat → Int} {hs : List (Int × (Nat → Nat → Int))} {tx : Nat → Int} {L : Nat} (H : zVd p c hs tx L h) : CI yX10_clearText mX10_clearText [vR 445] h (fun r h' => zPV (sp_clear (p, c, hs, tx, L)) h r h') := by
  refine inV [some (vR 445), none] mvX10_clearText rfl (Nat.le_of_ble_eq_true rfl) rfl ?_
  obtain ⟨hs1, hR, hH, hT, hK, hO⟩ := id H
  have hp := hs1.p
  have hp0 : h 446 0 = p := hR.1
  have hpp : 0 < p := by omega
  refine w_aload0 dX10_clearText_0 (wp_geti dX10_clearText_1 fl_RX10_109 is_445 (w_istore1 dX10_clearText_4 rfl (by decide) (w_aload0 dX10_clearText_5 (wp_iconst dX10_clearText_6 (wp_puti dX10_clearText_7 fl_RX10_109 is_445 rfl (w_iload1 dX10_clearText_10 ?_))))))
  refine r_i dX10_clearText_11 rfl meX10_clearText ?_
  exact zPV_i rfl hT.1 ⟨hs1, zMr_fr hR (fun j _ => zup_o (by omega)), ⟨zMb_fr hH.1 (fun a j ha => zup_o (by omega)), hH.2⟩, ⟨zup_s, by show 0 ≤ 60; omega, fun j hj => absurd hj (Nat.not_lt_zero j)⟩, zMk_fr hK (fun a j ha => by unfold zKnF at ha; rw [zup_o (by omega)]), zMo_fr hO (fun a j ha => by unfold zKoF at ha; rw [zup_o (by omega)])⟩ (fun a j ha => zup_o (by omega))
set_option maxRecDepth 100000 in
set_option maxHeartbeats 4000000 in
theorem t_X10_read {h : zH} {p : Int} {c : Nat → Nat → Int} {hs : List (Int × (Nat → Nat → Int))} {tx : Nat → Int} {L : Nat} (H : zVd p c hs tx L h) {k : Int} (zk : zin k) : CI yX10_read mX10_read [vR 445, vI k] h (fun r h' => zPV (sp_read (p, c, hs, tx, L) k) h r h') := by
  refine inV [some (vR 445), some (vI k), none, none] mvX10_read rfl (Nat.le_of_ble_eq_true rfl) rfl ?_
  obtain ⟨hs1, hR, hH, hT, hK, hO⟩ := id H
  have hp := hs1.p
  have hp0 : h 446 0 = p := hR.1
  have hpp : 0 < p := by omega
  have zk1 := zk.1
  have zk2 := zk.2
  have zl := zparse_le (tx := tx) (L := L) (p := p)
  have hL60 := hT.2.1
  have L33 : ∀ (zm33 : Nat) (i : Nat) (h' h12 h28 : zH), 27 - i = zm33 → (0 ≤ k ∧ k ≤ 2 ∧ (zparse tx L p).1 < 0) → (zVd p c hs tx L h12) → (zFV h h12) → (zBV p c hs h12 h28) → (∀ j, j < 27 → h28 449 j = (zparse tx L p).2 j ∧ 0 ≤ (zparse tx L p).2 j ∧ (zparse tx L p).2 j < p) → (i ≤ 27) → (h' = fun b j => if b = 446 ∧ 1 + 27 * k.toNat ≤ j ∧ j < 1 + 27 * k.toNat + i then (zparse tx L p).2 (j - (1 + 27 * k.toNat)) else h28 b j) → WP mX10_read (zMQ mX10_read (zKI (fun r h' => zPV (sp_read (p, c, hs, tx, L) k) h r h'))) 33 [some (vR 445), some (vI k), none, some (vI (i : Int))] [] zN zGR h' := by
    intro zm33
    induction zm33 using Nat.strongRecOn with | _ zm33 ih33 => ?_
    intro i h' h12 h28 hzm33 hok hH12 hX12 hB hG hi hh
    subst hzm33
    refine w_iload3 dX10_read_33 (wp_bipush dX10_read_34 (by decide) ?_)
    refine wp_icmp_ge 64 dX10_read_36 rfl ⟨by omega, by omega⟩ ⟨by omega, by omega⟩ (fun c36 => ?_) (fun c36 => ?_)
    · skip
      have hi9 : i = 27 := by omega
      have hrow : ∀ j, j < 27 → h' 446 (1 + 27 * k.toNat + j) = (zparse tx L p).2 j := fun j hj => by
        rw [hh]
        dsimp only
        rw [if_pos (by omega), show 1 + 27 * k.toNat + j - (1 + 27 * k.toNat) = j by omega]
      refine w_aload0 dX10_read_64 (w_iload1 dX10_read_65 ?_)
      apply v_i1 (M := mX10_read) dX10_read_66 lk_RX10_102 mvX10_termsOf (by decide) meX10_read is_445 (Nat.le_of_ble_eq_true rfl)
      · exact t_X10_termsOf (p := p) (k := k.toNat) (f := (zparse tx L p).2) (by omega) (by omega) (fun j hj => ⟨hrow j hj, by have := hG j hj; omega, by have := hG j hj; omega⟩)
      intro x66 h66 hP66
      obtain ⟨eh66, ex66⟩ := hP66
      replace eh66 := eh66.symm
      subst eh66
      replace ex66 := ex66.symm
      subst ex66
      refine r_i dX10_read_69 rfl meX10_read ?_
      have hRb := zMr_bv hB hH12.2.1
      refine zPV_i (v := zcnt (zparse tx L p).2 27) (t := zch (p, c, hs, tx, L) p (zpkc c k.toNat (zparse tx L p).2)) ((zif_y (by first | omega | (dsimp only; omega))).trans (zif_n (by show ¬ 0 ≤ (zparse tx L p).1; omega))) rfl (zVd_ch hH12 hB (p' := p) (c' := zpkc c k.toNat (zparse tx L p).2) (zSt_pkc hs1 (fun j hj => by have := hG j hj; omega)) ⟨?_, fun k' hk j hj => ?_⟩ (fun a j ha => ?_)) (fun a j ha => ?_)
      · rw [hh]
        dsimp only
        rw [if_neg (by omega)]
        exact hRb.1
      · unfold zpkc
        by_cases e : k' = k.toNat
        · rw [e, if_pos ⟨rfl, hj⟩]
          exact hrow j hj
        · rw [if_neg (fun q => e q.1), hh]
          dsimp only
          rw [if_neg (by omega)]
          exact hRb.2 k' hk j hj
      · rw [hh]
        dsimp only
        rw [if_neg (by omega)]
      · rw [hh]
        dsimp only
        rw [if_neg (by omega), hB.1 _ _ (by unfold zFbv; omega)]
        exact hX12 a j ha
    · skip
      refine w_aload0 dX10_read_39 (wp_getr 446 dX10_read_40 fl_RX10_7 is_445 rfl (wp_iconst dX10_read_43 (wp_bipush dX10_read_44 (by decide) (w_iload1 dX10_read_46 (wp_imul dX10_read_47 (wp_iadd dX10_read_48 (w_iload3 dX10_read_49 (wp_iadd dX10_read_50 (w_aload0 dX10_read_51 ?_)))))))))
      refine wp_getr 449 dX10_read_52 fl_RX10_19 is_445 rfl (w_iload3 dX10_read_55 (x_iald i dX10_read_56 is_449 rfl (by omega) (x_iast (1 + 27 * k.toNat + i) dX10_read_57 is_446 (by omega) (by omega) (w_iinc3 dX10_read_58 rfl (by decide) (wp_goto 33 dX10_read_61 rfl ?_)))))
      refine ih33 _ (by omega) (i + 1) _ h12 h28 rfl hok hH12 hX12 hB hG (by omega) ?_
      have w := (hG i (by omega)).1
      rw [hh]
      funext b j
      unfold zup
      try dsimp only
      by_cases e : b = 446 ∧ j = 1 + 27 * k.toNat + i
      · rw [if_pos e, if_neg (by omega), if_pos (by omega), e.2, show 1 + 27 * k.toNat + i - (1 + 27 * k.toNat) = i by omega]
        exact w
      · rw [if_neg e]
        by_cases e2 : b = 446 ∧ 1 + 27 * k.toNat ≤ j ∧ j < 1 + 27 * k.toNat + i
        · rw [if_pos e2, if_pos (by omega)]
        · rw [if_neg e2, if_neg (by omega)]
  refine w_iload1 dX10_read_0 (wp_iconst dX10_read_1 (wp_iconst dX10_read_2 ?_))
  apply s_i3 (M := mX10_read) dX10_read_3 lk_RX10_80 mvX10_in (by decide) meX10_read (Nat.le_of_ble_eq_true rfl)
  · exact t_X10_in zk ⟨by decide, by decide⟩ ⟨by decide, by decide⟩
  intro x3 h3 hP3
  obtain ⟨eh3, hP3⟩ := hP3
  replace eh3 := eh3.symm
  subst eh3
  refine wp_if_ne 11 dX10_read_6 rfl ⟨by omega, by omega⟩ (fun c6 => ?_) (fun c6 => ?_)
  · skip
    refine w_aload0 dX10_read_11 ?_
    apply v_i0 (M := mX10_read) dX10_read_12 lk_RX10_135 mvX10_reads (by decide) meX10_read is_445 (Nat.le_of_ble_eq_true rfl)
    · exact t_X10_reads hT hp hp0
    intro x12 h12 hP12
    obtain ⟨f12, a12, b12⟩ := hP12
    have hH12 : zVd p c hs tx L h12 := zVd_fr H (fun a j ha => f12 a j (by unfold zVFm zKnF zKoF at ha; unfold zFrs; omega))
    have hX12 : zFV h h12 := fun a j ha => f12 a j (by unfold zFrs; omega)
    have x12b : -9 ≤ x12 ∧ x12 ≤ 60 ∧ (x12 = -9 ↔ (zparse tx L p).1 < 0) := by
      by_cases w : (zparse tx L p).1 < 0
      · have := a12 w; omega
      · have := b12 (by omega); omega
    refine w_istore2 dX10_read_15 rfl (by decide) (w_iload2 dX10_read_16 (wp_bipush dX10_read_17 (by decide) ?_))
    refine wp_icmp_eq 27 dX10_read_19 rfl ⟨by omega, by omega⟩ ⟨by omega, by omega⟩ (fun c19 => ?_) (fun c19 => ?_)
    · skip
      refine w_aload0 dX10_read_27 ?_
      apply v_v0 (M := mX10_read) dX10_read_28 lk_RX10_106 mvX10_begins (by decide) meX10_read is_445 (Nat.le_of_ble_eq_true rfl)
      · exact t_X10_begins hH12
      intro h28 hP28
      have hR28 := zMr_bv hP28 hH12.2.1
      refine wp_iconst dX10_read_31 (w_istore3 dX10_read_32 rfl (by decide) ?_)
      refine w_forget2 ?_
      exact L33 _ 0 _ h12 h28 rfl (by omega) hH12 hX12 hP28 (fun j hj => by
        have w := (a12 (by omega)).2 j hj
        rw [hP28.1 _ _ (by unfold zFbv; omega)]
        exact ⟨w.1, by omega, by omega⟩) (Nat.zero_le _) (by funext b j; rw [if_neg (by omega)])
    · skip
      refine wp_bipush dX10_read_22 (by decide) (w_iload2 dX10_read_24 (wp_isub dX10_read_25 ?_))
      refine r_i dX10_read_26 rfl meX10_read ?_
      exact zPV_q hH12 hX12 ((zif_y (by first | omega | (dsimp only; omega))).trans (zif_y (by show 0 ≤ (zparse tx L p).1; omega))) (by have := b12 (by omega); show _ = -10 - (zparse tx L p).1; omega)
  · skip
    refine wp_iconst dX10_read_9 ?_
    refine r_i dX10_read_10 rfl meX10_read ?_
    exact zPV_q H zFV_r (zif_n (by first | omega | (dsimp only; omega))) rfl
