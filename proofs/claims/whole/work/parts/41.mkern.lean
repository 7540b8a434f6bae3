
theorem CALL_as {y : MethodName} {M : zM} {As Bs : List zv} {g : zG} {h : zH} {K : Option zv → Nat → zG → zH → Prop} (e : ∀ B, As.map (zc B) = Bs.map (zc B)) (H : CALL y M Bs g h K) : CALL y M As g h K := by
  intro l D cs B
  rw [e B]
  exact H l D cs B
def zFex (a j : Nat) : Prop := a = 458 ∨ a = 467
/-- two rows exchanged -/
def zexh (h : zH) (r q n : Nat) : zH := fun b x => if (b = 458 ∨ b = 467) ∧ 8 * r ≤ x ∧ x < 8 * r + n then h b (8 * q + (x - 8 * r)) else if (b = 458 ∨ b = 467) ∧ 8 * q ≤ x ∧ x < 8 * q + n then h b (8 * r + (x - 8 * q)) else h b x
def zexr (W : Nat → Nat → Int) (r q : Nat) : Nat → Nat → Int := fun i => if i = r then W q else if i = q then W r else W i
/-- rows behind by less their multiples of it -/
def zcl (p : Int) (tm : Nat → Int) (W : Nat → Nat → Int) (by_ : Nat) : Nat → Nat → Int := fun r q => if by_ < r then (W r q - tm r * W by_ q) % p else W r q
def ztm (p : Int) (W : Nat → Nat → Int) (by_ c r : Nat) : Int := W r c * zinv (W by_ c) p % p
/-- the elimination after c columns: how many rows are done, the matrix, what was done to the rows -/
def zGe (p : Int) (s : Nat) (V : Nat → Nat → Int) : Nat → Nat × (Nat → Nat → Int) × (Nat → Nat → Int)
  | 0 => (0, V, fun r q => if r = q then 1 else 0)
  | c + 1 => if zld (fun r => (zGe p s V c).2.1 r c) (s - (zGe p s V c).1) (zGe p s V c).1 < s then ((zGe p s V c).1 + 1, zcl p (ztm p (zexr (zGe p s V c).2.1 (zld (fun r => (zGe p s V c).2.1 r c) (s - (zGe p s V c).1) (zGe p s V c).1) (zGe p s V c).1) (zGe p s V c).1 c) (zexr (zGe p s V c).2.1 (zld (fun r => (zGe p s V c).2.1 r c) (s - (zGe p s V c).1) (zGe p s V c).1) (zGe p s V c).1) (zGe p s V c).1, zcl p (ztm p (zexr (zGe p s V c).2.1 (zld (fun r => (zGe p s V c).2.1 r c) (s - (zGe p s V c).1) (zGe p s V c).1) (zGe p s V c).1) (zGe p s V c).1 c) (zexr (zGe p s V c).2.2 (zld (fun r => (zGe p s V c).2.1 r c) (s - (zGe p s V c).1) (zGe p s V c).1) (zGe p s V c).1) (zGe p s V c).1) else zGe p s V c
/-- the matrix and the tracks stand in the cells -/
def zWT (p : Int) (s : Nat) (W T : Nat → Nat → Int) (h : zH) : Prop := ∀ r, r < s → (∀ q, q < s → h 458 (8 * r + q) = W r q ∧ 0 ≤ W r q ∧ W r q < p) ∧ (∀ q, q < 8 → h 467 (8 * r + q) = T r q ∧ 0 ≤ T r q ∧ T r q < p)

theorem ite_cases_m {P : Prop} {d : Decidable P} {a b : Int} (h : a = b) : @ite _ P d a b = a := by
  split
  · rfl
  · exact h.symm

set_option maxRecDepth 100000 in
set_option maxHeartbeats 4000000 in
theorem t_X10_modB {h : zH} {x xx p : Int} (hx : zin xx) (he : zin x → x = xx) (hp : 5 ≤ p ∧ p ≤ 31) (hp0 : h 446 0 = p) : CI yX10_mod mX10_mod [vR 445, vI xx] h (fun r h' => h' = h ∧ (0 ≤ r ∧ r < p) ∧ (zin x → r = x % p)) := by
  refine inV [some (vR 445), some (vI xx), none] mvX10_mod rfl (Nat.le_of_ble_eq_true rfl) rfl ?_
  have hpp : 0 < p := by omega
  have hb := tmod_bounds (a := xx) hpp
  have hx1 := hx.1
  have hx2 := hx.2
  have hmm := z_mod hpp xx
  refine w_iload1 dX10_mod_0 (w_aload0 dX10_mod_1 ?_)
  apply v_i0 (M := mX10_mod) dX10_mod_2 lk_RX10_76 mvX10_p (by decide) meX10_mod is_445 (Nat.le_of_ble_eq_true rfl)
  · exact t_X10_p hp0
  intro x2 h2 hP2
  obtain ⟨eh2, ex2⟩ := hP2
  replace eh2 := eh2.symm
  subst eh2
  replace ex2 := ex2.symm
  subst ex2
  refine wp_iremT dX10_mod_5 ⟨by omega, by omega⟩ (by omega) (w_istore2 dX10_mod_6 rfl (by decide) (w_iload2 dX10_mod_7 ?_))
  refine wp_if_ge 20 dX10_mod_8 rfl ⟨by omega, by omega⟩ (fun c8 => ?_) (fun c8 => ?_)
  · skip
    refine w_iload2 dX10_mod_20 ?_
    refine r_i dX10_mod_21 rfl meX10_mod ?_
    first
    | (have e := z_tmod_pos (x := xx) hpp (by omega)
       exact ⟨rfl, by omega, fun w => by rw [he w]; exact e⟩)
    | (have e := z_tmod_neg (x := xx) hpp (by omega)
       exact ⟨rfl, by omega, fun w => by rw [he w]; exact e⟩)
  · skip
    refine w_iload2 dX10_mod_11 (w_aload0 dX10_mod_12 ?_)
    apply v_i0 (M := mX10_mod) dX10_mod_13 lk_RX10_76 mvX10_p (by decide) meX10_mod is_445 (Nat.le_of_ble_eq_true rfl)
    · exact t_X10_p hp0
    intro x13 h13 hP13
    obtain ⟨eh13, ex13⟩ := hP13
    replace eh13 := eh13.symm
    subst eh13
    replace ex13 := ex13.symm
    subst ex13
    refine wp_iadd dX10_mod_16 (wp_goto 21 dX10_mod_17 rfl ?_)
    refine r_i dX10_mod_21 rfl meX10_mod ?_
    first
    | (have e := z_tmod_pos (x := xx) hpp (by omega)
       exact ⟨rfl, by omega, fun w => by rw [he w]; exact e⟩)
    | (have e := z_tmod_neg (x := xx) hpp (by omega)
       exact ⟨rfl, by omega, fun w => by rw [he w]; exact e⟩)

/-- mod for any number -/
theorem t_X10_modA {h : zH} {x p : Int} (hp : 5 ≤ p ∧ p ≤ 31) (hp0 : h 446 0 = p) : CI yX10_mod mX10_mod [vR 445, vI x] h (fun r h' => h' = h ∧ (0 ≤ r ∧ r < p) ∧ (zin x → r = x % p)) := by
  have h1 := Int32.le_toInt (Int32.ofInt x)
  have h2 := Int32.toInt_lt (Int32.ofInt x)
  have hz : zin (Int32.ofInt x).toInt := ⟨by omega, by omega⟩
  have e : Int32.ofInt (Int32.ofInt x).toInt = Int32.ofInt x := Int32.ofInt_toInt _
  refine CALL_as (Bs := [vR 445, vI (Int32.ofInt x).toInt]) (fun B => ?_) (t_X10_modB hz (fun w => (zin_toInt w).symm) hp hp0)
  show [zc B (vR 445), Value.int (Int32.ofInt x)] = [zc B (vR 445), Value.int (Int32.ofInt (Int32.ofInt x).toInt)]
  rw [e]
set_option maxRecDepth 100000 in
set_option maxHeartbeats 4000000 in
theorem t_X10_exchanges {h : zH} {rr qq : Int} {r q : Nat} (hr : rr = r) (hq : qq = q) (hr8 : r < 8) (hq8 : q < 8) : CV yX10_exchanges mX10_exchanges [vR 445, vI rr, vI qq] h (fun h' => h' = zexh h r q 8) := by
  refine inV [some (vR 445), some (vI rr), some (vI qq), none, none] mvX10_exchanges rfl (Nat.le_of_ble_eq_true rfl) rfl ?_
  have L2 : ∀ (zm2 : Nat) (i : Nat) (h' : zH), 8 - i = zm2 → (i ≤ 8) → (h' = zexh h r q i) → WP mX10_exchanges (zMQ mX10_exchanges (zKV (fun h' => h' = zexh h r q 8))) 2 [some (vR 445), some (vI rr), some (vI qq), some (vI (i : Int)), none] [] zN zGR h' := by
    intro zm2
    induction zm2 using Nat.strongRecOn with | _ zm2 ih2 => ?_
    intro i h' hzm2 hi hh
    subst hzm2
    have g : ∀ b, (b = 458 ∨ b = 467) → i < 8 → h' b (8 * r + i) = h b (8 * r + i) ∧ h' b (8 * q + i) = h b (8 * q + i) := fun b hb w => by rw [hh]; unfold zexh; exact ⟨by rw [if_neg (by omega), if_neg (by omega)], by rw [if_neg (by omega), if_neg (by omega)]⟩
    refine w_iload3 dX10_exchanges_2 (wp_bipush dX10_exchanges_3 (by decide) ?_)
    refine wp_icmp_ge 110 dX10_exchanges_5 rfl ⟨by omega, by omega⟩ ⟨by omega, by omega⟩ (fun c5 => ?_) (fun c5 => ?_)
    · skip
      refine r_v dX10_exchanges_110 rfl meX10_exchanges ?_
      rw [hh, show i = 8 by omega]
    · skip
      refine w_aload0 dX10_exchanges_8 (wp_getr 458 dX10_exchanges_9 fl_RX10_46 is_445 rfl (wp_bipush dX10_exchanges_12 (by decide) (w_iload1 dX10_exchanges_14 (wp_imul dX10_exchanges_15 (w_iload3 dX10_exchanges_16 (wp_iadd dX10_exchanges_17 (x_iald (8 * r + i) dX10_exchanges_18 is_458 (by omega) (by omega) ?_)))))))
      rw [(g 458 (Or.inl rfl) (by omega)).1]
      refine w_istore4 dX10_exchanges_19 rfl (by decide) (w_aload0 dX10_exchanges_21 (wp_getr 458 dX10_exchanges_22 fl_RX10_46 is_445 rfl (wp_bipush dX10_exchanges_25 (by decide) (w_iload1 dX10_exchanges_27 (wp_imul dX10_exchanges_28 (w_iload3 dX10_exchanges_29 (wp_iadd dX10_exchanges_30 (w_aload0 dX10_exchanges_31 (wp_getr 458 dX10_exchanges_32 fl_RX10_46 is_445 rfl ?_)))))))))
      refine wp_bipush dX10_exchanges_35 (by decide) (w_iload2 dX10_exchanges_37 (wp_imul dX10_exchanges_38 (w_iload3 dX10_exchanges_39 (wp_iadd dX10_exchanges_40 (x_iald (8 * q + i) dX10_exchanges_41 is_458 (by omega) (by omega) ?_)))))
      rw [(g 458 (Or.inl rfl) (by omega)).2]
      refine x_iast (8 * r + i) dX10_exchanges_42 is_458 (by omega) (by omega) (w_aload0 dX10_exchanges_43 (wp_getr 458 dX10_exchanges_44 fl_RX10_46 is_445 rfl (wp_bipush dX10_exchanges_47 (by decide) (w_iload2 dX10_exchanges_49 (wp_imul dX10_exchanges_50 (w_iload3 dX10_exchanges_51 (wp_iadd dX10_exchanges_52 (w_iload4 dX10_exchanges_53 (x_iast (8 * q + i) dX10_exchanges_55 is_458 (by omega) (by omega) ?_)))))))))
      refine w_aload0 dX10_exchanges_56 (wp_getr 467 dX10_exchanges_57 fl_RX10_73 is_445 rfl (wp_bipush dX10_exchanges_60 (by decide) (w_iload1 dX10_exchanges_62 (wp_imul dX10_exchanges_63 (w_iload3 dX10_exchanges_64 (wp_iadd dX10_exchanges_65 (x_iald (8 * r + i) dX10_exchanges_66 is_467 (by omega) (by omega) ?_)))))))
      rw [zup_o (by omega), zup_o (by omega), (g 467 (Or.inr rfl) (by omega)).1]
      refine w_istore4 dX10_exchanges_67 rfl (by decide) (w_aload0 dX10_exchanges_69 (wp_getr 467 dX10_exchanges_70 fl_RX10_73 is_445 rfl (wp_bipush dX10_exchanges_73 (by decide) (w_iload1 dX10_exchanges_75 (wp_imul dX10_exchanges_76 (w_iload3 dX10_exchanges_77 (wp_iadd dX10_exchanges_78 (w_aload0 dX10_exchanges_79 (wp_getr 467 dX10_exchanges_80 fl_RX10_73 is_445 rfl ?_)))))))))
      refine wp_bipush dX10_exchanges_83 (by decide) (w_iload2 dX10_exchanges_85 (wp_imul dX10_exchanges_86 (w_iload3 dX10_exchanges_87 (wp_iadd dX10_exchanges_88 (x_iald (8 * q + i) dX10_exchanges_89 is_467 (by omega) (by omega) ?_)))))
      rw [zup_o (by omega), zup_o (by omega), (g 467 (Or.inr rfl) (by omega)).2]
      refine x_iast (8 * r + i) dX10_exchanges_90 is_467 (by omega) (by omega) (w_aload0 dX10_exchanges_91 (wp_getr 467 dX10_exchanges_92 fl_RX10_73 is_445 rfl (wp_bipush dX10_exchanges_95 (by decide) (w_iload2 dX10_exchanges_97 (wp_imul dX10_exchanges_98 (w_iload3 dX10_exchanges_99 (wp_iadd dX10_exchanges_100 (w_iload4 dX10_exchanges_101 (x_iast (8 * q + i) dX10_exchanges_103 is_467 (by omega) (by omega) ?_)))))))))
      refine w_iinc3 dX10_exchanges_104 rfl (by decide) (wp_goto 2 dX10_exchanges_107 rfl ?_)
      refine w_forget4 ?_
      refine ih2 _ (by omega) (i + 1) _ rfl (by omega) ?_
      have g1 := g 458 (Or.inl rfl) (by omega)
      have g2 := g 467 (Or.inr rfl) (by omega)
      funext b x
      by_cases e1 : b = 467 ∧ x = 8 * q + i
      · rw [e1.1, e1.2, zup_s]
        unfold zexh
        by_cases w : r = q
        · rw [if_pos (by omega), w, show 8 * q + (8 * q + i - 8 * q) = 8 * q + i by omega]
        · rw [if_neg (by omega), if_pos (by omega), show 8 * r + (8 * q + i - 8 * q) = 8 * r + i by omega]
      · rw [zup_o e1]
        by_cases e2 : b = 467 ∧ x = 8 * r + i
        · rw [e2.1, e2.2, zup_s]
          unfold zexh
          rw [if_pos (by omega), show 8 * q + (8 * r + i - 8 * r) = 8 * q + i by omega]
        · rw [zup_o e2]
          by_cases e3 : b = 458 ∧ x = 8 * q + i
          · rw [e3.1, e3.2, zup_s]
            unfold zexh
            by_cases w : r = q
            · rw [if_pos (by omega), w, show 8 * q + (8 * q + i - 8 * q) = 8 * q + i by omega]
            · rw [if_neg (by omega), if_pos (by omega), show 8 * r + (8 * q + i - 8 * q) = 8 * r + i by omega]
          · rw [zup_o e3]
            by_cases e4 : b = 458 ∧ x = 8 * r + i
            · rw [e4.1, e4.2, zup_s]
              unfold zexh
              rw [if_pos (by omega), show 8 * q + (8 * r + i - 8 * r) = 8 * q + i by omega]
            · rw [zup_o e4, hh]
              unfold zexh
              by_cases e5 : (b = 458 ∨ b = 467) ∧ 8 * r ≤ x ∧ x < 8 * r + i
              · rw [if_pos e5, if_pos (by omega)]
              · rw [if_neg e5]
                by_cases e6 : (b = 458 ∨ b = 467) ∧ 8 * q ≤ x ∧ x < 8 * q + i
                · rw [if_pos e6, if_neg (by omega), if_pos (by omega)]
                · rw [if_neg e6, if_neg (by omega), if_neg (by omega)]
  refine wp_iconst dX10_exchanges_0 (w_istore3 dX10_exchanges_1 rfl (by decide) ?_)
  exact L2 _ 0 _ rfl (Nat.zero_le _) (by funext b x; unfold zexh; rw [if_neg (by omega), if_neg (by omega)])
set_option maxRecDepth 100000 in
set_option maxHeartbeats 4000000 in
theorem t_X10_clears {h : zH} {bb cc p : Int} {b_ c s : Nat} (hb : bb = b_) (hc : cc = c) (hbs : b_ < s) (hcs : c < s) (hs8 : s ≤ 8) (h11 : h 445 11 = (s : Int)) (hp : 5 ≤ p ∧ p ≤ 31) (hp0 : h 446 0 = p) {W T : Nat → Nat → Int} (hW : zWT p s W T h) : CV yX10_clears mX10_clears [vR 445, vI bb, vI cc] h (fun h' => zFr zFex h h' ∧ zWT p s (zcl p (ztm p W b_ c) W b_) (zcl p (ztm p W b_ c) T b_) h') := by
  refine inV [some (vR 445), some (vI bb), some (vI cc), none, none, none, none] mvX10_clears rfl (Nat.le_of_ble_eq_true rfl) rfl ?_
  have hpp : 0 < p := by omega
  have hbc := (hW b_ hbs).1 c hcs
  have hib := zinvS_in (W b_ c) p (p.toNat - 1)
  have hib2 : 0 ≤ zinv (W b_ c) p ∧ zinv (W b_ c) p < p := ⟨hib.1, by unfold zinv; omega⟩
  have L21 : ∀ (zm21 : Nat) (r : Nat) (h' : zH) (vr : Int), s - r = zm21 → (b_ < r ∧ r ≤ s) → (vr = (r : Int)) → (zFr zFex h h') → (∀ i, i < s → (∀ q, q < s → h' 458 (8 * i + q) = if i < r then zcl p (ztm p W b_ c) W b_ i q else W i q) ∧ (∀ q, q < 8 → h' 467 (8 * i + q) = if i < r then zcl p (ztm p W b_ c) T b_ i q else T i q)) → WP mX10_clears (zMQ mX10_clears (zKV (fun h' => zFr zFex h h' ∧ zWT p s (zcl p (ztm p W b_ c) W b_) (zcl p (ztm p W b_ c) T b_) h'))) 21 [some (vR 445), some (vI bb), some (vI cc), some (vI (zinv (W b_ c) p)), some (vI vr), none, none] [] zN zGR h' := by
    intro zm21
    induction zm21 using Nat.strongRecOn with | _ zm21 ih21 => ?_
    intro r h' vr hzm21 hr hvr hF hA
    subst hzm21
    have k11 : h' 445 11 = (s : Int) := by rw [hF _ _ (by unfold zFex; omega)]; exact h11
    have k0 : h' 446 0 = p := by rw [hF _ _ (by unfold zFex; omega)]; exact hp0
    have L54 : ∀ (zm54 : Nat) (k : Nat) (h2 : zH), 8 - k = zm54 → (r < s) → (k ≤ 8) → (zFr zFex h h2) → ((∀ q, q < s → h2 458 (8 * r + q) = if q < k then (W r q - ztm p W b_ c r * W b_ q) % p else W r q) ∧ (∀ q, q < 8 → h2 467 (8 * r + q) = if q < k then (T r q - ztm p W b_ c r * T b_ q) % p else T r q)) → (∀ i, i < s → i ≠ r → (∀ q, q < s → h2 458 (8 * i + q) = if i < r then zcl p (ztm p W b_ c) W b_ i q else W i q) ∧ (∀ q, q < 8 → h2 467 (8 * i + q) = if i < r then zcl p (ztm p W b_ c) T b_ i q else T i q)) → WP mX10_clears (zMQ mX10_clears (zKV (fun h' => zFr zFex h h' ∧ zWT p s (zcl p (ztm p W b_ c) W b_) (zcl p (ztm p W b_ c) T b_) h'))) 54 [some (vR 445), some (vI bb), some (vI cc), some (vI (zinv (W b_ c) p)), some (vI vr), some (vI (ztm p W b_ c r)), some (vI (k : Int))] [] zN zGR h2 := by
      intro zm54
      induction zm54 using Nat.strongRecOn with | _ zm54 ih54 => ?_
      intro k h2 hzm54 hrs hk hF2 hB hC
      subst hzm54
      have k02 : h2 446 0 = p := by rw [hF2 _ _ (by unfold zFex; omega)]; exact hp0
      have htb : 0 ≤ ztm p W b_ c r ∧ ztm p W b_ c r < p := z_mod hpp _
      have eW : ∀ q, q < s → h2 458 (8 * b_ + q) = W b_ q := fun q hq => by
        rw [(hC b_ hbs (by omega)).1 q hq, if_pos hr.1]
        unfold zcl
        rw [if_neg (by omega)]
      have eT : ∀ q, q < 8 → h2 467 (8 * b_ + q) = T b_ q := fun q hq => by
        rw [(hC b_ hbs (by omega)).2 q hq, if_pos hr.1]
        unfold zcl
        rw [if_neg (by omega)]
      refine w_iload6 dX10_clears_54 (wp_bipush dX10_clears_56 (by decide) ?_)
      refine wp_icmp_ge 164 dX10_clears_58 rfl ⟨by omega, by omega⟩ ⟨by omega, by omega⟩ (fun c58 => ?_) (fun c58 => ?_)
      · skip
        refine w_iinc4 dX10_clears_164 rfl (by decide) (wp_goto 21 dX10_clears_167 rfl ?_)
        refine w_forget5 ?_
        refine w_forget6 ?_
        refine ih21 _ (by omega) (r + 1) _ _ rfl ⟨by omega, by omega⟩ (by omega) hF2 (fun i hi => ⟨fun q hq => ?_, fun q hq => ?_⟩)
        · by_cases w : i = r
          · rw [w, if_pos (by omega)]
            have e := (hB.1 q hq)
            rw [e]
            unfold zcl
            rw [if_pos hr.1]
            first
            | (rw [show k = 8 by omega, if_pos (by omega)]; done)
            | (have c9 : ztm p W b_ c r = 0 := c63
               rw [c9, Int.zero_mul, Int.sub_zero, ite_cases_m (Int.emod_eq_of_lt ((hW r hrs).1 q hq).2.1 ((hW r hrs).1 q hq).2.2)])
          · rw [(hC i hi w).1 q hq]
            by_cases w2 : i < r
            · rw [if_pos w2, if_pos (by omega)]
            · rw [if_neg w2, if_neg (by omega)]
        · by_cases w : i = r
          · rw [w, if_pos (by omega)]
            have e := (hB.2 q hq)
            rw [e]
            unfold zcl
            rw [if_pos hr.1]
            first
            | (rw [show k = 8 by omega, if_pos (by omega)]; done)
            | (have c9 : ztm p W b_ c r = 0 := c63
               rw [c9, Int.zero_mul, Int.sub_zero, ite_cases_m (Int.emod_eq_of_lt ((hW r hrs).2 q hq).2.1 ((hW r hrs).2 q hq).2.2)])
          · rw [(hC i hi w).2 q hq]
            by_cases w2 : i < r
            · rw [if_pos w2, if_pos (by omega)]
            · rw [if_neg w2, if_neg (by omega)]
      · skip
        refine w_iload5 dX10_clears_61 ?_
        refine wp_if_eq 164 dX10_clears_63 rfl (by have := z_mod hpp (W r c * zinv (W b_ c) p); unfold ztm; exact ⟨by omega, by omega⟩) (fun c63 => ?_) (fun c63 => ?_)
        · skip
          refine w_iinc4 dX10_clears_164 rfl (by decide) (wp_goto 21 dX10_clears_167 rfl ?_)
          refine w_forget5 ?_
          refine w_forget6 ?_
          refine ih21 _ (by omega) (r + 1) _ _ rfl ⟨by omega, by omega⟩ (by omega) hF2 (fun i hi => ⟨fun q hq => ?_, fun q hq => ?_⟩)
          · by_cases w : i = r
            · rw [w, if_pos (by omega)]
              have e := (hB.1 q hq)
              rw [e]
              unfold zcl
              rw [if_pos hr.1]
              first
              | (rw [show k = 8 by omega, if_pos (by omega)]; done)
              | (have c9 : ztm p W b_ c r = 0 := c63
                 rw [c9, Int.zero_mul, Int.sub_zero, ite_cases_m (Int.emod_eq_of_lt ((hW r hrs).1 q hq).2.1 ((hW r hrs).1 q hq).2.2)])
            · rw [(hC i hi w).1 q hq]
              by_cases w2 : i < r
              · rw [if_pos w2, if_pos (by omega)]
              · rw [if_neg w2, if_neg (by omega)]
          · by_cases w : i = r
            · rw [w, if_pos (by omega)]
              have e := (hB.2 q hq)
              rw [e]
              unfold zcl
              rw [if_pos hr.1]
              first
              | (rw [show k = 8 by omega, if_pos (by omega)]; done)
              | (have c9 : ztm p W b_ c r = 0 := c63
                 rw [c9, Int.zero_mul, Int.sub_zero, ite_cases_m (Int.emod_eq_of_lt ((hW r hrs).2 q hq).2.1 ((hW r hrs).2 q hq).2.2)])
            · rw [(hC i hi w).2 q hq]
              by_cases w2 : i < r
              · rw [if_pos w2, if_pos (by omega)]
              · rw [if_neg w2, if_neg (by omega)]
        · skip
          refine w_aload0 dX10_clears_66 (wp_getr 458 dX10_clears_67 fl_RX10_46 is_445 rfl (wp_bipush dX10_clears_70 (by decide) (w_iload4 dX10_clears_72 (wp_imul dX10_clears_74 (w_iload6 dX10_clears_75 (wp_iadd dX10_clears_77 (w_aload0 dX10_clears_78 (w_aload0 dX10_clears_79 (wp_getr 458 dX10_clears_80 fl_RX10_46 is_445 rfl ?_)))))))))
          refine wp_bipush dX10_clears_83 (by decide) (w_iload4 dX10_clears_85 (wp_imul dX10_clears_87 (w_iload6 dX10_clears_88 (wp_iadd dX10_clears_90 (x_iald (8 * r + k) dX10_clears_91 is_458 (by omega) (by omega) (w_iload5 dX10_clears_92 (w_aload0 dX10_clears_94 (wp_getr 458 dX10_clears_95 fl_RX10_46 is_445 rfl (wp_bipush dX10_clears_98 (by decide) ?_)))))))))
          refine w_iload1 dX10_clears_100 (wp_imul dX10_clears_101 (w_iload6 dX10_clears_102 (wp_iadd dX10_clears_104 (x_iald (8 * b_ + k) dX10_clears_105 is_458 (by omega) (by omega) (wp_imul dX10_clears_106 (wp_isub dX10_clears_107 ?_))))))
          apply v_i1 (M := mX10_clears) dX10_clears_108 lk_RX10_128 mvX10_mod (by decide) meX10_clears is_445 (Nat.le_of_ble_eq_true rfl)
          · exact t_X10_modA hp k02
          intro x108 h108 hP108
          obtain ⟨eh108, b108, r108⟩ := hP108
          replace eh108 := eh108.symm
          subst eh108
          have x108v : k < s → x108 = (W r k - ztm p W b_ c r * W b_ k) % p := fun w => by
            have e1 : h2 458 (8 * r + k) = W r k := by rw [hB.1 k w, if_neg (Nat.lt_irrefl k)]
            have e2 := eW k w
            have w1 := ((hW r hrs).1 k w).2
            have w2 := z_mb htb ((hW b_ hbs).1 k w).2 hp.2
            rw [e1, e2] at r108
            exact r108 ⟨by omega, by omega⟩
          have kT : zup h2 458 (8 * r + k) x108 467 (8 * r + k) = T r k := by rw [zup_o (by omega), hB.2 k (by omega), if_neg (Nat.lt_irrefl k)]
          have kTb : zup h2 458 (8 * r + k) x108 467 (8 * b_ + k) = T b_ k := by rw [zup_o (by omega)]; exact eT k (by omega)
          have hTk0 := ((hW r hrs).2 k (by omega)).2
          have hTb0 := ((hW b_ hbs).2 k (by omega)).2
          have hTm := z_mb htb hTb0 hp.2
          refine x_iast (8 * r + k) dX10_clears_111 is_458 (by omega) (by omega) (w_aload0 dX10_clears_112 (wp_getr 467 dX10_clears_113 fl_RX10_73 is_445 rfl (wp_bipush dX10_clears_116 (by decide) (w_iload4 dX10_clears_118 (wp_imul dX10_clears_120 (w_iload6 dX10_clears_121 (wp_iadd dX10_clears_123 (w_aload0 dX10_clears_124 (w_aload0 dX10_clears_125 ?_)))))))))
          refine wp_getr 467 dX10_clears_126 fl_RX10_73 is_445 rfl (wp_bipush dX10_clears_129 (by decide) (w_iload4 dX10_clears_131 (wp_imul dX10_clears_133 (w_iload6 dX10_clears_134 (wp_iadd dX10_clears_136 (x_iald (8 * r + k) dX10_clears_137 is_467 (by omega) (by omega) ?_))))))
          rw [kT]
          refine w_iload5 dX10_clears_138 (w_aload0 dX10_clears_140 (wp_getr 467 dX10_clears_141 fl_RX10_73 is_445 rfl (wp_bipush dX10_clears_144 (by decide) (w_iload1 dX10_clears_146 (wp_imul dX10_clears_147 (w_iload6 dX10_clears_148 (wp_iadd dX10_clears_150 (x_iald (8 * b_ + k) dX10_clears_151 is_467 (by omega) (by omega) ?_))))))))
          rw [kTb]
          refine wp_imul dX10_clears_152 (wp_isub dX10_clears_153 ?_)
          apply v_i1 (M := mX10_clears) dX10_clears_154 lk_RX10_128 mvX10_mod (by decide) meX10_clears is_445 (Nat.le_of_ble_eq_true rfl)
          · exact t_X10_mod ⟨by omega, by omega⟩ hp (by rw [zup_o (by omega)]; exact k02)
          intro x154 h154 hP154
          obtain ⟨eh154, ex154⟩ := hP154
          replace eh154 := eh154.symm
          subst eh154
          replace ex154 := ex154.symm
          subst ex154
          refine x_iast (8 * r + k) dX10_clears_157 is_467 (by omega) (by omega) (w_iinc6 dX10_clears_158 rfl (by decide) (wp_goto 54 dX10_clears_161 rfl ?_))
          have hTk := ((hW r hrs).2 k (by omega)).2
          have hTb := ((hW b_ hbs).2 k (by omega)).2
          refine ih54 _ (by omega) (k + 1) _ rfl hrs (by omega) ((hF2.up (Or.inl rfl)).up (Or.inr rfl)) ⟨fun q hq => ?_, fun q hq => ?_⟩ (fun i hi hne => ⟨fun q hq => ?_, fun q hq => ?_⟩)
          · rw [zup_o (by omega)]
            by_cases w : q = k
            · rw [w, zup_s, if_pos (by omega), x108v (by omega)]
            · rw [zup_o (by omega), hB.1 q hq]
              by_cases w2 : q < k
              · rw [if_pos w2, if_pos (by omega)]
              · rw [if_neg w2, if_neg (by omega)]
          · by_cases w : q = k
            · rw [w, zup_s, if_pos (by omega)]
            · rw [zup_o (by omega), zup_o (by omega), hB.2 q hq]
              by_cases w2 : q < k
              · rw [if_pos w2, if_pos (by omega)]
              · rw [if_neg w2, if_neg (by omega)]
          · rw [zup_o (by omega), zup_o (by omega)]
            exact (hC i hi hne).1 q hq
          · rw [zup_o (by omega), zup_o (by omega)]
            exact (hC i hi hne).2 q hq
    refine w_iload4 dX10_clears_21 (w_aload0 dX10_clears_23 (wp_geti dX10_clears_24 fl_RX10_186 is_445 ?_))
    rw [k11]
    refine wp_icmp_ge 170 dX10_clears_27 rfl ⟨by omega, by omega⟩ ⟨by omega, by omega⟩ (fun c27 => ?_) (fun c27 => ?_)
    · skip
      refine r_v dX10_clears_170 rfl meX10_clears ?_
      refine ⟨hF, fun i hi => ⟨fun q hq => ⟨?_, ?_⟩, fun q hq => ⟨?_, ?_⟩⟩⟩
      · rw [(hA i hi).1 q hq, if_pos (by omega)]
      · unfold zcl
        split
        · exact z_mod hpp _
        · exact ((hW i hi).1 q hq).2
      · rw [(hA i hi).2 q hq, if_pos (by omega)]
      · unfold zcl
        split
        · exact z_mod hpp _
        · exact ((hW i hi).2 q hq).2
    · skip
      refine w_aload0 dX10_clears_30 (wp_getr 458 dX10_clears_31 fl_RX10_46 is_445 rfl (wp_bipush dX10_clears_34 (by decide) (w_iload4 dX10_clears_36 (wp_imul dX10_clears_38 (w_iload2 dX10_clears_39 (wp_iadd dX10_clears_40 (x_iald (8 * r + c) dX10_clears_41 is_458 (by omega) (by omega) ?_)))))))
      rw [(hA r (by omega)).1 c hcs, if_neg (Nat.lt_irrefl r)]
      have hrc := ((hW r (by omega)).1 c hcs).2
      have hmm := z_mb hrc hib2 hp.2
      refine w_iload3 dX10_clears_42 (wp_imul dX10_clears_43 (w_aload0 dX10_clears_44 ?_))
      apply v_i0 (M := mX10_clears) dX10_clears_45 lk_RX10_76 mvX10_p (by decide) meX10_clears is_445 (Nat.le_of_ble_eq_true rfl)
      · exact t_X10_p k0
      intro x45 h45 hP45
      obtain ⟨eh45, ex45⟩ := hP45
      replace eh45 := eh45.symm
      subst eh45
      replace ex45 := ex45.symm
      subst ex45
      refine wp_irem dX10_clears_48 (by omega) (by omega) (w_istore5 dX10_clears_49 rfl (by decide) (wp_iconst dX10_clears_51 (w_istore6 dX10_clears_52 rfl (by decide) ?_)))
      refine L54 _ 0 _ rfl (by omega) (Nat.zero_le _) hF ⟨fun q hq => ?_, fun q hq => ?_⟩ (fun i hi _ => hA i hi)
      · rw [(hA r (by omega)).1 q hq, if_neg (Nat.lt_irrefl r), if_neg (Nat.not_lt_zero q)]
      · rw [(hA r (by omega)).2 q hq, if_neg (Nat.lt_irrefl r), if_neg (Nat.not_lt_zero q)]
  refine w_aload0 dX10_clears_0 (w_aload0 dX10_clears_1 (wp_getr 458 dX10_clears_2 fl_RX10_46 is_445 rfl (wp_bipush dX10_clears_5 (by decide) (w_iload1 dX10_clears_7 (wp_imul dX10_clears_8 (w_iload2 dX10_clears_9 (wp_iadd dX10_clears_10 (x_iald (8 * b_ + c) dX10_clears_11 is_458 (by omega) (by omega) ?_))))))))
  rw [hbc.1]
  apply v_i1 (M := mX10_clears) dX10_clears_12 lk_RX10_198 mvX10_inverse (by decide) meX10_clears is_445 (Nat.le_of_ble_eq_true rfl)
  · exact t_X10_inverse ⟨by omega, by omega⟩ hp hp0
  intro x12 h12 hP12
  obtain ⟨eh12, ex12⟩ := hP12
  replace eh12 := eh12.symm
  subst eh12
  replace ex12 := ex12.symm
  subst ex12
  refine w_istore3 dX10_clears_15 rfl (by decide) (w_iload1 dX10_clears_16 (wp_iconst dX10_clears_17 (wp_iadd dX10_clears_18 (w_istore4 dX10_clears_19 rfl (by decide) ?_))))
  refine L21 _ (b_ + 1) _ _ rfl ⟨by omega, by omega⟩ (by omega) zFr.rf (fun i hi => ⟨fun q hq => ?_, fun q hq => ?_⟩)
  · rw [((hW i hi).1 q hq).1]
    unfold zcl
    split
    · rw [if_neg (by omega)]
    · rfl
  · rw [((hW i hi).2 q hq).1]
    unfold zcl
    split
    · rw [if_neg (by omega)]
    · rfl
