
theorem zGe_n {p : Int} {s : Nat} {V : Nat → Nat → Int} {c l : Nat} (hl : zld (fun r => (zGe p s V c).2.1 r c) (s - (zGe p s V c).1) (zGe p s V c).1 = l) (h : ¬ l < s) : zGe p s V (c + 1) = zGe p s V c := by
  subst hl
  exact if_neg h
theorem zGe_y {p : Int} {s : Nat} {V : Nat → Nat → Int} {c l : Nat} (hl : zld (fun r => (zGe p s V c).2.1 r c) (s - (zGe p s V c).1) (zGe p s V c).1 = l) (h : l < s) : zGe p s V (c + 1) = ((zGe p s V c).1 + 1, zcl p (ztm p (zexr (zGe p s V c).2.1 l (zGe p s V c).1) (zGe p s V c).1 c) (zexr (zGe p s V c).2.1 l (zGe p s V c).1) (zGe p s V c).1, zcl p (ztm p (zexr (zGe p s V c).2.1 l (zGe p s V c).1) (zGe p s V c).1 c) (zexr (zGe p s V c).2.2 l (zGe p s V c).1) (zGe p s V c).1) := by
  subst hl
  exact if_pos h
theorem zGe_le {p : Int} {s : Nat} {V : Nat → Nat → Int} : ∀ c, (zGe p s V c).1 ≤ c := by
  intro c
  induction c with
  | zero => exact Nat.le_refl _
  | succ c ih =>
    by_cases h : zld (fun r => (zGe p s V c).2.1 r c) (s - (zGe p s V c).1) (zGe p s V c).1 < s
    · rw [zGe_y rfl h]
      exact Nat.succ_le_succ ih
    · rw [zGe_n rfl h]
      exact Nat.le_succ_of_le ih
theorem zWT_ex {p : Int} {s r q : Nat} {W T : Nat → Nat → Int} {h : zH} (H : zWT p s W T h) (hr : r < s) (hq : q < s) (hs8 : s ≤ 8) : zWT p s (zexr W r q) (zexr T r q) (zexh h r q 8) := by
  have hx : ∀ (a : Nat) (X : Nat → Nat → Int) (i j : Nat), (a = 458 ∨ a = 467) → j < 8 → i < s → h a (8 * i + j) = X i j → h a (8 * r + j) = X r j → h a (8 * q + j) = X q j → zexh h r q 8 a (8 * i + j) = zexr X r q i j := by
    intro a X i j ha hj hi e1 e2 e3
    unfold zexh zexr
    by_cases w : i = r
    · rw [if_pos (by omega), if_pos w, show 8 * q + (8 * i + j - 8 * r) = 8 * q + j by omega, e3]
    · rw [if_neg (by omega), if_neg w]
      by_cases w2 : i = q
      · rw [if_pos (by omega), if_pos w2, show 8 * r + (8 * i + j - 8 * q) = 8 * r + j by omega, e2]
      · rw [if_neg (by omega), if_neg w2, e1]
  have hb : ∀ (X : Nat → Nat → Int) (i j : Nat), (0 ≤ X i j ∧ X i j < p) → (0 ≤ X r j ∧ X r j < p) → (0 ≤ X q j ∧ X q j < p) → 0 ≤ zexr X r q i j ∧ zexr X r q i j < p := by
    intro X i j e1 e2 e3
    unfold zexr
    split
    · exact e3
    · split
      · exact e2
      · exact e1
  exact fun i hi => ⟨fun j hj => ⟨hx 458 W i j (Or.inl rfl) (by omega) hi ((H i hi).1 j hj).1 ((H r hr).1 j hj).1 ((H q hq).1 j hj).1, hb W i j ((H i hi).1 j hj).2 ((H r hr).1 j hj).2 ((H q hq).1 j hj).2⟩, fun j hj => ⟨hx 467 T i j (Or.inr rfl) hj hi ((H i hi).2 j hj).1 ((H r hr).2 j hj).1 ((H q hq).2 j hj).1, hb T i j ((H i hi).2 j hj).2 ((H r hr).2 j hj).2 ((H q hq).2 j hj).2⟩⟩
theorem zWT_fr {p : Int} {s : Nat} {W T : Nat → Nat → Int} {h h' : zH} (H : zWT p s W T h) (e : ∀ a j, a = 458 ∨ a = 467 → h' a j = h a j) : zWT p s W T h' := fun i hi => ⟨fun j hj => by rw [e _ _ (Or.inl rfl)]; exact (H i hi).1 j hj, fun j hj => by rw [e _ _ (Or.inr rfl)]; exact (H i hi).2 j hj⟩
def zFke (a j : Nat) : Prop := a = 458 ∨ a = 467 ∨ a = 466
/-- the model's relation of the rows at t -/
def zmre (p : Int) (s : Nat) (E : Nat → Nat → Int) (t : Int) : Nat → Int := (zGe p s (zRV p E t) s).2.2 (s - 1)

set_option maxRecDepth 100000 in
set_option maxHeartbeats 4000000 in
theorem t_X10_findsKernel {h : zH} {t p : Int} (ht : 0 ≤ t ∧ t < p) (hp : 5 ≤ p ∧ p ≤ 31) (hp0 : h 446 0 = p) {s : Nat} (hs8 : s ≤ 8) (h11 : h 445 11 = (s : Int)) {E : Nat → Nat → Int} (hE : ∀ r, r < s → ∀ q, q < s → ∀ e, e < 7 → h 454 ((8 * r + q) * 7 + e) = E (8 * r + q) e ∧ 0 ≤ E (8 * r + q) e ∧ E (8 * r + q) e < p) : CV yX10_findsKernel mX10_findsKernel [vR 445, vI t] h (fun h' => zFr zFke h h' ∧ ∀ k, k < s → h' 466 k = zmre p s E t k ∧ 0 ≤ zmre p s E t k ∧ zmre p s E t k < p) := by
  refine inV [some (vR 445), some (vI t), none, none, none] mvX10_findsKernel rfl (Nat.le_of_ble_eq_true rfl) rfl ?_
  have hpp : 0 < p := by omega
  have L120 : ∀ (zm120 : Nat) (k : Nat) (h' : zH), s - k = zm120 → (k ≤ s) → (zFr zFke h h') → (zWT p s (zGe p s (zRV p E t) s).2.1 (zGe p s (zRV p E t) s).2.2 h') → (∀ q, q < k → h' 466 q = zmre p s E t q ∧ 0 ≤ zmre p s E t q ∧ zmre p s E t q < p) → WP mX10_findsKernel (zMQ mX10_findsKernel (zKV (fun h' => zFr zFke h h' ∧ ∀ k, k < s → h' 466 k = zmre p s E t k ∧ 0 ≤ zmre p s E t k ∧ zmre p s E t k < p))) 120 [some (vR 445), none, none, some (vI (k : Int)), none] [] zN zGR h' := by
    intro zm120
    induction zm120 using Nat.strongRecOn with | _ zm120 ih120 => ?_
    intro k h' hzm120 hk hF hWT hR
    subst hzm120
    have k11 : h' 445 11 = (s : Int) := by rw [hF _ _ (by unfold zFke; omega)]; exact h11
    refine w_iload3 dX10_findsKernel_120 (w_aload0 dX10_findsKernel_121 (wp_geti dX10_findsKernel_122 fl_RX10_186 is_445 ?_))
    rw [k11]
    refine wp_icmp_ge 156 dX10_findsKernel_125 rfl ⟨by omega, by omega⟩ ⟨by omega, by omega⟩ (fun c125 => ?_) (fun c125 => ?_)
    · skip
      refine r_v dX10_findsKernel_156 rfl meX10_findsKernel ?_
      exact ⟨hF, fun q hq => hR q (by omega)⟩
    · skip
      refine w_aload0 dX10_findsKernel_128 (wp_getr 466 dX10_findsKernel_129 fl_RX10_70 is_445 rfl (w_iload3 dX10_findsKernel_132 (w_aload0 dX10_findsKernel_133 (wp_getr 467 dX10_findsKernel_134 fl_RX10_73 is_445 rfl (wp_bipush dX10_findsKernel_137 (by decide) (w_aload0 dX10_findsKernel_139 (wp_geti dX10_findsKernel_140 fl_RX10_186 is_445 ?_)))))))
      rw [k11]
      refine wp_iconst dX10_findsKernel_143 (wp_isub dX10_findsKernel_144 (wp_imul dX10_findsKernel_145 (w_iload3 dX10_findsKernel_146 (wp_iadd dX10_findsKernel_147 (x_iald (8 * (s - 1) + k) dX10_findsKernel_148 is_467 (by omega) (by omega) ?_)))))
      have hTk := (hWT (s - 1) (by omega)).2 k (by omega)
      rw [hTk.1]
      refine x_iast k dX10_findsKernel_149 is_466 rfl (by omega) (w_iinc3 dX10_findsKernel_150 rfl (by decide) (wp_goto 120 dX10_findsKernel_153 rfl ?_))
      refine ih120 _ (by omega) (k + 1) _ rfl (by omega) (hF.up (Or.inr (Or.inr rfl))) (zWT_fr hWT (fun a j ha => zup_o (by omega))) (fun q hq => ?_)
      by_cases w : q = k
      · rw [w, zup_s]
        exact ⟨rfl, hTk.2⟩
      · rw [zup_o (by omega)]
        exact hR q (by omega)
  have L46 : ∀ (zm46 : Nat) (c : Nat) (h' : zH) (d vc : Int), s - c = zm46 → (c ≤ s) → (d = ((zGe p s (zRV p E t) c).1 : Int)) → (vc = (c : Int)) → (zFr zFke h h') → (zWT p s (zGe p s (zRV p E t) c).2.1 (zGe p s (zRV p E t) c).2.2 h') → WP mX10_findsKernel (zMQ mX10_findsKernel (zKV (fun h' => zFr zFke h h' ∧ ∀ k, k < s → h' 466 k = zmre p s E t k ∧ 0 ≤ zmre p s E t k ∧ zmre p s E t k < p))) 46 [some (vR 445), some (vI t), some (vI d), some (vI vc), none] [] zN zGR h' := by
    intro zm46
    induction zm46 using Nat.strongRecOn with | _ zm46 ih46 => ?_
    intro c h' d vc hzm46 hc hd hvc hF hWT
    subst hzm46
    have k11 : h' 445 11 = (s : Int) := by rw [hF _ _ (by unfold zFke; omega)]; exact h11
    have k0 : h' 446 0 = p := by rw [hF _ _ (by unfold zFke; omega)]; exact hp0
    have hdc := zGe_le (p := p) (s := s) (V := zRV p E t) c
    have L57 : ∀ (zm57 : Nat) (r : Nat) (vr : Int), s - r = zm57 → (c < s) → ((zGe p s (zRV p E t) c).1 ≤ r ∧ r ≤ s) → (vr = (r : Int)) → (zld (fun r => (zGe p s (zRV p E t) c).2.1 r c) (s - (zGe p s (zRV p E t) c).1) (zGe p s (zRV p E t) c).1 = zld (fun r => (zGe p s (zRV p E t) c).2.1 r c) (s - r) r) → WP mX10_findsKernel (zMQ mX10_findsKernel (zKV (fun h' => zFr zFke h h' ∧ ∀ k, k < s → h' 466 k = zmre p s E t k ∧ 0 ≤ zmre p s E t k ∧ zmre p s E t k < p))) 57 [some (vR 445), some (vI t), some (vI d), some (vI vc), some (vI vr)] [] zN zGR h' := by
      intro zm57
      induction zm57 using Nat.strongRecOn with | _ zm57 ih57 => ?_
      intro r vr hzm57 hcs hr hvr hz
      subst hzm57
      refine w_iload4 dX10_findsKernel_57 (w_aload0 dX10_findsKernel_59 (wp_geti dX10_findsKernel_60 fl_RX10_186 is_445 ?_))
      rw [k11]
      refine wp_icmp_ge 87 dX10_findsKernel_63 rfl ⟨by omega, by omega⟩ ⟨by omega, by omega⟩ (fun c63 => ?_) (fun c63 => ?_)
      · skip
        refine w_iload4 dX10_findsKernel_87 (w_aload0 dX10_findsKernel_89 (wp_geti dX10_findsKernel_90 fl_RX10_186 is_445 ?_))
        rw [k11]
        refine wp_icmp_ge 112 dX10_findsKernel_93 rfl ⟨by omega, by omega⟩ ⟨by omega, by omega⟩ (fun c93 => ?_) (fun c93 => ?_)
        · skip
          refine w_iinc3 dX10_findsKernel_112 rfl (by decide) (wp_goto 46 dX10_findsKernel_115 rfl ?_)
          refine w_forget4 ?_
          first
          | (exfalso; omega)
          | (have c9 : ¬ r < s := by omega
             have c8 : r = s := by omega
             rw [c8, Nat.sub_self] at hz
             have e9 := zGe_n hz (Nat.lt_irrefl s)
             refine ih46 _ (by omega) (c + 1) _ _ _ rfl (by omega) (by rw [e9]; exact hd) (by omega) hF ?_
             rw [e9]
             exact hWT)
          | (have c9 : r < s := by omega
             have hl : zld (fun r => (zGe p s (zRV p E t) c).2.1 r c) (s - (zGe p s (zRV p E t) c).1) (zGe p s (zRV p E t) c).1 = r := by
               rw [hz, show s - r = (s - r - 1) + 1 by omega]
               exact if_pos c78
             have e9 := zGe_y hl c9
             refine ih46 _ (by omega) (c + 1) _ _ _ rfl (by omega) (by rw [e9, hd]; rfl) (by omega) hF106 ?_
             rw [e9]
             exact g106)
        · skip
          refine w_aload0 dX10_findsKernel_96 (w_iload4 dX10_findsKernel_97 (w_iload2 dX10_findsKernel_99 ?_))
          apply v_v2 (M := mX10_findsKernel) dX10_findsKernel_100 lk_RX10_290 mvX10_exchanges (by decide) meX10_findsKernel is_445 (Nat.le_of_ble_eq_true rfl)
          · exact t_X10_exchanges (r := r) (q := (zGe p s (zRV p E t) c).1) hvr hd (by omega) (by omega)
          intro h100 hP100
          subst hP100
          have x100 := zWT_ex hWT (show r < s by omega) (show (zGe p s (zRV p E t) c).1 < s by omega) hs8
          refine w_aload0 dX10_findsKernel_103 (w_iload2 dX10_findsKernel_104 (w_iload3 dX10_findsKernel_105 ?_))
          apply v_v2 (M := mX10_findsKernel) dX10_findsKernel_106 lk_RX10_294 mvX10_clears (by decide) meX10_findsKernel is_445 (Nat.le_of_ble_eq_true rfl)
          · exact t_X10_clears (b_ := (zGe p s (zRV p E t) c).1) (c := c) hd hvc (by omega) hcs hs8 (by unfold zexh; rw [if_neg (by omega), if_neg (by omega)]; exact k11) hp (by unfold zexh; rw [if_neg (by omega), if_neg (by omega)]; exact k0) x100
          intro h106 hP106
          obtain ⟨f106, g106⟩ := hP106
          have hF106 : zFr zFke h h106 := fun a j n => by
            rw [f106 a j (fun w => n (w.elim Or.inl (fun w2 => Or.inr (Or.inl w2))))]
            unfold zFke at n
            unfold zexh
            rw [if_neg (by omega), if_neg (by omega)]
            exact hF a j n
          refine w_iinc2 dX10_findsKernel_109 rfl (by decide) (w_iinc3 dX10_findsKernel_112 rfl (by decide) (wp_goto 46 dX10_findsKernel_115 rfl ?_))
          refine w_forget4 ?_
          first
          | (exfalso; omega)
          | (have c9 : ¬ r < s := by omega
             have c8 : r = s := by omega
             rw [c8, Nat.sub_self] at hz
             have e9 := zGe_n hz (Nat.lt_irrefl s)
             refine ih46 _ (by omega) (c + 1) _ _ _ rfl (by omega) (by rw [e9]; exact hd) (by omega) hF ?_
             rw [e9]
             exact hWT)
          | (have c9 : r < s := by omega
             have hl : zld (fun r => (zGe p s (zRV p E t) c).2.1 r c) (s - (zGe p s (zRV p E t) c).1) (zGe p s (zRV p E t) c).1 = r := by
               rw [hz, show s - r = (s - r - 1) + 1 by omega]
               exact if_pos c78
             have e9 := zGe_y hl c9
             refine ih46 _ (by omega) (c + 1) _ _ _ rfl (by omega) (by rw [e9, hd]; rfl) (by omega) hF106 ?_
             rw [e9]
             exact g106)
      · skip
        refine w_aload0 dX10_findsKernel_66 (wp_getr 458 dX10_findsKernel_67 fl_RX10_46 is_445 rfl (wp_bipush dX10_findsKernel_70 (by decide) (w_iload4 dX10_findsKernel_72 (wp_imul dX10_findsKernel_74 (w_iload3 dX10_findsKernel_75 (wp_iadd dX10_findsKernel_76 (x_iald (8 * r + c) dX10_findsKernel_77 is_458 (by omega) (by omega) ?_)))))))
        rw [((hWT r (by omega)).1 c hcs).1]
        have hWb := ((hWT r (by omega)).1 c hcs).2
        refine wp_if_ne 87 dX10_findsKernel_78 rfl ⟨by omega, by omega⟩ (fun c78 => ?_) (fun c78 => ?_)
        · skip
          refine w_iload4 dX10_findsKernel_87 (w_aload0 dX10_findsKernel_89 (wp_geti dX10_findsKernel_90 fl_RX10_186 is_445 ?_))
          rw [k11]
          refine wp_icmp_ge 112 dX10_findsKernel_93 rfl ⟨by omega, by omega⟩ ⟨by omega, by omega⟩ (fun c93 => ?_) (fun c93 => ?_)
          · skip
            refine w_iinc3 dX10_findsKernel_112 rfl (by decide) (wp_goto 46 dX10_findsKernel_115 rfl ?_)
            refine w_forget4 ?_
            first
            | (exfalso; omega)
            | (have c9 : ¬ r < s := by omega
               have c8 : r = s := by omega
               rw [c8, Nat.sub_self] at hz
               have e9 := zGe_n hz (Nat.lt_irrefl s)
               refine ih46 _ (by omega) (c + 1) _ _ _ rfl (by omega) (by rw [e9]; exact hd) (by omega) hF ?_
               rw [e9]
               exact hWT)
            | (have c9 : r < s := by omega
               have hl : zld (fun r => (zGe p s (zRV p E t) c).2.1 r c) (s - (zGe p s (zRV p E t) c).1) (zGe p s (zRV p E t) c).1 = r := by
                 rw [hz, show s - r = (s - r - 1) + 1 by omega]
                 exact if_pos c78
               have e9 := zGe_y hl c9
               refine ih46 _ (by omega) (c + 1) _ _ _ rfl (by omega) (by rw [e9, hd]; rfl) (by omega) hF106 ?_
               rw [e9]
               exact g106)
          · skip
            refine w_aload0 dX10_findsKernel_96 (w_iload4 dX10_findsKernel_97 (w_iload2 dX10_findsKernel_99 ?_))
            apply v_v2 (M := mX10_findsKernel) dX10_findsKernel_100 lk_RX10_290 mvX10_exchanges (by decide) meX10_findsKernel is_445 (Nat.le_of_ble_eq_true rfl)
            · exact t_X10_exchanges (r := r) (q := (zGe p s (zRV p E t) c).1) hvr hd (by omega) (by omega)
            intro h100 hP100
            subst hP100
            have x100 := zWT_ex hWT (show r < s by omega) (show (zGe p s (zRV p E t) c).1 < s by omega) hs8
            refine w_aload0 dX10_findsKernel_103 (w_iload2 dX10_findsKernel_104 (w_iload3 dX10_findsKernel_105 ?_))
            apply v_v2 (M := mX10_findsKernel) dX10_findsKernel_106 lk_RX10_294 mvX10_clears (by decide) meX10_findsKernel is_445 (Nat.le_of_ble_eq_true rfl)
            · exact t_X10_clears (b_ := (zGe p s (zRV p E t) c).1) (c := c) hd hvc (by omega) hcs hs8 (by unfold zexh; rw [if_neg (by omega), if_neg (by omega)]; exact k11) hp (by unfold zexh; rw [if_neg (by omega), if_neg (by omega)]; exact k0) x100
            intro h106 hP106
            obtain ⟨f106, g106⟩ := hP106
            have hF106 : zFr zFke h h106 := fun a j n => by
              rw [f106 a j (fun w => n (w.elim Or.inl (fun w2 => Or.inr (Or.inl w2))))]
              unfold zFke at n
              unfold zexh
              rw [if_neg (by omega), if_neg (by omega)]
              exact hF a j n
            refine w_iinc2 dX10_findsKernel_109 rfl (by decide) (w_iinc3 dX10_findsKernel_112 rfl (by decide) (wp_goto 46 dX10_findsKernel_115 rfl ?_))
            refine w_forget4 ?_
            first
            | (exfalso; omega)
            | (have c9 : ¬ r < s := by omega
               have c8 : r = s := by omega
               rw [c8, Nat.sub_self] at hz
               have e9 := zGe_n hz (Nat.lt_irrefl s)
               refine ih46 _ (by omega) (c + 1) _ _ _ rfl (by omega) (by rw [e9]; exact hd) (by omega) hF ?_
               rw [e9]
               exact hWT)
            | (have c9 : r < s := by omega
               have hl : zld (fun r => (zGe p s (zRV p E t) c).2.1 r c) (s - (zGe p s (zRV p E t) c).1) (zGe p s (zRV p E t) c).1 = r := by
                 rw [hz, show s - r = (s - r - 1) + 1 by omega]
                 exact if_pos c78
               have e9 := zGe_y hl c9
               refine ih46 _ (by omega) (c + 1) _ _ _ rfl (by omega) (by rw [e9, hd]; rfl) (by omega) hF106 ?_
               rw [e9]
               exact g106)
        · skip
          refine w_iinc4 dX10_findsKernel_81 rfl (by decide) (wp_goto 57 dX10_findsKernel_84 rfl ?_)
          refine ih57 _ (by omega) (r + 1) _ rfl (by omega) (by omega) (by omega) (hz.trans ?_)
          rw [show s - r = (s - (r + 1)) + 1 by omega]
          exact if_neg (by intro w; exact w (by assumption))
    refine w_iload3 dX10_findsKernel_46 (w_aload0 dX10_findsKernel_47 (wp_geti dX10_findsKernel_48 fl_RX10_186 is_445 ?_))
    rw [k11]
    refine wp_icmp_ge 118 dX10_findsKernel_51 rfl ⟨by omega, by omega⟩ ⟨by omega, by omega⟩ (fun c51 => ?_) (fun c51 => ?_)
    · skip
      refine wp_iconst dX10_findsKernel_118 (w_istore3 dX10_findsKernel_119 rfl (by decide) ?_)
      refine w_forget1 ?_
      refine w_forget2 ?_
      have e9 : c = s := by omega
      rw [e9] at hWT
      exact L120 _ 0 _ rfl (Nat.zero_le _) hF hWT (fun q hq => absurd hq (Nat.not_lt_zero q))
    · skip
      refine w_iload2 dX10_findsKernel_54 (w_istore4 dX10_findsKernel_55 rfl (by decide) ?_)
      exact L57 _ _ _ rfl (by omega) ⟨Nat.le_refl _, by omega⟩ hd rfl
  have L8 : ∀ (zm8 : Nat) (k : Nat) (h' : zH) (vk : Int), 64 - k = zm8 → (k ≤ 64) → (vk = (k : Int)) → (zFr zFke h h') → (∀ r, r < s → ∀ q, q < s → h' 458 (8 * r + q) = zRV p E t r q) → (∀ r q, q < 8 → 8 * r + q < k → h' 467 (8 * r + q) = if r = q then 1 else 0) → WP mX10_findsKernel (zMQ mX10_findsKernel (zKV (fun h' => zFr zFke h h' ∧ ∀ k, k < s → h' 466 k = zmre p s E t k ∧ 0 ≤ zmre p s E t k ∧ zmre p s E t k < p))) 8 [some (vR 445), some (vI t), some (vI vk), none, none] [] zN zGR h' := by
    intro zm8
    induction zm8 using Nat.strongRecOn with | _ zm8 ih8 => ?_
    intro k h' vk hzm8 hk hvk hF hW hT
    subst hzm8
    have L35 : ∀ (v : Int), (k < 64) → (v = if k / 8 = k % 8 then 1 else 0) → WP mX10_findsKernel (zMQ mX10_findsKernel (zKV (fun h' => zFr zFke h h' ∧ ∀ k, k < s → h' 466 k = zmre p s E t k ∧ 0 ≤ zmre p s E t k ∧ zmre p s E t k < p))) 35 [some (vR 445), some (vI t), some (vI vk), none, none] [vI v, vI vk, vR 467] zN zGR h' := by
      intro v hk64 hv
      refine x_iast k dX10_findsKernel_35 is_467 (by omega) (by omega) (w_iinc2 dX10_findsKernel_36 rfl (by decide) (wp_goto 8 dX10_findsKernel_39 rfl ?_))
      refine ih8 _ (by omega) (k + 1) _ _ rfl (by omega) (by omega) (hF.up (Or.inr (Or.inl rfl))) (fun r hr q hq => by rw [zup_o (by omega)]; exact hW r hr q hq) (fun r q hq w => ?_)
      by_cases e : 8 * r + q = k
      · rw [e, zup_s, hv]
        by_cases e2 : r = q
        · rw [if_pos e2, if_pos (by omega)]
        · rw [if_neg e2, if_neg (by omega)]
      · rw [zup_o (by omega)]
        exact hT r q hq (by omega)
    refine w_iload2 dX10_findsKernel_8 (wp_bipush dX10_findsKernel_9 (by decide) ?_)
    refine wp_icmp_ge 42 dX10_findsKernel_11 rfl ⟨by omega, by omega⟩ ⟨by omega, by omega⟩ (fun c11 => ?_) (fun c11 => ?_)
    · skip
      refine wp_iconst dX10_findsKernel_42 (w_istore2 dX10_findsKernel_43 rfl (by decide) (wp_iconst dX10_findsKernel_44 (w_istore3 dX10_findsKernel_45 rfl (by decide) ?_)))
      refine L46 _ 0 _ _ _ rfl (Nat.zero_le _) rfl rfl hF (fun i hi => ⟨fun q hq => ⟨hW i hi q hq, ?_⟩, fun q hq => ⟨hT i q hq (by omega), ?_⟩⟩)
      · exact zhor_in hpp 7 _
      · show 0 ≤ (if i = q then (1 : Int) else 0) ∧ (if i = q then (1 : Int) else 0) < p
        split <;> omega
    · skip
      refine w_aload0 dX10_findsKernel_14 (wp_getr 467 dX10_findsKernel_15 fl_RX10_73 is_445 rfl (w_iload2 dX10_findsKernel_18 (w_iload2 dX10_findsKernel_19 (wp_bipush dX10_findsKernel_20 (by decide) (wp_idiv dX10_findsKernel_22 (by omega) (by omega) (w_iload2 dX10_findsKernel_23 (wp_bipush dX10_findsKernel_24 (by decide) (wp_irem dX10_findsKernel_26 (by omega) (by omega) ?_))))))))
      refine wp_icmp_ne 34 dX10_findsKernel_27 rfl ⟨by omega, by omega⟩ ⟨by omega, by omega⟩ (fun c27 => ?_) (fun c27 => ?_)
      · skip
        refine wp_iconst dX10_findsKernel_34 ?_
        first
        | (have c9 : k / 8 = k % 8 := by omega
           exact L35 _ (by omega) (if_pos c9).symm)
        | (have c9 : ¬ k / 8 = k % 8 := by omega
           exact L35 _ (by omega) (if_neg c9).symm)
      · skip
        refine wp_iconst dX10_findsKernel_30 (wp_goto 35 dX10_findsKernel_31 rfl ?_)
        first
        | (have c9 : k / 8 = k % 8 := by omega
           exact L35 _ (by omega) (if_pos c9).symm)
        | (have c9 : ¬ k / 8 = k % 8 := by omega
           exact L35 _ (by omega) (if_neg c9).symm)
  refine w_aload0 dX10_findsKernel_0 (w_iload1 dX10_findsKernel_1 (wp_iconst dX10_findsKernel_2 ?_))
  apply v_v2 (M := mX10_findsKernel) dX10_findsKernel_3 lk_RX10_207 mvX10_lays (by decide) meX10_findsKernel is_445 (Nat.le_of_ble_eq_true rfl)
  · exact t_X10_lays ht (Or.inl rfl) hp hp0 hs8 h11 hE
  intro h3 hP3
  obtain ⟨f3, g3⟩ := hP3
  have hF3 : zFr zFke h h3 := f3.mono (fun a j w => Or.inl w)
  have hW3 : ∀ r, r < s → ∀ q, q < s → h3 458 (8 * r + q) = zRV p E t r q := fun r hr q hq => by rw [g3 r hr q hq, if_pos rfl]; rfl
  refine wp_iconst dX10_findsKernel_6 (w_istore2 dX10_findsKernel_7 rfl (by decide) ?_)
  exact L8 _ 0 _ _ rfl (Nat.zero_le _) rfl hF3 hW3 (fun r q _ w => absurd w (Nat.not_lt_zero _))
set_option maxRecDepth 100000 in
set_option maxHeartbeats 4000000 in
theorem t_X10_recoveredAt {h : zH} {t nn p : Int} {n rk : Nat} (ht : 0 ≤ t ∧ t < p) (hp : 5 ≤ p ∧ p ≤ 31) (hp0 : h 446 0 = p) {s : Nat} (hs8 : s ≤ 8) (h11 : h 445 11 = (s : Int)) {E : Nat → Nat → Int} (hE : ∀ r, r < s → ∀ q, q < s → ∀ e, e < 7 → h 454 ((8 * r + q) * 7 + e) = E (8 * r + q) e ∧ 0 ≤ E (8 * r + q) e ∧ E (8 * r + q) e < p) (hn : nn = n) (hn8 : n < s) (hrk : h 455 t.toNat = (rk : Int)) (hrs : rk ≤ 8) : CI yX10_recoveredAt mX10_recoveredAt [vR 445, vI t, vI nn] h (fun r h' => zFr zFke h h' ∧ r = if s = rk + 1 then zrat p (zmre p s E t) n else -9) := by
  refine inV [some (vR 445), some (vI t), some (vI nn)] mvX10_recoveredAt rfl (Nat.le_of_ble_eq_true rfl) rfl ?_
  have hpp : 0 < p := by omega
  refine w_aload0 dX10_recoveredAt_0 (wp_geti dX10_recoveredAt_1 fl_RX10_186 is_445 ?_)
  rw [h11]
  refine w_aload0 dX10_recoveredAt_4 (wp_getr 455 dX10_recoveredAt_5 fl_RX10_37 is_445 rfl (w_iload1 dX10_recoveredAt_8 (x_iald t.toNat dX10_recoveredAt_9 is_455 (by omega) (by omega) ?_)))
  rw [hrk]
  refine wp_isub dX10_recoveredAt_10 (wp_iconst dX10_recoveredAt_11 ?_)
  refine wp_icmp_eq 18 dX10_recoveredAt_12 rfl ⟨by omega, by omega⟩ ⟨by omega, by omega⟩ (fun c12 => ?_) (fun c12 => ?_)
  · skip
    refine w_aload0 dX10_recoveredAt_18 (w_iload1 dX10_recoveredAt_19 ?_)
    apply v_v1 (M := mX10_recoveredAt) dX10_recoveredAt_20 lk_RX10_297 mvX10_findsKernel (by decide) meX10_recoveredAt is_445 (Nat.le_of_ble_eq_true rfl)
    · exact t_X10_findsKernel ht hp hp0 hs8 h11 hE
    intro h20 hP20
    obtain ⟨f20, g20⟩ := hP20
    have k020 : h20 446 0 = p := by rw [f20 _ _ (by unfold zFke; omega)]; exact hp0
    have hb0 := (g20 0 (by omega)).2
    have hbn := (g20 n hn8).2
    have hib := zinvS_in (zmre p s E t 0) p (p.toNat - 1)
    have hib2 : 0 ≤ zinv (zmre p s E t 0) p ∧ zinv (zmre p s E t 0) p < p := ⟨hib.1, by unfold zinv; omega⟩
    refine w_aload0 dX10_recoveredAt_23 (wp_getr 466 dX10_recoveredAt_24 fl_RX10_70 is_445 rfl (wp_iconst dX10_recoveredAt_27 (x_iald 0 dX10_recoveredAt_28 is_466 rfl (by omega) ?_)))
    rw [(g20 0 (by omega)).1]
    refine wp_if_ne 37 dX10_recoveredAt_29 rfl ⟨by omega, by omega⟩ (fun c29 => ?_) (fun c29 => ?_)
    · skip
      refine w_aload0 dX10_recoveredAt_37 (wp_getr 466 dX10_recoveredAt_38 fl_RX10_70 is_445 rfl (w_iload2 dX10_recoveredAt_41 (x_iald n dX10_recoveredAt_42 is_466 (by omega) (by omega) ?_)))
      rw [(g20 n hn8).1]
      have hmm := z_mb hbn hib2 hp.2
      refine w_aload0 dX10_recoveredAt_43 (w_aload0 dX10_recoveredAt_44 (wp_getr 466 dX10_recoveredAt_45 fl_RX10_70 is_445 rfl (wp_iconst dX10_recoveredAt_48 (x_iald 0 dX10_recoveredAt_49 is_466 rfl (by omega) ?_))))
      rw [(g20 0 (by omega)).1]
      apply v_i1 (M := mX10_recoveredAt) dX10_recoveredAt_50 lk_RX10_198 mvX10_inverse (by decide) meX10_recoveredAt is_445 (Nat.le_of_ble_eq_true rfl)
      · exact t_X10_inverse ⟨by omega, by omega⟩ hp k020
      intro x50 h50 hP50
      obtain ⟨eh50, ex50⟩ := hP50
      replace eh50 := eh50.symm
      subst eh50
      replace ex50 := ex50.symm
      subst ex50
      refine wp_imul dX10_recoveredAt_53 (w_aload0 dX10_recoveredAt_54 ?_)
      apply v_i0 (M := mX10_recoveredAt) dX10_recoveredAt_55 lk_RX10_76 mvX10_p (by decide) meX10_recoveredAt is_445 (Nat.le_of_ble_eq_true rfl)
      · exact t_X10_p k020
      intro x55 h55 hP55
      obtain ⟨eh55, ex55⟩ := hP55
      replace eh55 := eh55.symm
      subst eh55
      replace ex55 := ex55.symm
      subst ex55
      refine wp_irem dX10_recoveredAt_58 (by omega) (by omega) ?_
      refine r_i dX10_recoveredAt_59 rfl meX10_recoveredAt ?_
      first
      | (have c9 : ¬ s = rk + 1 := by omega
         exact ⟨zFr.rf, (if_neg c9).symm⟩)
      | (have c9 : zmre p s E t 0 = 0 := by assumption
         exact ⟨f20, by rw [if_pos (by omega)]; exact (if_pos c9).symm⟩)
      | (have c9 : ¬ zmre p s E t 0 = 0 := by assumption
         exact ⟨f20, by rw [if_pos (by omega)]; exact (if_neg c9).symm⟩)
    · skip
      refine wp_bipush dX10_recoveredAt_32 (by decide) (wp_goto 59 dX10_recoveredAt_34 rfl ?_)
      refine r_i dX10_recoveredAt_59 rfl meX10_recoveredAt ?_
      first
      | (have c9 : ¬ s = rk + 1 := by omega
         exact ⟨zFr.rf, (if_neg c9).symm⟩)
      | (have c9 : zmre p s E t 0 = 0 := by assumption
         exact ⟨f20, by rw [if_pos (by omega)]; exact (if_pos c9).symm⟩)
      | (have c9 : ¬ zmre p s E t 0 = 0 := by assumption
         exact ⟨f20, by rw [if_pos (by omega)]; exact (if_neg c9).symm⟩)
  · skip
    refine wp_bipush dX10_recoveredAt_15 (by decide) ?_
    refine r_i dX10_recoveredAt_17 rfl meX10_recoveredAt ?_
    first
    | (have c9 : ¬ s = rk + 1 := by omega
       exact ⟨zFr.rf, (if_neg c9).symm⟩)
    | (have c9 : zmre p s E t 0 = 0 := by assumption
       exact ⟨f20, by rw [if_pos (by omega)]; exact (if_pos c9).symm⟩)
    | (have c9 : ¬ zmre p s E t 0 = 0 := by assumption
       exact ⟨f20, by rw [if_pos (by omega)]; exact (if_neg c9).symm⟩)
