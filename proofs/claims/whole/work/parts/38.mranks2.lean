
set_option maxRecDepth 100000 in
set_option maxHeartbeats 4000000 in
theorem t_X10_findsRanks {h : zH} {p : Int} {s : Nat} (hs2 : 2 ≤ s) (hs8 : s ≤ 8) (hp : 5 ≤ p ∧ p ≤ 31) (hp0 : h 446 0 = p) (h11 : h 445 11 = (s : Int)) {E : Nat → Nat → Int} (hE : ∀ r, r < s → ∀ q, q < s → ∀ e, e < 7 → h 454 ((8 * r + q) * 7 + e) = E (8 * r + q) e ∧ 0 ≤ E (8 * r + q) e ∧ E (8 * r + q) e < p) : CV yX10_findsRanks mX10_findsRanks [vR 445] h (fun h' => zFr zFfr2 h h' ∧ (∀ t : Nat, (t : Int) < p → h' 455 t = (zmrk p s E t : Int)) ∧ h' 445 18 = (zgmx (zmrk p s E) p.toNat : Int) ∧ h' 445 19 = (zgpv (zmrk p s E) p.toNat : Int) ∧ h' 445 22 = (if zgmx (zmrw p s E) p.toNat < zgmx (zmrk p s E) p.toNat then 1 else 0) ∧ h' 445 20 = (zmk (zIp p s (zRV p E (zgpv (zmrk p s E) p.toNat : Int)) 0) s : Int) ∧ h' 445 21 = (zmk (zIp p s (zCV p E (zgpv (zmrk p s E) p.toNat : Int)) 0) s : Int)) := by
  refine inV [some (vR 445), none, none, none] mvX10_findsRanks rfl (Nat.le_of_ble_eq_true rfl) rfl ?_
  have hpp : 0 < p := by omega
  have hrl : ∀ t, zmrk p s E t ≤ 8 := fun t => Nat.le_trans (zct_le s) hs8
  have hwl : ∀ t, zmrw p s E t ≤ 8 := fun t => Nat.le_trans (zct_le s) hs8
  have hRV : ∀ (h' : zH) (t : Int), (∀ r, r < s → ∀ q, q < s → h' 458 (8 * r + q) = zhor t p 7 (if (0 : Int) = 0 then E (8 * r + q) else E (8 * q + r))) → ∀ r, r < s → ∀ q, q < s → h' 458 (8 * r + q) = zRV p E t r q ∧ 0 ≤ zRV p E t r q ∧ zRV p E t r q < p := fun h' t H r hr q hq => ⟨by rw [H r hr q hq, if_pos rfl]; rfl, zhor_in hpp _ _⟩
  have hCV : ∀ (h' : zH) (t : Int), (∀ r, r < s → ∀ q, q < s → h' 458 (8 * r + q) = zhor t p 7 (if (1 : Int) = 0 then E (8 * r + q) else E (8 * q + r))) → ∀ r, r < s → ∀ q, q < s → h' 458 (8 * r + q) = zCV p E t r q ∧ 0 ≤ zCV p E t r q ∧ zCV p E t r q < p := fun h' t H r hr q hq => ⟨by rw [H r hr q hq, if_neg (by decide)]; rfl, zhor_in hpp _ _⟩
  have hfrE : ∀ h' : zH, zFr zFfr2 h h' → ∀ r, r < s → ∀ q, q < s → ∀ e, e < 7 → h' 454 ((8 * r + q) * 7 + e) = E (8 * r + q) e ∧ 0 ≤ E (8 * r + q) e ∧ E (8 * r + q) e < p := fun h' f r hr q hq e he => by rw [f _ _ (by unfold zFfr2; omega)]; exact hE r hr q hq e he
  have hfr0 : ∀ h' : zH, zFr zFfr2 h h' → h' 446 0 = p ∧ h' 445 11 = (s : Int) := fun h' f => ⟨by rw [f _ _ (by unfold zFfr2; omega)]; exact hp0, by rw [f _ _ (by unfold zFfr2; omega)]; exact h11⟩
  have hfl : ∀ h1 h2 : zH, zFr zFfr2 h h1 → zFr (fun a _ => a = 458) h1 h2 → zFr zFfr2 h h2 := fun h1 h2 f g a j n => (g a j (fun q => n (by unfold zFfr2; omega))).trans (f a j n)
  have hfi : ∀ h1 h2 : zH, zFr zFfr2 h h1 → zFr zFin h1 h2 → zFr zFfr2 h h2 := fun h1 h2 f g a j n => (g a j (fun q => n (by unfold zFin at q; unfold zFfr2; omega))).trans (f a j n)
  have L139 : ∀ (h' : zH) (v : Int), (zFr zFfr2 h h') → (∀ t : Nat, (t : Int) < p → h' 455 t = (zmrk p s E t : Int)) → (h' 445 18 = (zgmx (zmrk p s E) p.toNat : Int)) → (h' 445 19 = (zgpv (zmrk p s E) p.toNat : Int)) → (v = if zgmx (zmrw p s E) p.toNat < zgmx (zmrk p s E) p.toNat then 1 else 0) → (v = 0 ∨ v = 1) → WP mX10_findsRanks (zMQ mX10_findsRanks (zKV (fun h' => zFr zFfr2 h h' ∧ (∀ t : Nat, (t : Int) < p → h' 455 t = (zmrk p s E t : Int)) ∧ h' 445 18 = (zgmx (zmrk p s E) p.toNat : Int) ∧ h' 445 19 = (zgpv (zmrk p s E) p.toNat : Int) ∧ h' 445 22 = (if zgmx (zmrw p s E) p.toNat < zgmx (zmrk p s E) p.toNat then 1 else 0) ∧ h' 445 20 = (zmk (zIp p s (zRV p E (zgpv (zmrk p s E) p.toNat : Int)) 0) s : Int) ∧ h' 445 21 = (zmk (zIp p s (zCV p E (zgpv (zmrk p s E) p.toNat : Int)) 0) s : Int)))) 139 [some (vR 445), none, none, none] [vI v, vR 445] zN zGR h' := by
    intro h' v hF hr h18 h19 hv hv2
    have hpl := zgpv_lt (f := zmrk p s E) p.toNat (by omega)
    refine wp_putz dX10_findsRanks_139 fl_RX10_220 is_445 rfl hv2 ?_
    skip
    refine w_aload0 dX10_findsRanks_142 (w_aload0 dX10_findsRanks_143 (wp_geti dX10_findsRanks_144 fl_RX10_217 is_445 ?_))
    have hF139 : zFr zFfr2 h (zup h' 445 22 v) := hF.up (by unfold zFfr2; omega)
    rw [show zup h' 445 22 v 445 19 = (zgpv (zmrk p s E) p.toNat : Int) by rw [zup_o (by omega)]; exact h19]
    refine wp_iconst dX10_findsRanks_147 ?_
    apply v_v2 (M := mX10_findsRanks) dX10_findsRanks_148 lk_RX10_207 mvX10_lays (by decide) meX10_findsRanks is_445 (Nat.le_of_ble_eq_true rfl)
    · exact t_X10_lays ⟨by omega, by omega⟩ (Or.inl rfl) hp (hfr0 _ hF139).1 hs8 (hfr0 _ hF139).2 (hfrE _ hF139)
    intro h148 hP148
    obtain ⟨f148, g148⟩ := hP148
    have hF148 := hfl _ _ hF139 f148
    have q148 := hfr0 _ hF148
    refine w_aload0 dX10_findsRanks_151 (w_aload0 dX10_findsRanks_152 (wp_iconst dX10_findsRanks_153 ?_))
    apply v_i1 (M := mX10_findsRanks) dX10_findsRanks_154 lk_RX10_211 mvX10_independent (by decide) meX10_findsRanks is_445 (Nat.le_of_ble_eq_true rfl)
    · exact t_X10_independent (fr := 0) rfl (Nat.zero_le _) hs8 hp q148.1 q148.2 (hRV _ _ g148)
    intro x154 h154 hP154
    obtain ⟨f154, g154⟩ := hP154
    subst g154
    have hF154 := hfi _ _ hF148 f154
    have hF157 : ∀ v, zFr zFfr2 h (zup h154 445 20 v) := fun v => hF154.up (by unfold zFfr2; omega)
    have e19 : ∀ v, zup h154 445 20 v 445 19 = (zgpv (zmrk p s E) p.toNat : Int) := fun v => by rw [zup_o (by omega), f154 _ _ (by unfold zFin; omega), f148 _ _ (by omega), zup_o (by omega)]; exact h19
    refine wp_puti dX10_findsRanks_157 fl_RX10_223 is_445 rfl (w_aload0 dX10_findsRanks_160 (w_aload0 dX10_findsRanks_161 (wp_geti dX10_findsRanks_162 fl_RX10_217 is_445 ?_)))
    rw [e19]
    refine wp_iconst dX10_findsRanks_165 ?_
    apply v_v2 (M := mX10_findsRanks) dX10_findsRanks_166 lk_RX10_207 mvX10_lays (by decide) meX10_findsRanks is_445 (Nat.le_of_ble_eq_true rfl)
    · exact t_X10_lays ⟨by omega, by omega⟩ (Or.inr rfl) hp (hfr0 _ (hF157 _)).1 hs8 (hfr0 _ (hF157 _)).2 (hfrE _ (hF157 _))
    intro h166 hP166
    obtain ⟨f166, g166⟩ := hP166
    have hF166 := hfl _ _ (hF157 _) f166
    have q166 := hfr0 _ hF166
    refine w_aload0 dX10_findsRanks_169 (w_aload0 dX10_findsRanks_170 (wp_iconst dX10_findsRanks_171 ?_))
    apply v_i1 (M := mX10_findsRanks) dX10_findsRanks_172 lk_RX10_211 mvX10_independent (by decide) meX10_findsRanks is_445 (Nat.le_of_ble_eq_true rfl)
    · exact t_X10_independent (fr := 0) rfl (Nat.zero_le _) hs8 hp q166.1 q166.2 (hCV _ _ g166)
    intro x172 h172 hP172
    obtain ⟨f172, g172⟩ := hP172
    subst g172
    have hF172 := hfi _ _ hF166 f172
    refine wp_puti dX10_findsRanks_175 fl_RX10_226 is_445 rfl ?_
    refine r_v dX10_findsRanks_178 rfl meX10_findsRanks ?_
    have back : ∀ a j, a ≠ 458 → a ≠ 459 → a ≠ 460 → (a ≠ 445 ∨ (j ≠ 27 ∧ j ≠ 20 ∧ j ≠ 22 ∧ j ≠ 21)) → h172 a j = h' a j := fun a j n1 n2 n3 n4 => by
      rw [f172 _ _ (by unfold zFin; omega), f166 _ _ (by omega), zup_o (by omega), f154 _ _ (by unfold zFin; omega), f148 _ _ (by omega), zup_o (by omega)]
    refine ⟨hF172.up (by unfold zFfr2; omega), fun t ht => ?_, ?_, ?_, ?_, ?_, zup_s⟩
    · rw [zup_o (by omega), back _ _ (by omega) (by omega) (by omega) (by omega)]; exact hr t ht
    · rw [zup_o (by omega), back _ _ (by omega) (by omega) (by omega) (by omega)]; exact h18
    · rw [zup_o (by omega), back _ _ (by omega) (by omega) (by omega) (by omega)]; exact h19
    · rw [zup_o (by omega), f172 _ _ (by unfold zFin; omega), f166 _ _ (by omega), zup_o (by omega), f154 _ _ (by unfold zFin; omega), f148 _ _ (by omega), zup_s]; exact hv
    · rw [zup_o (by omega), f172 _ _ (by unfold zFin; omega), f166 _ _ (by omega), zup_s]
  have L10 : ∀ (zm10 : Nat) (t : Nat) (h' : zH) (w : Int), p.toNat - t = zm10 → ((t : Int) ≤ p) → (zFr zFfr2 h h') → (w = (zgmx (zmrw p s E) t : Int)) → (∀ q, q < t → h' 455 q = (zmrk p s E q : Int)) → ((t = 0 ∧ h' 445 18 = -9) ∨ (0 < t ∧ h' 445 18 = (zgmx (zmrk p s E) t : Int) ∧ h' 445 19 = (zgpv (zmrk p s E) t : Int))) → WP mX10_findsRanks (zMQ mX10_findsRanks (zKV (fun h' => zFr zFfr2 h h' ∧ (∀ t : Nat, (t : Int) < p → h' 455 t = (zmrk p s E t : Int)) ∧ h' 445 18 = (zgmx (zmrk p s E) p.toNat : Int) ∧ h' 445 19 = (zgpv (zmrk p s E) p.toNat : Int) ∧ h' 445 22 = (if zgmx (zmrw p s E) p.toNat < zgmx (zmrk p s E) p.toNat then 1 else 0) ∧ h' 445 20 = (zmk (zIp p s (zRV p E (zgpv (zmrk p s E) p.toNat : Int)) 0) s : Int) ∧ h' 445 21 = (zmk (zIp p s (zCV p E (zgpv (zmrk p s E) p.toNat : Int)) 0) s : Int)))) 10 [some (vR 445), some (vI w), some (vI (t : Int)), none] [] zN zGR h' := by
    intro zm10
    induction zm10 using Nat.strongRecOn with | _ zm10 ih10 => ?_
    intro t h' w hzm10 ht hF hw hr hg
    subst hzm10
    obtain ⟨k0, k11⟩ := hfr0 h' hF
    have hgl := zgmx_le hrl t
    have hgw := zgmx_le hwl t
    have hrt := hrl t
    have hwt := hwl t
    have hgs : zgmx (zmrk p s E) (t + 1) = max (zgmx (zmrk p s E) t) (zmrk p s E t) := rfl
    have hgs2 : zgmx (zmrw p s E) (t + 1) = max (zgmx (zmrw p s E) t) (zmrw p s E t) := rfl
    have hgp : zgpv (zmrk p s E) (t + 1) = if zgmx (zmrk p s E) t < zmrk p s E t then t else zgpv (zmrk p s E) t := rfl
    have hg0 : t = 0 → zgmx (zmrk p s E) t = 0 ∧ zgpv (zmrk p s E) (t + 1) = 0 := fun e => by rw [e]; refine ⟨rfl, ?_⟩; show (if 0 < zmrk p s E 0 then 0 else 0) = 0; rw [ite_self]
    have h18b : -9 ≤ h' 445 18 ∧ h' 445 18 ≤ 8 := by omega
    have L63 : ∀ (h3 : zH) (u : Int), ((t : Int) < p) → (zFr zFfr2 h h3) → (∀ q, q < t + 1 → h3 455 q = (zmrk p s E q : Int)) → (h3 445 18 = h' 445 18 ∧ h3 445 19 = h' 445 19) → (u = (zgmx (zmrw p s E) (t + 1) : Int)) → WP mX10_findsRanks (zMQ mX10_findsRanks (zKV (fun h' => zFr zFfr2 h h' ∧ (∀ t : Nat, (t : Int) < p → h' 455 t = (zmrk p s E t : Int)) ∧ h' 445 18 = (zgmx (zmrk p s E) p.toNat : Int) ∧ h' 445 19 = (zgpv (zmrk p s E) p.toNat : Int) ∧ h' 445 22 = (if zgmx (zmrw p s E) p.toNat < zgmx (zmrk p s E) p.toNat then 1 else 0) ∧ h' 445 20 = (zmk (zIp p s (zRV p E (zgpv (zmrk p s E) p.toNat : Int)) 0) s : Int) ∧ h' 445 21 = (zmk (zIp p s (zCV p E (zgpv (zmrk p s E) p.toNat : Int)) 0) s : Int)))) 63 [some (vR 445), none, some (vI (t : Int)), none] [vI u] zN zGR h3 := by
      intro h3 u htp hF3 hr3 hg3 hu
      have L86 : ∀ (v : Int), (v = (zgpv (zmrk p s E) (t + 1) : Int)) → WP mX10_findsRanks (zMQ mX10_findsRanks (zKV (fun h' => zFr zFfr2 h h' ∧ (∀ t : Nat, (t : Int) < p → h' 455 t = (zmrk p s E t : Int)) ∧ h' 445 18 = (zgmx (zmrk p s E) p.toNat : Int) ∧ h' 445 19 = (zgpv (zmrk p s E) p.toNat : Int) ∧ h' 445 22 = (if zgmx (zmrw p s E) p.toNat < zgmx (zmrk p s E) p.toNat then 1 else 0) ∧ h' 445 20 = (zmk (zIp p s (zRV p E (zgpv (zmrk p s E) p.toNat : Int)) 0) s : Int) ∧ h' 445 21 = (zmk (zIp p s (zCV p E (zgpv (zmrk p s E) p.toNat : Int)) 0) s : Int)))) 86 [some (vR 445), some (vI u), some (vI (t : Int)), none] [vI v, vR 445] zN zGR h3 := by
        intro v hv
        have L116 : ∀ (v2 : Int), (v2 = (zgmx (zmrk p s E) (t + 1) : Int)) → WP mX10_findsRanks (zMQ mX10_findsRanks (zKV (fun h' => zFr zFfr2 h h' ∧ (∀ t : Nat, (t : Int) < p → h' 455 t = (zmrk p s E t : Int)) ∧ h' 445 18 = (zgmx (zmrk p s E) p.toNat : Int) ∧ h' 445 19 = (zgpv (zmrk p s E) p.toNat : Int) ∧ h' 445 22 = (if zgmx (zmrw p s E) p.toNat < zgmx (zmrk p s E) p.toNat then 1 else 0) ∧ h' 445 20 = (zmk (zIp p s (zRV p E (zgpv (zmrk p s E) p.toNat : Int)) 0) s : Int) ∧ h' 445 21 = (zmk (zIp p s (zCV p E (zgpv (zmrk p s E) p.toNat : Int)) 0) s : Int)))) 116 [some (vR 445), some (vI u), some (vI (t : Int)), none] [vI v2, vR 445] zN zGR (zup h3 445 19 v) := by
          intro v2 hv2
          refine wp_puti dX10_findsRanks_116 fl_RX10_204 is_445 rfl (w_iinc2 dX10_findsRanks_119 rfl (by decide) (wp_goto 10 dX10_findsRanks_122 rfl ?_))
          refine ih10 _ (by omega) (t + 1) _ _ rfl (by omega) ((hF3.up (by unfold zFfr2; omega)).up (by unfold zFfr2; omega)) hu (fun q hq => by rw [zup_o (by omega), zup_o (by omega)]; exact hr3 q (by omega)) (Or.inr ⟨by omega, ?_, ?_⟩)
          · rw [zup_s]; exact hv2
          · rw [zup_o (by omega), zup_s]; exact hv
        refine wp_puti dX10_findsRanks_86 fl_RX10_217 is_445 rfl (w_aload0 dX10_findsRanks_89 (w_aload0 dX10_findsRanks_90 (wp_getr 455 dX10_findsRanks_91 fl_RX10_37 is_445 rfl (w_iload2 dX10_findsRanks_94 (x_iald t dX10_findsRanks_95 is_455 rfl (by omega) ?_)))))
        rw [show zup h3 445 19 v 455 t = (zmrk p s E t : Int) by rw [zup_o (by omega)]; exact hr3 t (by omega)]
        have e18 : zup h3 445 19 v 445 18 = h' 445 18 := by rw [zup_o (by omega)]; exact hg3.1
        refine w_aload0 dX10_findsRanks_96 (wp_geti dX10_findsRanks_97 fl_RX10_204 is_445 ?_)
        refine wp_icmp_le 112 dX10_findsRanks_100 rfl ⟨by omega, by omega⟩ ⟨by omega, by omega⟩ (fun c100 => ?_) (fun c100 => ?_)
        · skip
          refine w_aload0 dX10_findsRanks_112 (wp_geti dX10_findsRanks_113 fl_RX10_204 is_445 ?_)
          first
          | exact L116 _ (by rw [hgs]; omega)
        · skip
          refine w_aload0 dX10_findsRanks_103 (wp_getr 455 dX10_findsRanks_104 fl_RX10_37 is_445 rfl (w_iload2 dX10_findsRanks_107 (x_iald t dX10_findsRanks_108 is_455 rfl (by omega) ?_)))
          rw [show zup h3 445 19 v 455 t = (zmrk p s E t : Int) by rw [zup_o (by omega)]; exact hr3 t (by omega)]
          refine wp_goto 116 dX10_findsRanks_109 rfl ?_
          first
          | exact L116 _ (by rw [hgs]; omega)
      refine w_istore1 dX10_findsRanks_63 rfl (by decide) (w_aload0 dX10_findsRanks_64 (w_aload0 dX10_findsRanks_65 (wp_getr 455 dX10_findsRanks_66 fl_RX10_37 is_445 rfl (w_iload2 dX10_findsRanks_69 (x_iald t dX10_findsRanks_70 is_455 rfl (by omega) ?_)))))
      rw [hr3 t (by omega)]
      refine w_aload0 dX10_findsRanks_71 (wp_geti dX10_findsRanks_72 fl_RX10_204 is_445 ?_)
      refine wp_icmp_le 82 dX10_findsRanks_75 rfl ⟨by omega, by omega⟩ ⟨by omega, by omega⟩ (fun c75 => ?_) (fun c75 => ?_)
      · skip
        refine w_aload0 dX10_findsRanks_82 (wp_geti dX10_findsRanks_83 fl_RX10_217 is_445 ?_)
        first
        | exact L86 (t : Int) (by
            by_cases e : t = 0
            · rw [(hg0 e).2, e]
            · rw [hgp, if_pos (by omega)])
        | exact L86 _ (by
            by_cases e : t = 0
            · exfalso; omega
            · rw [hgp, if_neg (by omega)]; omega)
      · skip
        refine w_iload2 dX10_findsRanks_78 (wp_goto 86 dX10_findsRanks_79 rfl ?_)
        first
        | exact L86 (t : Int) (by
            by_cases e : t = 0
            · rw [(hg0 e).2, e]
            · rw [hgp, if_pos (by omega)])
        | exact L86 _ (by
            by_cases e : t = 0
            · exfalso; omega
            · rw [hgp, if_neg (by omega)]; omega)
    refine w_iload2 dX10_findsRanks_10 (w_aload0 dX10_findsRanks_11 ?_)
    apply v_i0 (M := mX10_findsRanks) dX10_findsRanks_12 lk_RX10_76 mvX10_p (by decide) meX10_findsRanks is_445 (Nat.le_of_ble_eq_true rfl)
    · exact t_X10_p k0
    intro x12 h12 hP12
    obtain ⟨eh12, ex12⟩ := hP12
    replace eh12 := eh12.symm
    subst eh12
    replace ex12 := ex12.symm
    subst ex12
    refine wp_icmp_ge 125 dX10_findsRanks_15 rfl ⟨by omega, by omega⟩ ⟨by omega, by omega⟩ (fun c15 => ?_) (fun c15 => ?_)
    · skip
      refine w_aload0 dX10_findsRanks_125 (w_iload1 dX10_findsRanks_126 (w_aload0 dX10_findsRanks_127 (wp_geti dX10_findsRanks_128 fl_RX10_204 is_445 ?_)))
      refine wp_icmp_ge 138 dX10_findsRanks_131 rfl ⟨by omega, by omega⟩ ⟨by omega, by omega⟩ (fun c131 => ?_) (fun c131 => ?_)
      · skip
        refine wp_iconst dX10_findsRanks_138 ?_
        refine w_forget1 ?_
        refine w_forget2 ?_
        have ht9 : t = p.toNat := by omega
        rw [ht9] at hg hw
        first
        | exact L139 _ _ hF (fun q hq => hr q (by omega)) (by omega) (by omega) (by rw [if_pos (by omega)]) (Or.inr rfl)
        | exact L139 _ _ hF (fun q hq => hr q (by omega)) (by omega) (by omega) (by rw [if_neg (by omega)]) (Or.inl rfl)
      · skip
        refine wp_iconst dX10_findsRanks_134 (wp_goto 139 dX10_findsRanks_135 rfl ?_)
        refine w_forget1 ?_
        refine w_forget2 ?_
        have ht9 : t = p.toNat := by omega
        rw [ht9] at hg hw
        first
        | exact L139 _ _ hF (fun q hq => hr q (by omega)) (by omega) (by omega) (by rw [if_pos (by omega)]) (Or.inr rfl)
        | exact L139 _ _ hF (fun q hq => hr q (by omega)) (by omega) (by omega) (by rw [if_neg (by omega)]) (Or.inl rfl)
    · skip
      refine w_aload0 dX10_findsRanks_18 (w_iload2 dX10_findsRanks_19 (wp_iconst dX10_findsRanks_20 ?_))
      apply v_v2 (M := mX10_findsRanks) dX10_findsRanks_21 lk_RX10_207 mvX10_lays (by decide) meX10_findsRanks is_445 (Nat.le_of_ble_eq_true rfl)
      · exact t_X10_lays ⟨by omega, by omega⟩ (Or.inl rfl) hp k0 hs8 k11 (hfrE h' hF)
      intro h21 hP21
      obtain ⟨f21, g21⟩ := hP21
      have hF21 := hfl _ _ hF f21
      have q21 := hfr0 _ hF21
      refine w_aload0 dX10_findsRanks_24 (wp_getr 455 dX10_findsRanks_25 fl_RX10_37 is_445 rfl (w_iload2 dX10_findsRanks_28 (w_aload0 dX10_findsRanks_29 (wp_iconst dX10_findsRanks_30 ?_))))
      apply v_i1 (M := mX10_findsRanks) dX10_findsRanks_31 lk_RX10_211 mvX10_independent (by decide) meX10_findsRanks is_445 (Nat.le_of_ble_eq_true rfl)
      · exact t_X10_independent (fr := 0) rfl (Nat.zero_le _) hs8 hp q21.1 q21.2 (hRV _ _ g21)
      intro x31 h31 hP31
      obtain ⟨f31, g31⟩ := hP31
      subst g31
      have hF31 := hfi _ _ hF21 f31
      apply s_i1 (M := mX10_findsRanks) dX10_findsRanks_34 lk_RX10_214 mvX10_bits (by decide) meX10_findsRanks (Nat.le_of_ble_eq_true rfl)
      · exact t_X10_bits rfl (zmk_b8 (by omega))
      intro x34 h34 hP34
      obtain ⟨eh34, ex34⟩ := hP34
      replace eh34 := eh34.symm
      subst eh34
      rw [zbc_mk (by omega)] at ex34
      subst ex34
      have hF37 : zFr zFfr2 h (zup h31 455 t (zct (zIp p s (zRV p E (t : Int)) 0) s : Int)) := hF31.up (by unfold zFfr2; omega)
      have q37 := hfr0 _ hF37
      refine x_iast t dX10_findsRanks_37 is_455 rfl (by omega) (w_aload0 dX10_findsRanks_38 (w_iload2 dX10_findsRanks_39 (wp_iconst dX10_findsRanks_40 ?_)))
      apply v_v2 (M := mX10_findsRanks) dX10_findsRanks_41 lk_RX10_207 mvX10_lays (by decide) meX10_findsRanks is_445 (Nat.le_of_ble_eq_true rfl)
      · exact t_X10_lays ⟨by omega, by omega⟩ (Or.inl rfl) hp q37.1 hs8 q37.2 (hfrE _ hF37)
      intro h41 hP41
      obtain ⟨f41, g41⟩ := hP41
      have hF41 := hfl _ _ hF37 f41
      have q41 := hfr0 _ hF41
      refine w_aload0 dX10_findsRanks_44 (wp_iconst dX10_findsRanks_45 ?_)
      apply v_i1 (M := mX10_findsRanks) dX10_findsRanks_46 lk_RX10_211 mvX10_independent (by decide) meX10_findsRanks is_445 (Nat.le_of_ble_eq_true rfl)
      · exact t_X10_independent (fr := 1) rfl (by omega) hs8 hp q41.1 q41.2 (hRV _ _ g41)
      intro x46 h46 hP46
      obtain ⟨f46, g46⟩ := hP46
      subst g46
      have hF46 := hfi _ _ hF41 f46
      have hr46 : ∀ q, q < t + 1 → h46 455 q = (zmrk p s E q : Int) := fun q hq => by
        rw [f46 _ _ (by unfold zFin; omega), f41 _ _ (by omega)]
        by_cases e : q = t
        · rw [e, zup_s]; rfl
        · rw [zup_o (by omega), f31 _ _ (by unfold zFin; omega), f21 _ _ (by omega)]
          exact hr q (by omega)
      have hg46 : h46 445 18 = h' 445 18 ∧ h46 445 19 = h' 445 19 := by
        refine ⟨?_, ?_⟩ <;> rw [f46 _ _ (by unfold zFin; omega), f41 _ _ (by omega), zup_o (by omega), f31 _ _ (by unfold zFin; omega), f21 _ _ (by omega)]
      apply s_i1 (M := mX10_findsRanks) dX10_findsRanks_49 lk_RX10_214 mvX10_bits (by decide) meX10_findsRanks (Nat.le_of_ble_eq_true rfl)
      · exact t_X10_bits rfl (zmk_b8 (by omega))
      intro x49 h49 hP49
      obtain ⟨eh49, ex49⟩ := hP49
      replace eh49 := eh49.symm
      subst eh49
      rw [zbc_mk (by omega)] at ex49
      replace ex49 : x49 = (zmrw p s E t : Int) := ex49
      refine w_istore3 dX10_findsRanks_52 rfl (by decide) (w_iload3 dX10_findsRanks_53 (w_iload1 dX10_findsRanks_54 ?_))
      refine wp_icmp_le 62 dX10_findsRanks_55 rfl ⟨by omega, by omega⟩ ⟨by omega, by omega⟩ (fun c55 => ?_) (fun c55 => ?_)
      · skip
        refine w_iload1 dX10_findsRanks_62 ?_
        refine w_forget1 ?_
        refine w_forget3 ?_
        first
        | exact L63 _ _ (by omega) hF46 hr46 hg46 (by rw [hgs2]; omega)
      · skip
        refine w_iload3 dX10_findsRanks_58 (wp_goto 63 dX10_findsRanks_59 rfl ?_)
        refine w_forget1 ?_
        refine w_forget3 ?_
        first
        | exact L63 _ _ (by omega) hF46 hr46 hg46 (by rw [hgs2]; omega)
  refine w_aload0 dX10_findsRanks_0 (wp_bipush dX10_findsRanks_1 (by decide) (wp_puti dX10_findsRanks_3 fl_RX10_204 is_445 rfl (wp_iconst dX10_findsRanks_6 (w_istore1 dX10_findsRanks_7 rfl (by decide) (wp_iconst dX10_findsRanks_8 (w_istore2 dX10_findsRanks_9 rfl (by decide) ?_))))))
  exact L10 _ 0 _ _ rfl (by omega) (fun a j n => by unfold zFfr2 at n; rw [zup_o (by omega)]) rfl (fun q hq => absurd hq (Nat.not_lt_zero q)) (Or.inl ⟨rfl, zup_s⟩)
