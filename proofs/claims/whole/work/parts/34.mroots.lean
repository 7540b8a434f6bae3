
theorem zln_m {p : Int} {c : Nat → Nat → Int} {t x : Int} {k j : Nat} : (zcut p c k j t + zcut p c k (3 + j) t * x + zcut p c k (6 + j) t * (x * x % p)) % p = zln p c t x k j := by
  unfold zln
  refine zcg.em (((zcg.rf.ad zcg.rf).ad (zcg.rf.ml zcg.md)).tr (zcg.of ?_))
  generalize zcut p c k j t = A
  generalize zcut p c k (3 + j) t = B
  generalize zcut p c k (6 + j) t = C
  grind
theorem zhor3_m {p y : Int} (hp : 0 < p) {f : Nat → Int} : (f 0 + f 1 * y + f 2 * (y * y % p)) % p = zhor y p 3 f := by
  refine ((zcg.md.tr (((zcg.rf.ad zcg.rf).ad (zcg.rf.ml zcg.md)).tr (zcg.sy (zhor3.tr (zcg.of ?_)))))).inj (z_mod hp _) (zhor_in hp 3 f)
  generalize f 0 = A
  generalize f 1 = B
  generalize f 2 = C
  grind
/-- a common root of the first n polynomials -/
def zRtq (p : Int) (c : Nat → Nat → Int) (t x : Int) (y n : Nat) : Prop := ∀ k, k < n → zhor (y : Int) p 3 (zln p c t x k) = 0
theorem zRtq_s {p : Int} {c : Nat → Nat → Int} {t x : Int} {y n : Nat} : zRtq p c t x y (n + 1) ↔ zRtq p c t x y n ∧ zhor (y : Int) p 3 (zln p c t x n) = 0 := by
  constructor
  · intro h
    exact ⟨fun k hk => h k (by omega), h n (by omega)⟩
  · intro h k hk
    by_cases e : k = n
    · rw [e]; exact h.2
    · exact h.1 k (by omega)
theorem zRtq_n {p : Int} {c : Nat → Nat → Int} {t x : Int} {y n : Nat} (hn : n ≤ 3) (h : ¬ zRtq p c t x y n) : ¬ zRt p c t x y := fun q => h (fun k hk => q k (by omega))
theorem zsumN_b {p : Int} (hp : p ≤ 31) {c : Nat → Nat → Int} {t : Int} {n : Nat} (hn : n ≤ 31) : zsumN (zcx p c t) n ≤ 961 := by
  have h1 := zsumN_le (f := zcx p c t) (M := 31) n (fun i _ => zcx_le hp i)
  omega
def zFrt (a _j : Nat) : Prop := a = 464 ∨ a = 465
def zFkr (a j : Nat) : Prop := (463 ≤ a ∧ a ≤ 465) ∨ (a = 445 ∧ 32 ≤ j ∧ j ≤ 34)
theorem zRtI_of {p : Int} {c : Nat → Nat → Int} {t : Int} {x y : Nat} (hx : (x : Int) < p) (hy : (y : Int) < p) (hR : zRt p c t (x : Int) y) : zRtI p c t (zsumN (zcx p c t) x + zct (zRt p c t (x : Int)) y) (100 * (x : Int) + (y : Int)) := Or.inl ⟨x, y, hx, hy, hR, rfl, rfl⟩

set_option maxRecDepth 100000 in
set_option maxHeartbeats 4000000 in
theorem t_X10_roots {h : zH} {p t ii : Int} {c : Nat → Nat → Int} (hs : zSt p c) (hR : zMr p c h) (ht : 0 ≤ t ∧ t < p) (hi : ii = -9 ∨ (0 ≤ ii ∧ ii < 2147483648)) : CI yX10_roots mX10_roots [vR 445, vI t, vI ii] h (fun r h' => zFr zFrt h h' ∧ (ii = -9 → r = (zcn p c t : Int)) ∧ (0 ≤ ii → zRtI p c t ii.toNat r)) := by
  refine inV [some (vR 445), some (vI t), some (vI ii), none, none, none, none, none, none] mvX10_roots rfl (Nat.le_of_ble_eq_true rfl) rfl ?_
  have hp := hs.p
  have hpp : 0 < p := by omega
  have hp0 := hR.1
  have L43 : ∀ (zm43 : Nat) (x : Nat) (h' : zH) (m : Int), p.toNat - x = zm43 → ((x : Int) ≤ p) → (m = (zsumN (zcx p c t) x : Int)) → (zFr zFrt h h') → (∀ q, q < 27 → h' 464 q = zcut p c (q / 9) (q % 9) t) → (0 ≤ ii → m ≤ ii) → WP mX10_roots (zMQ mX10_roots (zKI (fun r h' => zFr zFrt h h' ∧ (ii = -9 → r = (zcn p c t : Int)) ∧ (0 ≤ ii → zRtI p c t ii.toNat r)))) 43 [some (vR 445), some (vI t), some (vI ii), some (vI m), some (vI (x : Int)), none, none, none, none] [] zN zGR h' := by
    intro zm43
    induction zm43 using Nat.strongRecOn with | _ zm43 ih43 => ?_
    intro x h' m hzm43 hx hm hF hf hmi
    subst hzm43
    have k0 : h' 446 0 = p := by rw [hF _ _ (by unfold zFrt; omega)]; exact hp0
    have hsb := zsumN_b hp.2 (c := c) (t := t) (n := x) (by omega)
    have L139 : ∀ (zm139 : Nat) (y : Nat) (h2 : zH) (m2 : Int), p.toNat - y = zm139 → ((x : Int) < p) → ((y : Int) ≤ p) → (m2 = ((zsumN (zcx p c t) x + zct (zRt p c t (x : Int)) y : Nat) : Int)) → (zFr zFrt h h2) → (∀ q, q < 27 → h2 464 q = zcut p c (q / 9) (q % 9) t) → (∀ q, q < 9 → h2 465 q = zln p c t (x : Int) (q / 3) (q % 3)) → (0 ≤ ii → m2 ≤ ii) → WP mX10_roots (zMQ mX10_roots (zKI (fun r h' => zFr zFrt h h' ∧ (ii = -9 → r = (zcn p c t : Int)) ∧ (0 ≤ ii → zRtI p c t ii.toNat r)))) 139 [some (vR 445), some (vI t), some (vI ii), some (vI m2), some (vI (x : Int)), some (vI (y : Int)), none, none, none] [] zN zGR h2 := by
      intro zm139
      induction zm139 using Nat.strongRecOn with | _ zm139 ih139 => ?_
      intro y h2 m2 hzm139 hxp hy hm2 hF2 hf2 hl hmi2
      subst hzm139
      have k02 : h2 446 0 = p := by rw [hF2 _ _ (by unfold zFrt; omega)]; exact hp0
      have hcb := zct_le (P := zRt p c t (x : Int)) y
      have hyy : (y : Int) < p → 0 ≤ (y : Int) * (y : Int) ∧ (y : Int) * (y : Int) ≤ 900 := fun w => z_mb ⟨by omega, w⟩ ⟨by omega, w⟩ hp.2
      have L166 : ∀ (zm166 : Nat) (k : Nat) (b : Int), 3 - k = zm166 → ((y : Int) < p) → (k ≤ 3) → ((b = 0 ∨ b = 1) ∧ (b = 1 ↔ zRtq p c t (x : Int) y k)) → WP mX10_roots (zMQ mX10_roots (zKI (fun r h' => zFr zFrt h h' ∧ (ii = -9 → r = (zcn p c t : Int)) ∧ (0 ≤ ii → zRtI p c t ii.toNat r)))) 166 [some (vR 445), some (vI t), some (vI ii), some (vI m2), some (vI (x : Int)), some (vI (y : Int)), some (vI ((y : Int) * (y : Int) % p)), some (vI b), some (vI (3 * (k : Int)))] [] zN zGR h2 := by
        intro zm166
        induction zm166 using Nat.strongRecOn with | _ zm166 ih166 => ?_
        intro k b hzm166 hyp hk hb
        subst hzm166
        have l0 : k < 3 → h2 465 (3 * k + 0) = zln p c t (x : Int) k 0 := fun w => by rw [hl _ (by omega)]; congr 1 <;> omega
        have l1 : k < 3 → h2 465 (3 * k + 1) = zln p c t (x : Int) k 1 := fun w => by rw [hl _ (by omega)]; congr 1 <;> omega
        have l2 : k < 3 → h2 465 (3 * k + 2) = zln p c t (x : Int) k 2 := fun w => by rw [hl _ (by omega)]; congr 1 <;> omega
        have b0 := zln_in hpp c t (x : Int) k 0
        have b1 := zln_in hpp c t (x : Int) k 1
        have b2 := zln_in hpp c t (x : Int) k 2
        have m1 := z_mb b1 (b := (y : Int)) ⟨by omega, hyp⟩ hp.2
        have m3 := z_mod hpp ((y : Int) * (y : Int))
        have m4 := z_mb b2 m3 hp.2
        have hzh := zhor3_m hpp (y := (y : Int)) (f := zln p c t (x : Int) k)
        have hzb := zhor_in hpp (t := (y : Int)) 3 (zln p c t (x : Int) k)
        have L251 : (b = 1 ↔ zRt p c t (x : Int) y) → (b ≠ 0 → m2 ≠ ii) → WP mX10_roots (zMQ mX10_roots (zKI (fun r h' => zFr zFrt h h' ∧ (ii = -9 → r = (zcn p c t : Int)) ∧ (0 ≤ ii → zRtI p c t ii.toNat r)))) 251 [some (vR 445), some (vI t), some (vI ii), some (vI m2), some (vI (x : Int)), some (vI (y : Int)), none, some (vI b), none] [] zN zGR h2 := by
          intro  hbF hne
          have L262 : ∀ (v : Int), (m2 + v = ((zsumN (zcx p c t) x + zct (zRt p c t (x : Int)) (y + 1) : Nat) : Int)) → (0 ≤ ii → m2 + v ≤ ii) → WP mX10_roots (zMQ mX10_roots (zKI (fun r h' => zFr zFrt h h' ∧ (ii = -9 → r = (zcn p c t : Int)) ∧ (0 ≤ ii → zRtI p c t ii.toNat r)))) 262 [some (vR 445), some (vI t), some (vI ii), none, some (vI (x : Int)), some (vI (y : Int)), none, none, none] [vI v, vI m2] zN zGR h2 := by
            intro v hv hvi
            refine wp_iadd dX10_roots_262 (w_istore3 dX10_roots_263 rfl (by decide) (w_iinc5 dX10_roots_264 rfl (by decide) (wp_goto 139 dX10_roots_267 rfl ?_)))
            exact ih139 _ (by omega) (y + 1) _ _ rfl hxp (by omega) hv hF2 hf2 hl hvi
          refine w_iload3 dX10_roots_251 (w_iload7 dX10_roots_252 ?_)
          refine wp_if_eq 261 dX10_roots_254 rfl ⟨by omega, by omega⟩ (fun c254 => ?_) (fun c254 => ?_)
          · skip
            refine wp_iconst dX10_roots_261 ?_
            refine w_forget3 ?_
            refine w_forget7 ?_
            first
            | (have c9 : zRt p c t (x : Int) y := hbF.mp (by omega)
               exact L262 1 (by rw [zct_y (P := zRt p c t (x : Int)) c9, hm2]; push_cast; omega) (by omega))
            | (have c9 : ¬ zRt p c t (x : Int) y := fun q => by have := hbF.mpr q; omega
               exact L262 0 (by rw [zct_n (P := zRt p c t (x : Int)) c9, hm2]; omega) (by omega))
          · skip
            refine wp_iconst dX10_roots_257 (wp_goto 262 dX10_roots_258 rfl ?_)
            refine w_forget3 ?_
            refine w_forget7 ?_
            first
            | (have c9 : zRt p c t (x : Int) y := hbF.mp (by omega)
               exact L262 1 (by rw [zct_y (P := zRt p c t (x : Int)) c9, hm2]; push_cast; omega) (by omega))
            | (have c9 : ¬ zRt p c t (x : Int) y := fun q => by have := hbF.mpr q; omega
               exact L262 0 (by rw [zct_n (P := zRt p c t (x : Int)) c9, hm2]; omega) (by omega))
        have L224 : ∀ (w : Int), (k < 3) → (b ≠ 0) → ((w = 0 ∨ w = 1) ∧ (w = 1 ↔ zRtq p c t (x : Int) y (k + 1))) → WP mX10_roots (zMQ mX10_roots (zKI (fun r h' => zFr zFrt h h' ∧ (ii = -9 → r = (zcn p c t : Int)) ∧ (0 ≤ ii → zRtI p c t ii.toNat r)))) 224 [some (vR 445), some (vI t), some (vI ii), some (vI m2), some (vI (x : Int)), some (vI (y : Int)), some (vI ((y : Int) * (y : Int) % p)), none, some (vI (3 * (k : Int)))] [vI w] zN zGR h2 := by
          intro w hk3 hb1 hw
          refine w_istore7 dX10_roots_224 rfl (by decide) (w_iinc8 dX10_roots_226 rfl (by decide) (wp_goto 166 dX10_roots_229 rfl ?_))
          exact ih166 _ (by omega) (k + 1) _ rfl hyp (by omega) hw
        refine w_iload8 dX10_roots_166 (wp_bipush dX10_roots_168 (by decide) ?_)
        refine wp_icmp_ge 232 dX10_roots_170 rfl ⟨by omega, by omega⟩ ⟨by omega, by omega⟩ (fun c170 => ?_) (fun c170 => ?_)
        · skip
          refine w_iload7 dX10_roots_232 ?_
          refine wp_if_eq 251 dX10_roots_234 rfl ⟨by omega, by omega⟩ (fun c234 => ?_) (fun c234 => ?_)
          · skip
            refine w_forget6 ?_
            refine w_forget8 ?_
            have hbF : b = 1 ↔ zRt p c t (x : Int) y := by
              by_cases w : k = 3
              · rw [w] at hb; exact hb.2
              · have hb0 : b = 0 := by omega
                have hn : ¬ zRtq p c t (x : Int) y k := fun q => by have := hb.2.mpr q; omega
                exact ⟨fun q => by omega, fun q => absurd q (zRtq_n (by omega) hn)⟩
            first
            | exact L251 hbF (fun _ => c239)
            | exact L251 hbF (fun q => absurd (by first | exact c234 | omega) q)
          · skip
            refine w_iload3 dX10_roots_237 (w_iload2 dX10_roots_238 ?_)
            refine wp_icmp_ne 251 dX10_roots_239 rfl ⟨by omega, by omega⟩ ⟨by omega, by omega⟩ (fun c239 => ?_) (fun c239 => ?_)
            · skip
              refine w_forget6 ?_
              refine w_forget8 ?_
              have hbF : b = 1 ↔ zRt p c t (x : Int) y := by
                by_cases w : k = 3
                · rw [w] at hb; exact hb.2
                · have hb0 : b = 0 := by omega
                  have hn : ¬ zRtq p c t (x : Int) y k := fun q => by have := hb.2.mpr q; omega
                  exact ⟨fun q => by omega, fun q => absurd q (zRtq_n (by omega) hn)⟩
              first
              | exact L251 hbF (fun _ => c239)
              | exact L251 hbF (fun q => absurd (by first | exact c234 | omega) q)
            · skip
              refine wp_bipush dX10_roots_242 (by decide) (w_iload4 dX10_roots_244 (wp_imul dX10_roots_246 (w_iload5 dX10_roots_247 (wp_iadd dX10_roots_249 ?_))))
              refine r_i dX10_roots_250 rfl meX10_roots ?_
              have hb9 : zRt p c t (x : Int) y := by
                by_cases w : k = 3
                · rw [w] at hb; exact hb.2.mp (by omega)
                · exfalso; omega
              have hz := zRtI_of (p := p) (c := c) (t := t) (x := x) (y := y) hxp hyp hb9
              refine ⟨hF2, fun w => by omega, fun w => ?_⟩
              rw [show ii.toNat = zsumN (zcx p c t) x + zct (zRt p c t (x : Int)) y by omega]
              exact hz
        · skip
          refine w_iload7 dX10_roots_173 ?_
          refine wp_if_eq 232 dX10_roots_175 rfl ⟨by omega, by omega⟩ (fun c175 => ?_) (fun c175 => ?_)
          · skip
            refine w_iload7 dX10_roots_232 ?_
            refine wp_if_eq 251 dX10_roots_234 rfl ⟨by omega, by omega⟩ (fun c234 => ?_) (fun c234 => ?_)
            · skip
              refine w_forget6 ?_
              refine w_forget8 ?_
              have hbF : b = 1 ↔ zRt p c t (x : Int) y := by
                by_cases w : k = 3
                · rw [w] at hb; exact hb.2
                · have hb0 : b = 0 := by omega
                  have hn : ¬ zRtq p c t (x : Int) y k := fun q => by have := hb.2.mpr q; omega
                  exact ⟨fun q => by omega, fun q => absurd q (zRtq_n (by omega) hn)⟩
              first
              | exact L251 hbF (fun _ => c239)
              | exact L251 hbF (fun q => absurd (by first | exact c234 | omega) q)
            · skip
              refine w_iload3 dX10_roots_237 (w_iload2 dX10_roots_238 ?_)
              refine wp_icmp_ne 251 dX10_roots_239 rfl ⟨by omega, by omega⟩ ⟨by omega, by omega⟩ (fun c239 => ?_) (fun c239 => ?_)
              · skip
                refine w_forget6 ?_
                refine w_forget8 ?_
                have hbF : b = 1 ↔ zRt p c t (x : Int) y := by
                  by_cases w : k = 3
                  · rw [w] at hb; exact hb.2
                  · have hb0 : b = 0 := by omega
                    have hn : ¬ zRtq p c t (x : Int) y k := fun q => by have := hb.2.mpr q; omega
                    exact ⟨fun q => by omega, fun q => absurd q (zRtq_n (by omega) hn)⟩
                first
                | exact L251 hbF (fun _ => c239)
                | exact L251 hbF (fun q => absurd (by first | exact c234 | omega) q)
              · skip
                refine wp_bipush dX10_roots_242 (by decide) (w_iload4 dX10_roots_244 (wp_imul dX10_roots_246 (w_iload5 dX10_roots_247 (wp_iadd dX10_roots_249 ?_))))
                refine r_i dX10_roots_250 rfl meX10_roots ?_
                have hb9 : zRt p c t (x : Int) y := by
                  by_cases w : k = 3
                  · rw [w] at hb; exact hb.2.mp (by omega)
                  · exfalso; omega
                have hz := zRtI_of (p := p) (c := c) (t := t) (x := x) (y := y) hxp hyp hb9
                refine ⟨hF2, fun w => by omega, fun w => ?_⟩
                rw [show ii.toNat = zsumN (zcx p c t) x + zct (zRt p c t (x : Int)) y by omega]
                exact hz
          · skip
            refine w_aload0 dX10_roots_178 (wp_getr 465 dX10_roots_179 fl_RX10_67 is_445 rfl (w_iload8 dX10_roots_182 (x_iald (3 * k + 0) dX10_roots_184 is_465 (by omega) (by omega) ?_)))
            rw [l0 (by omega)]
            refine w_aload0 dX10_roots_185 (wp_getr 465 dX10_roots_186 fl_RX10_67 is_445 rfl (w_iload8 dX10_roots_189 (wp_iconst dX10_roots_191 (wp_iadd dX10_roots_192 (x_iald (3 * k + 1) dX10_roots_193 is_465 (by omega) (by omega) ?_)))))
            rw [l1 (by omega)]
            refine w_iload5 dX10_roots_194 (wp_imul dX10_roots_196 (wp_iadd dX10_roots_197 (w_aload0 dX10_roots_198 (wp_getr 465 dX10_roots_199 fl_RX10_67 is_445 rfl (w_iload8 dX10_roots_202 (wp_iconst dX10_roots_204 (wp_iadd dX10_roots_205 (x_iald (3 * k + 2) dX10_roots_206 is_465 (by omega) (by omega) ?_))))))))
            rw [l2 (by omega)]
            refine w_iload6 dX10_roots_207 (wp_imul dX10_roots_209 (wp_iadd dX10_roots_210 (w_aload0 dX10_roots_211 ?_)))
            apply v_i0 (M := mX10_roots) dX10_roots_212 lk_RX10_76 mvX10_p (by decide) meX10_roots is_445 (Nat.le_of_ble_eq_true rfl)
            · exact t_X10_p k02
            intro x212 h212 hP212
            obtain ⟨eh212, ex212⟩ := hP212
            replace eh212 := eh212.symm
            subst eh212
            replace ex212 := ex212.symm
            subst ex212
            refine wp_irem dX10_roots_215 (by omega) (by omega) ?_
            refine wp_if_ne 223 dX10_roots_216 rfl ⟨by omega, by omega⟩ (fun c216 => ?_) (fun c216 => ?_)
            · skip
              refine wp_iconst dX10_roots_223 ?_
              refine w_forget7 ?_
              have hbk : zRtq p c t (x : Int) y k := hb.2.mp (by omega)
              first
              | exact L224 1 (by omega) (by omega) ⟨Or.inr rfl, fun _ => zRtq_s.mpr ⟨hbk, by omega⟩, fun _ => rfl⟩
              | exact L224 0 (by omega) (by omega) ⟨Or.inl rfl, fun q => absurd q (by decide), fun q => by have := (zRtq_s.mp q).2; omega⟩
            · skip
              refine wp_iconst dX10_roots_219 (wp_goto 224 dX10_roots_220 rfl ?_)
              refine w_forget7 ?_
              have hbk : zRtq p c t (x : Int) y k := hb.2.mp (by omega)
              first
              | exact L224 1 (by omega) (by omega) ⟨Or.inr rfl, fun _ => zRtq_s.mpr ⟨hbk, by omega⟩, fun _ => rfl⟩
              | exact L224 0 (by omega) (by omega) ⟨Or.inl rfl, fun q => absurd q (by decide), fun q => by have := (zRtq_s.mp q).2; omega⟩
      refine w_iload5 dX10_roots_139 (w_aload0 dX10_roots_141 ?_)
      apply v_i0 (M := mX10_roots) dX10_roots_142 lk_RX10_76 mvX10_p (by decide) meX10_roots is_445 (Nat.le_of_ble_eq_true rfl)
      · exact t_X10_p k02
      intro x142 h142 hP142
      obtain ⟨eh142, ex142⟩ := hP142
      replace eh142 := eh142.symm
      subst eh142
      replace ex142 := ex142.symm
      subst ex142
      refine wp_icmp_ge 270 dX10_roots_145 rfl ⟨by omega, by omega⟩ ⟨by omega, by omega⟩ (fun c145 => ?_) (fun c145 => ?_)
      · skip
        refine w_iinc4 dX10_roots_270 rfl (by decide) (wp_goto 43 dX10_roots_273 rfl ?_)
        refine w_forget5 ?_
        refine ih43 _ (by omega) (x + 1) _ _ rfl (by omega) ?_ hF2 hf2 hmi2
        rw [hm2]
        show _ = ((zsumN (zcx p c t) x + zct (zRt p c t (x : Int)) p.toNat : Nat) : Int)
        rw [show y = p.toNat by omega]
      · skip
        refine w_iload5 dX10_roots_148 (w_iload5 dX10_roots_150 (wp_imul dX10_roots_152 (w_aload0 dX10_roots_153 ?_)))
        apply v_i0 (M := mX10_roots) dX10_roots_154 lk_RX10_76 mvX10_p (by decide) meX10_roots is_445 (Nat.le_of_ble_eq_true rfl)
        · exact t_X10_p k02
        intro x154 h154 hP154
        obtain ⟨eh154, ex154⟩ := hP154
        replace eh154 := eh154.symm
        subst eh154
        replace ex154 := ex154.symm
        subst ex154
        have hyy2 := hyy (by omega)
        refine wp_irem dX10_roots_157 (by omega) (by omega) (w_istore6 dX10_roots_158 rfl (by decide) (wp_iconst dX10_roots_160 (w_istore7 dX10_roots_161 rfl (by decide) (wp_iconst dX10_roots_163 (w_istore8 dX10_roots_164 rfl (by decide) ?_)))))
        exact L166 _ 0 1 rfl (by omega) (Nat.zero_le _) ⟨Or.inr rfl, fun _ k hk => absurd hk (Nat.not_lt_zero k), fun _ => rfl⟩
    have L55 : ∀ (zm55 : Nat) (q : Nat) (h2 : zH), 9 - q = zm55 → ((x : Int) < p) → (q ≤ 9) → (h2 = zfl h' 465 q (fun q => zln p c t (x : Int) (q / 3) (q % 3))) → WP mX10_roots (zMQ mX10_roots (zKI (fun r h' => zFr zFrt h h' ∧ (ii = -9 → r = (zcn p c t : Int)) ∧ (0 ≤ ii → zRtI p c t ii.toNat r)))) 55 [some (vR 445), some (vI t), some (vI ii), some (vI m), some (vI (x : Int)), some (vI (q : Int)), none, none, none] [] zN zGR h2 := by
      intro zm55
      induction zm55 using Nat.strongRecOn with | _ zm55 ih55 => ?_
      intro q h2 hzm55 hxp hq hh2
      subst hzm55
      have k02 : h2 446 0 = p := by rw [hh2, zfl_o (by omega)]; exact k0
      have g : ∀ d, d < 27 → h2 464 d = zcut p c (d / 9) (d % 9) t := fun d hd => by rw [hh2, zfl_o (by omega)]; exact hf d hd
      have b0 := zcut_in hs (q / 3) (q % 3) t
      have b1 := zcut_in hs (q / 3) (3 + q % 3) t
      have b2 := zcut_in hs (q / 3) (6 + q % 3) t
      have m1 := z_mb b1 (b := (x : Int)) ⟨by omega, hxp⟩ hp.2
      have m2 := z_mb (a := (x : Int)) (b := (x : Int)) ⟨by omega, hxp⟩ ⟨by omega, hxp⟩ hp.2
      have m3 := z_mod hpp ((x : Int) * (x : Int))
      have m4 := z_mb b2 m3 hp.2
      refine w_iload5 dX10_roots_55 (wp_bipush dX10_roots_57 (by decide) ?_)
      refine wp_icmp_ge 136 dX10_roots_59 rfl ⟨by omega, by omega⟩ ⟨by omega, by omega⟩ (fun c59 => ?_) (fun c59 => ?_)
      · skip
        refine wp_iconst dX10_roots_136 (w_istore5 dX10_roots_137 rfl (by decide) ?_)
        refine L139 _ 0 _ _ rfl hxp (by omega) (by rw [hm]; rfl) (fun a j n => ?_) (fun j hj => ?_) (fun j hj => ?_) hmi
        · have n2 := n
          unfold zFrt at n2
          rw [hh2, zfl_o (by omega)]
          exact hF a j n
        · rw [hh2, zfl_o (by omega)]; exact hf j hj
        · rw [hh2, show q = 9 by omega, zfl_i hj]
      · skip
        refine wp_bipush dX10_roots_62 (by decide) (w_iload5 dX10_roots_64 (wp_iconst dX10_roots_66 (wp_idiv dX10_roots_67 (by omega) (by omega) (wp_imul dX10_roots_68 (w_iload5 dX10_roots_69 (wp_iconst dX10_roots_71 (wp_irem dX10_roots_72 (by omega) (by omega) (wp_iadd dX10_roots_73 (w_istore6 dX10_roots_74 rfl (by decide) ?_)))))))))
        refine w_aload0 dX10_roots_76 (wp_getr 465 dX10_roots_77 fl_RX10_67 is_445 rfl (w_iload5 dX10_roots_80 (w_aload0 dX10_roots_82 (wp_getr 464 dX10_roots_83 fl_RX10_64 is_445 rfl (w_iload6 dX10_roots_86 (x_iald (9 * (q / 3) + q % 3) dX10_roots_88 is_464 (by omega) (by omega) ?_))))))
        rw [g _ (by omega), show (9 * (q / 3) + q % 3) / 9 = q / 3 by omega, show (9 * (q / 3) + q % 3) % 9 = q % 3 by omega]
        refine w_aload0 dX10_roots_89 (wp_getr 464 dX10_roots_90 fl_RX10_64 is_445 rfl (w_iload6 dX10_roots_93 (wp_iconst dX10_roots_95 (wp_iadd dX10_roots_96 (x_iald (9 * (q / 3) + q % 3 + 3) dX10_roots_97 is_464 (by omega) (by omega) ?_)))))
        rw [g _ (by omega), show (9 * (q / 3) + q % 3 + 3) / 9 = q / 3 by omega, show (9 * (q / 3) + q % 3 + 3) % 9 = 3 + q % 3 by omega]
        refine w_iload4 dX10_roots_98 (wp_imul dX10_roots_100 (wp_iadd dX10_roots_101 (w_aload0 dX10_roots_102 (wp_getr 464 dX10_roots_103 fl_RX10_64 is_445 rfl (w_iload6 dX10_roots_106 (wp_bipush dX10_roots_108 (by decide) (wp_iadd dX10_roots_110 (x_iald (9 * (q / 3) + q % 3 + 6) dX10_roots_111 is_464 (by omega) (by omega) ?_))))))))
        rw [g _ (by omega), show (9 * (q / 3) + q % 3 + 6) / 9 = q / 3 by omega, show (9 * (q / 3) + q % 3 + 6) % 9 = 6 + q % 3 by omega]
        refine w_iload4 dX10_roots_112 (w_iload4 dX10_roots_114 (wp_imul dX10_roots_116 (w_aload0 dX10_roots_117 ?_)))
        apply v_i0 (M := mX10_roots) dX10_roots_118 lk_RX10_76 mvX10_p (by decide) meX10_roots is_445 (Nat.le_of_ble_eq_true rfl)
        · exact t_X10_p k02
        intro x118 h118 hP118
        obtain ⟨eh118, ex118⟩ := hP118
        replace eh118 := eh118.symm
        subst eh118
        replace ex118 := ex118.symm
        subst ex118
        refine wp_irem dX10_roots_121 (by omega) (by omega) (wp_imul dX10_roots_122 (wp_iadd dX10_roots_123 (w_aload0 dX10_roots_124 ?_)))
        apply v_i0 (M := mX10_roots) dX10_roots_125 lk_RX10_76 mvX10_p (by decide) meX10_roots is_445 (Nat.le_of_ble_eq_true rfl)
        · exact t_X10_p k02
        intro x125 h125 hP125
        obtain ⟨eh125, ex125⟩ := hP125
        replace eh125 := eh125.symm
        subst eh125
        replace ex125 := ex125.symm
        subst ex125
        refine wp_irem dX10_roots_128 (by omega) (by omega) (x_iast q dX10_roots_129 is_465 rfl (by omega) (w_iinc5 dX10_roots_130 rfl (by decide) (wp_goto 55 dX10_roots_133 rfl ?_)))
        refine w_forget6 ?_
        exact ih55 _ (by omega) (q + 1) _ rfl hxp (by omega) (by rw [hh2]; exact zfl_s zln_m)
    refine w_iload4 dX10_roots_43 (w_aload0 dX10_roots_45 ?_)
    apply v_i0 (M := mX10_roots) dX10_roots_46 lk_RX10_76 mvX10_p (by decide) meX10_roots is_445 (Nat.le_of_ble_eq_true rfl)
    · exact t_X10_p k0
    intro x46 h46 hP46
    obtain ⟨eh46, ex46⟩ := hP46
    replace eh46 := eh46.symm
    subst eh46
    replace ex46 := ex46.symm
    subst ex46
    refine wp_icmp_ge 276 dX10_roots_49 rfl ⟨by omega, by omega⟩ ⟨by omega, by omega⟩ (fun c49 => ?_) (fun c49 => ?_)
    · skip
      refine w_iload2 dX10_roots_276 (wp_bipush dX10_roots_277 (by decide) ?_)
      refine wp_icmp_ne 286 dX10_roots_279 rfl ⟨by omega, by omega⟩ ⟨by omega, by omega⟩ (fun c279 => ?_) (fun c279 => ?_)
      · skip
        refine wp_bipush dX10_roots_286 (by decide) ?_
        refine r_i dX10_roots_288 rfl meX10_roots ?_
        have hx9 : x = p.toNat := by omega
        have hz : (zcn p c t : Int) = m := by rw [hm, hx9]; rfl
        first
        | (have c9 : ii = -9 := by omega
           exact ⟨hF, fun _ => hz.symm, fun w => by omega⟩)
        | exact ⟨hF, fun w => by omega, fun w => Or.inr ⟨by omega, rfl⟩⟩
      · skip
        refine w_iload3 dX10_roots_282 (wp_goto 288 dX10_roots_283 rfl ?_)
        refine r_i dX10_roots_288 rfl meX10_roots ?_
        have hx9 : x = p.toNat := by omega
        have hz : (zcn p c t : Int) = m := by rw [hm, hx9]; rfl
        first
        | (have c9 : ii = -9 := by omega
           exact ⟨hF, fun _ => hz.symm, fun w => by omega⟩)
        | exact ⟨hF, fun w => by omega, fun w => Or.inr ⟨by omega, rfl⟩⟩
    · skip
      refine wp_iconst dX10_roots_52 (w_istore5 dX10_roots_53 rfl (by decide) ?_)
      exact L55 _ 0 _ rfl (by omega) (Nat.zero_le _) zfl_0.symm
  have L2 : ∀ (zm2 : Nat) (q : Nat) (h' : zH), 27 - q = zm2 → (q ≤ 27) → (h' = zfl h 464 q (fun q => zcut p c (q / 9) (q % 9) t)) → WP mX10_roots (zMQ mX10_roots (zKI (fun r h' => zFr zFrt h h' ∧ (ii = -9 → r = (zcn p c t : Int)) ∧ (0 ≤ ii → zRtI p c t ii.toNat r)))) 2 [some (vR 445), some (vI t), some (vI ii), some (vI (q : Int)), none, none, none, none, none] [] zN zGR h' := by
    intro zm2
    induction zm2 using Nat.strongRecOn with | _ zm2 ih2 => ?_
    intro q h' hzm2 hq hh
    subst hzm2
    have hR' : zMr p c h' := zMr_fr hR (fun j _ => by rw [hh, zfl_o (by omega)])
    refine w_iload3 dX10_roots_2 (wp_bipush dX10_roots_3 (by decide) ?_)
    refine wp_icmp_ge 38 dX10_roots_5 rfl ⟨by omega, by omega⟩ ⟨by omega, by omega⟩ (fun c5 => ?_) (fun c5 => ?_)
    · skip
      refine wp_iconst dX10_roots_38 (w_istore3 dX10_roots_39 rfl (by decide) (wp_iconst dX10_roots_40 (w_istore4 dX10_roots_41 rfl (by decide) ?_)))
      exact L43 _ 0 _ _ rfl (by omega) rfl (fun a j n => by unfold zFrt at n; rw [hh, zfl_o (by omega)]) (fun j hj => by rw [hh, show q = 27 by omega, zfl_i hj]) (fun w => w)
    · skip
      refine w_aload0 dX10_roots_8 (wp_getr 464 dX10_roots_9 fl_RX10_64 is_445 rfl (w_iload3 dX10_roots_12 (w_aload0 dX10_roots_13 (w_iload3 dX10_roots_14 (wp_bipush dX10_roots_15 (by decide) (wp_idiv dX10_roots_17 (by omega) (by omega) (w_iload3 dX10_roots_18 (wp_bipush dX10_roots_19 (by decide) (wp_irem dX10_roots_21 (by omega) (by omega) ?_)))))))))
      refine wp_iconst dX10_roots_22 (wp_idiv dX10_roots_23 (by omega) (by omega) (w_iload3 dX10_roots_24 (wp_iconst dX10_roots_25 (wp_irem dX10_roots_26 (by omega) (by omega) (w_iload1 dX10_roots_27 ?_)))))
      apply v_i4 (M := mX10_roots) dX10_roots_28 lk_RX10_163 mvX10_cut (by decide) meX10_roots is_445 (Nat.le_of_ble_eq_true rfl)
      · exact t_X10_cut (k := q / 9) (i := q % 9 / 3) (j := q % 3) (by omega) (by omega) (by omega) (by omega) (by omega) (by omega) hs hR' ht
      intro x28 h28 hP28
      obtain ⟨eh28, ex28⟩ := hP28
      replace eh28 := eh28.symm
      subst eh28
      replace ex28 := ex28.symm
      subst ex28
      refine x_iast q dX10_roots_31 is_464 rfl (by omega) (w_iinc3 dX10_roots_32 rfl (by decide) (wp_goto 2 dX10_roots_35 rfl ?_))
      exact ih2 _ (by omega) (q + 1) _ rfl (by omega) (by rw [hh]; exact zfl_s (by rw [show 3 * (q % 9 / 3) + q % 3 = q % 9 by omega]))
  refine wp_iconst dX10_roots_0 (w_istore3 dX10_roots_1 rfl (by decide) ?_)
  exact L2 _ 0 _ rfl (Nat.zero_le _) zfl_0.symm
set_option maxRecDepth 100000 in
set_option maxHeartbeats 4000000 in
theorem t_X10_knowsRoots {h : zH} {p : Int} {c : Nat → Nat → Int} (hs : zSt p c) (hR : zMr p c h) (hO : zMo p c h) : CV yX10_knowsRoots mX10_knowsRoots [vR 445] h (fun h' => zFr zFkr h h' ∧ h' 445 32 = 1 ∧ zKo p c h') := by
  refine inV [some (vR 445), none] mvX10_knowsRoots rfl (Nat.le_of_ble_eq_true rfl) rfl ?_
  have hp := hs.p
  have hpp : 0 < p := by omega
  have h32b : h 445 32 = 0 ∨ h 445 32 = 1 := hO.imp id (fun q => q.1)
  have L25 : ∀ (zm25 : Nat) (t : Nat) (h' : zH), p.toNat - t = zm25 → ((t : Int) ≤ p) → (zFr zFkr h h') → (h' 445 32 = 1) → (h' 445 33 = (zmk (fun t => 0 < zcn p c (t : Int)) t : Int)) → (h' 445 34 = (zsumN (fun t => zcn p c (t : Int)) t : Int)) → (∀ q, q < t → h' 463 q = (zcn p c (q : Int) : Int)) → WP mX10_knowsRoots (zMQ mX10_knowsRoots (zKV (fun h' => zFr zFkr h h' ∧ h' 445 32 = 1 ∧ zKo p c h'))) 25 [some (vR 445), some (vI (t : Int))] [] zN zGR h' := by
    intro zm25
    induction zm25 using Nat.strongRecOn with | _ zm25 ih25 => ?_
    intro t h' hzm25 ht hF h32 h33 h34 hm
    subst hzm25
    have hR' : zMr p c h' := zMr_fr hR (fun j _ => hF _ _ (by unfold zFkr; omega))
    have hmb := zmk_b8 (P := fun t => 0 < zcn p c (t : Int)) (i := t) (by omega)
    have hcl := zcn_le hp.2 (c := c) (t := (t : Int))
    have L67 : ∀ (h42 : zH) (w : Int), ((t : Int) < p) → (zFr zFrt h' h42) → ((w = 0 ∧ ¬ 0 < zcn p c (t : Int)) ∨ (w = 1 * 2 ^ ((t : Nat) : Int).toNat ∧ 0 < zcn p c (t : Int))) → WP mX10_knowsRoots (zMQ mX10_knowsRoots (zKV (fun h' => zFr zFkr h h' ∧ h' 445 32 = 1 ∧ zKo p c h'))) 67 [some (vR 445), some (vI (t : Int))] [vI w, vI (zmk (fun t => 0 < zcn p c (t : Int)) t : Int), vR 445] zN zGR (zup h42 463 t (zcn p c (t : Int) : Int)) := by
      intro h42 w htp f42 hw
      have hwb : 0 ≤ w ∧ w < 2147483648 := by
        rcases hw with ⟨a, -⟩ | ⟨a, -⟩
        · omega
        · rw [a]; exact z_1s t (by omega)
      refine wp_ior dX10_knowsRoots_67 (by omega) hwb (wp_puti dX10_knowsRoots_68 fl_RX10_245 is_445 rfl (w_aload0 dX10_knowsRoots_71 (wp_dup dX10_knowsRoots_72 rfl (wp_geti dX10_knowsRoots_73 fl_RX10_284 is_445 (w_aload0 dX10_knowsRoots_76 ?_)))))
      rw [show ∀ v, zup (zup h42 463 t (zcn p c (t : Int) : Int)) 445 33 v 445 34 = (zsumN (fun t => zcn p c (t : Int)) t : Int) from fun v => by rw [zup_o (by omega), zup_o (by omega), f42 _ _ (by unfold zFrt; omega)]; exact h34]
      refine wp_getr 463 dX10_knowsRoots_77 fl_RX10_61 is_445 rfl (w_iload1 dX10_knowsRoots_80 (x_iald t dX10_knowsRoots_81 is_463 rfl (by omega) ?_))
      rw [show ∀ v, zup (zup h42 463 t (zcn p c (t : Int) : Int)) 445 33 v 463 t = (zcn p c (t : Int) : Int) from fun v => by rw [zup_o (by omega), zup_s]]
      refine wp_iadd dX10_knowsRoots_82 (wp_puti dX10_knowsRoots_83 fl_RX10_284 is_445 rfl (w_iinc1 dX10_knowsRoots_86 rfl (by decide) (wp_goto 25 dX10_knowsRoots_89 rfl ?_)))
      have n34 : zup (zup h42 463 t (zcn p c (t : Int) : Int)) 445 33 (((zmk (fun t => 0 < zcn p c (t : Int)) t : Nat) : Int).toNat ||| w.toNat : Nat) = zup (zup h42 463 t (zcn p c (t : Int) : Int)) 445 33 (zmk (fun t => 0 < zcn p c (t : Int)) (t + 1) : Int) := by
        rcases hw with ⟨a, b⟩ | ⟨a, b⟩
        · rw [a, z_or0, zmk_n (P := fun t => 0 < zcn p c (t : Int)) b]
        · rw [a, z_or1, zmk_or, zmk_y (P := fun t => 0 < zcn p c (t : Int)) b]
      rw [n34]
      have hFz : zFr zFkr h h42 := fun a j n => by rw [f42 a j (fun q => n (by unfold zFrt at q; unfold zFkr; omega))]; exact hF a j n
      refine ih25 _ (by omega) (t + 1) _ rfl (by omega) (fun a j n => ?_) ?_ ?_ ?_ (fun q hq => ?_)
      · have n2 := n
        unfold zFkr at n2
        rw [zup_o (by omega), zup_o (by omega), zup_o (by omega)]
        exact hFz a j n
      · rw [zup_o (by omega), zup_o (by omega), zup_o (by omega), f42 _ _ (by unfold zFrt; omega)]; exact h32
      · rw [zup_o (by omega), zup_s]
      · rw [zup_s]
        show _ = ((zsumN (fun t => zcn p c (t : Int)) t + zcn p c (t : Int) : Nat) : Int)
        omega
      · rw [zup_o (by omega), zup_o (by omega)]
        by_cases e : q = t
        · rw [e, zup_s]
        · rw [zup_o (by omega), f42 _ _ (by unfold zFrt; omega)]
          exact hm q (by omega)
    refine w_iload1 dX10_knowsRoots_25 (w_aload0 dX10_knowsRoots_26 ?_)
    apply v_i0 (M := mX10_knowsRoots) dX10_knowsRoots_27 lk_RX10_76 mvX10_p (by decide) meX10_knowsRoots is_445 (Nat.le_of_ble_eq_true rfl)
    · exact t_X10_p hR'.1
    intro x27 h27 hP27
    obtain ⟨eh27, ex27⟩ := hP27
    replace eh27 := eh27.symm
    subst eh27
    replace ex27 := ex27.symm
    subst ex27
    refine wp_icmp_ge 92 dX10_knowsRoots_30 rfl ⟨by omega, by omega⟩ ⟨by omega, by omega⟩ (fun c30 => ?_) (fun c30 => ?_)
    · skip
      refine r_v dX10_knowsRoots_92 rfl meX10_knowsRoots ?_
      have ht9 : t = p.toNat := by omega
      rw [ht9] at h33 h34
      exact ⟨hF, h32, h33, h34, fun q hq => hm q (by omega)⟩
    · skip
      refine w_aload0 dX10_knowsRoots_33 (wp_getr 463 dX10_knowsRoots_34 fl_RX10_61 is_445 rfl (w_iload1 dX10_knowsRoots_37 (w_aload0 dX10_knowsRoots_38 (w_iload1 dX10_knowsRoots_39 (wp_bipush dX10_knowsRoots_40 (by decide) ?_)))))
      apply v_i2 (M := mX10_knowsRoots) dX10_knowsRoots_42 lk_RX10_287 mvX10_roots (by decide) meX10_knowsRoots is_445 (Nat.le_of_ble_eq_true rfl)
      · exact t_X10_roots hs hR' ⟨by omega, by omega⟩ (Or.inl rfl)
      intro x42 h42 hP42
      obtain ⟨f42, g42, -⟩ := hP42
      replace g42 := g42 rfl
      subst g42
      have e33 : zup h42 463 t (zcn p c (t : Int) : Int) 445 33 = (zmk (fun t => 0 < zcn p c (t : Int)) t : Int) := by rw [zup_o (by omega), f42 _ _ (by unfold zFrt; omega)]; exact h33
      refine x_iast t dX10_knowsRoots_45 is_463 rfl (by omega) (w_aload0 dX10_knowsRoots_46 (wp_dup dX10_knowsRoots_47 rfl (wp_geti dX10_knowsRoots_48 fl_RX10_245 is_445 (w_aload0 dX10_knowsRoots_51 ?_))))
      rw [e33]
      refine wp_getr 463 dX10_knowsRoots_52 fl_RX10_61 is_445 rfl (w_iload1 dX10_knowsRoots_55 (x_iald t dX10_knowsRoots_56 is_463 rfl (by omega) ?_))
      rw [zup_s]
      refine wp_if_le 66 dX10_knowsRoots_57 rfl ⟨by omega, by omega⟩ (fun c57 => ?_) (fun c57 => ?_)
      · skip
        refine wp_iconst dX10_knowsRoots_66 ?_
        first
        | exact L67 _ _ (by omega) f42 (Or.inr ⟨rfl, by omega⟩)
        | exact L67 _ _ (by omega) f42 (Or.inl ⟨rfl, by omega⟩)
      · skip
        refine wp_iconst dX10_knowsRoots_60 (w_iload1 dX10_knowsRoots_61 (wp_ishl dX10_knowsRoots_62 (by omega) (wp_goto 67 dX10_knowsRoots_63 rfl ?_)))
        first
        | exact L67 _ _ (by omega) f42 (Or.inr ⟨rfl, by omega⟩)
        | exact L67 _ _ (by omega) f42 (Or.inl ⟨rfl, by omega⟩)
  refine w_aload0 dX10_knowsRoots_0 (wp_getz dX10_knowsRoots_1 fl_RX10_99 is_445 ?_)
  refine wp_if_eq 8 dX10_knowsRoots_4 rfl ⟨by omega, by omega⟩ (fun c4 => ?_) (fun c4 => ?_)
  · skip
    refine w_aload0 dX10_knowsRoots_8 (wp_iconst dX10_knowsRoots_9 (wp_putz dX10_knowsRoots_10 fl_RX10_99 is_445 rfl (by first | exact Or.inl rfl | exact Or.inr rfl) (w_aload0 dX10_knowsRoots_13 (wp_iconst dX10_knowsRoots_14 (wp_puti dX10_knowsRoots_15 fl_RX10_245 is_445 rfl (w_aload0 dX10_knowsRoots_18 (wp_iconst dX10_knowsRoots_19 (wp_puti dX10_knowsRoots_20 fl_RX10_284 is_445 rfl (wp_iconst dX10_knowsRoots_23 ?_)))))))))
    refine w_istore1 dX10_knowsRoots_24 rfl (by decide) ?_
    refine L25 _ 0 _ rfl (by omega) (fun a j n => ?_) ?_ ?_ ?_ (fun q hq => absurd hq (Nat.not_lt_zero q))
    · unfold zFkr at n
      rw [zup_o (by omega), zup_o (by omega), zup_o (by omega)]
    · rw [zup_o (by omega), zup_o (by omega), zup_s]
    · rw [zup_o (by omega), zup_s]; rfl
    · rw [zup_s]; rfl
  · skip
    refine r_v dX10_knowsRoots_7 rfl meX10_knowsRoots ?_
    exact ⟨zFr.rf, by rcases hO with q | q; exact absurd q c4; exact q.1, by rcases hO with q | q; exact absurd q c4; exact q.2⟩
set_option maxRecDepth 100000 in
set_option maxHeartbeats 4000000 in
theorem t_X10_commonRoots {h : zH} {p : Int} {c : Nat → Nat → Int} {hs : List (Int × (Nat → Nat → Int))} {tx : Nat → Int} {L : Nat} (H : zVd p c hs tx L h) {t : Int} (zt : zin t) : CI yX10_commonRoots mX10_commonRoots [vR 445, vI t] h (fun r h' => zPV (sp_commonRoots (p, c, hs, tx, L) t) h r h') := by
  refine inV [some (vR 445), some (vI t)] mvX10_commonRoots rfl (Nat.le_of_ble_eq_true rfl) rfl ?_
  obtain ⟨hs1, hR, hH, hT, hK, hO⟩ := id H
  have hp := hs1.p
  have hp0 : h 446 0 = p := hR.1
  have hpp : 0 < p := by omega
  have zt1 := zt.1
  have zt2 := zt.2
  refine w_aload0 dX10_commonRoots_0 (w_iload1 dX10_commonRoots_1 ?_)
  apply v_i1 (M := mX10_commonRoots) dX10_commonRoots_2 lk_RX10_142 mvX10_isNumber (by decide) meX10_commonRoots is_445 (Nat.le_of_ble_eq_true rfl)
  · exact t_X10_isNumber zt hp hp0
  intro x2 h2 hP2
  obtain ⟨eh2, hP2⟩ := hP2
  replace eh2 := eh2.symm
  subst eh2
  refine wp_if_ne 10 dX10_commonRoots_5 rfl ⟨by omega, by omega⟩ (fun c5 => ?_) (fun c5 => ?_)
  · skip
    refine w_aload0 dX10_commonRoots_10 ?_
    apply v_v0 (M := mX10_commonRoots) dX10_commonRoots_11 lk_RX10_235 mvX10_knowsRoots (by decide) meX10_commonRoots is_445 (Nat.le_of_ble_eq_true rfl)
    · exact t_X10_knowsRoots hs1 hR hO
    intro h11 hP11
    obtain ⟨fk, ak, bk⟩ := hP11
    have hVk : zVd p c hs tx L h11 := ⟨hs1, zMr_fr hR (fun j _ => fk _ _ (by unfold zFkr; omega)), ⟨zMb_fr hH.1 (fun a j ha => fk _ _ (by unfold zFkr; omega)), hH.2⟩, zMt_fr hT (fun a j ha => fk _ _ (by unfold zFkr; omega)), zMk_fr hK (fun a j ha => fk _ _ (by unfold zKnF at ha; unfold zFkr; omega)), Or.inr ⟨ak, bk⟩⟩
    have hXk : zFV h h11 := fun a j ha => fk _ _ (by unfold zFkr; omega)
    refine w_aload0 dX10_commonRoots_14 (wp_getr 463 dX10_commonRoots_15 fl_RX10_61 is_445 rfl (w_iload1 dX10_commonRoots_18 (x_iald t.toNat dX10_commonRoots_19 is_463 (by omega) (by omega) ?_)))
    refine r_i dX10_commonRoots_20 rfl meX10_commonRoots ?_
    exact zPV_q hVk hXk (zif_y (by first | omega | (dsimp only; omega))) (by rw [bk.2.2 _ (by omega), show ((t.toNat : Nat) : Int) = t by omega])
  · skip
    refine wp_iconst dX10_commonRoots_8 ?_
    refine r_i dX10_commonRoots_9 rfl meX10_commonRoots ?_
    exact zPV_q H zFV_r (zif_n (by first | omega | (dsimp only; omega))) rfl
set_option maxRecDepth 100000 in
set_option maxHeartbeats 4000000 in
theorem t_X10_commonRoot {h : zH} {p : Int} {c : Nat → Nat → Int} {hs : List (Int × (Nat → Nat → Int))} {tx : Nat → Int} {L : Nat} (H : zVd p c hs tx L h) {t i : Int} (zt : zin t) (zi : zin i) : CI yX10_commonRoot mX10_commonRoot [vR 445, vI t, vI i] h (fun r h' => zPV (sp_commonRoot (p, c, hs, tx, L) t i) h r h') := by
  refine inV [some (vR 445), some (vI t), some (vI i)] mvX10_commonRoot rfl (Nat.le_of_ble_eq_true rfl) rfl ?_
  obtain ⟨hs1, hR, hH, hT, hK, hO⟩ := id H
  have hp := hs1.p
  have hp0 : h 446 0 = p := hR.1
  have hpp : 0 < p := by omega
  have zt1 := zt.1
  have zt2 := zt.2
  have zi1 := zi.1
  have zi2 := zi.2
  refine w_aload0 dX10_commonRoot_0 (w_iload1 dX10_commonRoot_1 ?_)
  apply v_i1 (M := mX10_commonRoot) dX10_commonRoot_2 lk_RX10_142 mvX10_isNumber (by decide) meX10_commonRoot is_445 (Nat.le_of_ble_eq_true rfl)
  · exact t_X10_isNumber zt hp hp0
  intro x2 h2 hP2
  obtain ⟨eh2, hP2⟩ := hP2
  replace eh2 := eh2.symm
  subst eh2
  refine wp_if_eq 21 dX10_commonRoot_5 rfl ⟨by omega, by omega⟩ (fun c5 => ?_) (fun c5 => ?_)
  · skip
    refine wp_iconst dX10_commonRoot_21 ?_
    refine r_i dX10_commonRoot_22 rfl meX10_commonRoot ?_
    first
    | exact zPV_q hVr hXr (zif_y (by first | omega | (dsimp only; omega))) (zrtF_eq (br (by omega)))
    | exact zPV_q H zFV_r (zif_n (by first | omega | (dsimp only; omega))) rfl
  · skip
    refine w_iload2 dX10_commonRoot_8 ?_
    refine wp_if_lt 21 dX10_commonRoot_9 rfl ⟨by omega, by omega⟩ (fun c9 => ?_) (fun c9 => ?_)
    · skip
      refine wp_iconst dX10_commonRoot_21 ?_
      refine r_i dX10_commonRoot_22 rfl meX10_commonRoot ?_
      first
      | exact zPV_q hVr hXr (zif_y (by first | omega | (dsimp only; omega))) (zrtF_eq (br (by omega)))
      | exact zPV_q H zFV_r (zif_n (by first | omega | (dsimp only; omega))) rfl
    · skip
      refine w_aload0 dX10_commonRoot_12 (w_iload1 dX10_commonRoot_13 (w_iload2 dX10_commonRoot_14 ?_))
      apply v_i2 (M := mX10_commonRoot) dX10_commonRoot_15 lk_RX10_287 mvX10_roots (by decide) meX10_commonRoot is_445 (Nat.le_of_ble_eq_true rfl)
      · exact t_X10_roots hs1 hR (by omega) (Or.inr (by omega))
      intro x15 h15 hP15
      obtain ⟨fr, -, br⟩ := hP15
      have hVr : zVd p c hs tx L h15 := zVd_fr H (fun a j ha => fr _ _ (by unfold zVFm zKnF zKoF at ha; unfold zFrt; omega))
      have hXr : zFV h h15 := fun a j ha => fr _ _ (by unfold zFrt; omega)
      refine wp_goto 22 dX10_commonRoot_18 rfl ?_
      refine r_i dX10_commonRoot_22 rfl meX10_commonRoot ?_
      first
      | exact zPV_q hVr hXr (zif_y (by first | omega | (dsimp only; omega))) (zrtF_eq (br (by omega)))
      | exact zPV_q H zFV_r (zif_n (by first | omega | (dsimp only; omega))) rfl
set_option maxRecDepth 100000 in
set_option maxHeartbeats 4000000 in
theorem t_X10_solvable {h : zH} {p : Int} {c : Nat → Nat → Int} {hs : List (Int × (Nat → Nat → Int))} {tx : Nat → Int} {L : Nat} (H : zVd p c hs tx L h) : CI yX10_solvable mX10_solvable [vR 445] h (fun r h' => zPV (sp_solvable (p, c, hs, tx, L)) h r h') := by
  refine inV [some (vR 445)] mvX10_solvable rfl (Nat.le_of_ble_eq_true rfl) rfl ?_
  obtain ⟨hs1, hR, hH, hT, hK, hO⟩ := id H
  have hp := hs1.p
  have hp0 : h 446 0 = p := hR.1
  have hpp : 0 < p := by omega
  refine w_aload0 dX10_solvable_0 ?_
  apply v_v0 (M := mX10_solvable) dX10_solvable_1 lk_RX10_235 mvX10_knowsRoots (by decide) meX10_solvable is_445 (Nat.le_of_ble_eq_true rfl)
  · exact t_X10_knowsRoots hs1 hR hO
  intro h1 hP1
  obtain ⟨fk, ak, bk⟩ := hP1
  have hVk : zVd p c hs tx L h1 := ⟨hs1, zMr_fr hR (fun j _ => fk _ _ (by unfold zFkr; omega)), ⟨zMb_fr hH.1 (fun a j ha => fk _ _ (by unfold zFkr; omega)), hH.2⟩, zMt_fr hT (fun a j ha => fk _ _ (by unfold zFkr; omega)), zMk_fr hK (fun a j ha => fk _ _ (by unfold zKnF at ha; unfold zFkr; omega)), Or.inr ⟨ak, bk⟩⟩
  have hXk : zFV h h1 := fun a j ha => fk _ _ (by unfold zFkr; omega)
  refine w_aload0 dX10_solvable_4 (wp_geti dX10_solvable_5 fl_RX10_245 is_445 ?_)
  refine r_i dX10_solvable_8 rfl meX10_solvable ?_
  exact zPV_q hVk hXk rfl bk.1
