
/-- a minor with as many coefficients as an eliminant has -/
def zpx (p : Int) (E : Nat → Nat → Int) (R C : Nat → Nat) (s e : Nat) : Int := if e < 6 * zb8 s + 1 then zMi p E R C s e else 0
theorem zMi_in {p : Int} (hp : 1 < p) {E : Nat → Nat → Int} {R C : Nat → Nat} (s e : Nat) : 0 ≤ zMi p E R C s e ∧ zMi p E R C s e < p := zmn_in hp _ _ _
theorem zpx_in {p : Int} (hp : 1 < p) {E : Nat → Nat → Int} {R C : Nat → Nat} (s e : Nat) : 0 ≤ zpx p E R C s e ∧ zpx p E R C s e < p := by
  unfold zpx
  split
  · exact zMi_in hp s e
  · omega
def zyy (p : Int) (E : Nat → Nat → Int) (R C : Nat → Nat) (s i b a : Nat) : Int := if a ≤ i then zsgn s b * E (8 * R (zb8 s - 1) + C b) a * zpx p E R C (s ^^^ 2 ^ b) (i - a) else 0
def zxx (p : Int) (E : Nat → Nat → Int) (R C : Nat → Nat) (s i b : Nat) : Int := if s / 2 ^ b % 2 = 1 then zsi (zyy p E R C s i b) 7 else 0
theorem zbit_hi : ∀ o, o < 9 → ∀ s, s < 256 → s < 2 ^ o → ∀ b, b < 8 → o ≤ b → s / 2 ^ b % 2 = 0 := by decide +kernel
theorem zsi_out {f : Nat → Int} {n : Nat} : ∀ m, n ≤ m → (∀ i, n ≤ i → i < m → f i = 0) → zsi f m = zsi f n := by
  intro m
  induction m with
  | zero => intro h _; rw [show n = 0 by omega]
  | succ m ih =>
    intro h hP
    by_cases e : n = m + 1
    · rw [e]
    · show zsi f m + f m = _
      rw [hP m (by omega) (by omega), ih (by omega) (fun i h1 h2 => hP i h1 (by omega)), Int.add_zero]
theorem zyy_c {p : Int} {E : Nat → Nat → Int} {R C : Nat → Nat} {s i b : Nat} : zsi (zyy p E R C s i b) 7 = zcv (zsgn s b) (E (8 * R (zb8 s - 1) + C b)) (zMi p E R C (s ^^^ 2 ^ b)) 7 (6 * zb8 (s ^^^ 2 ^ b) + 1) i := by
  unfold zcv
  refine zsi_congr 7 (fun a ha => ?_)
  unfold zyy zpx
  by_cases w : a ≤ i
  · rw [if_pos w]
    by_cases w2 : i - a < 6 * zb8 (s ^^^ 2 ^ b) + 1
    · rw [if_pos w2, if_pos ⟨w, w2⟩]
    · rw [if_neg w2, if_neg (fun q => w2 q.2), Int.mul_zero]
  · rw [if_neg w, if_neg (fun q => w q.1)]
theorem zxx_f {p : Int} {E : Nat → Nat → Int} {R C : Nat → Nat} {s i o : Nat} (hs : s < 256) (h0 : s ≠ 0) (ho : o < 9) (hso : s < 2 ^ o) : zsi (zxx p E R C s i) o % p = zpx p E R C s i := by
  have e8 : zsi (zxx p E R C s i) 8 = zsi (zxx p E R C s i) o := zsi_out 8 (by omega) (fun b h1 h2 => by
    unfold zxx
    rw [zbit_hi o ho s hs hso b h2 h1, if_neg (by decide)])
  rw [← e8]
  have hb := zb8_pos s hs h0
  unfold zpx
  by_cases w : i < 6 * zb8 s + 1
  · rw [if_pos w, zMi_s hs h0]
    unfold zxp
    refine congrArg (fun z => z % p) (zsi_congr 8 (fun b hb8 => ?_))
    unfold zxx zx1
    by_cases q : s / 2 ^ b % 2 = 1
    · rw [if_pos q, if_pos q, zyy_c]
    · rw [if_neg q, if_neg q]
  · rw [if_neg w]
    have hz : zsi (zxx p E R C s i) 8 = 0 := zsi_z 8 (fun b hb8 => by
      unfold zxx
      split
      · next q =>
        have h3 := zb8_x s hs b hb8 q
        refine zsi_z 7 (fun a ha => ?_)
        unfold zyy zpx
        split
        · rw [if_neg (by omega), Int.mul_zero]
        · rfl
      · rfl)
    rw [hz, Int.zero_emod]
theorem zandn : ∀ s, s < 256 → ∀ b, b < 8 → s / 2 ^ b % 2 = 1 → s ^^^ (s &&& 2 ^ b) = s ^^^ 2 ^ b := by decide +kernel
theorem zandn_e {s b : Nat} (hs : s < 256) (hb : b < 8) (h : s / 2 ^ b % 2 = 1) : ((((s : Nat) : Int).toNat ^^^ (((s : Nat) : Int).toNat &&& ((1 : Int) * 2 ^ ((b : Nat) : Int).toNat).toNat) : Nat) : Int) = ((s ^^^ 2 ^ b : Nat) : Int) := by
  have e : ((1 : Int) * 2 ^ ((b : Nat) : Int).toNat) = ((2 ^ b : Nat) : Int) := by
    rw [Int.one_mul, Int.toNat_natCast]
    simp
  rw [e, Int.toNat_natCast, Int.toNat_natCast]
  exact congrArg (fun (x : Nat) => (x : Int)) (zandn s hs b hb h)
theorem zb8_bh : ∀ s, s < 256 → ∀ b, b < 8 → s / 2 ^ b % 2 = 1 → zb8 s = zbc s b + 1 + zb8 (s / 2 ^ (b + 1)) ∧ s ^^^ 2 ^ b < 256 ∧ s ^^^ 2 ^ b ≠ s := by decide +kernel
theorem zbc_s (s b : Nat) : zbc s (b + 1) = zbc s b + s / 2 ^ b % 2 := rfl
theorem zbc_le8 : ∀ s, s < 256 → ∀ b, b < 9 → zbc s b ≤ zb8 s := by decide +kernel
/-- a piece of 49 numbers rewritten -/
def zp49 (h : zH) (s : Nat) (F : Nat → Int) : zH := fun b x => if b = 461 ∧ 49 * s ≤ x ∧ x < 49 * s + 49 then F (x - 49 * s) else h b x
theorem zp49_i {h : zH} {s i : Nat} {F : Nat → Int} (hi : i < 49) : zp49 h s F 461 (49 * s + i) = F i := by
  unfold zp49
  rw [if_pos (by omega), show 49 * s + i - 49 * s = i by omega]
theorem zp49_o {h : zH} {s : Nat} {F : Nat → Int} {b x : Nat} (e : ¬ (b = 461 ∧ 49 * s ≤ x ∧ x < 49 * s + 49)) : zp49 h s F b x = h b x := if_neg e
theorem zp49_c {h : zH} {s : Nat} {F G : Nat → Int} (e : ∀ i, i < 49 → F i = G i) : zp49 h s F = zp49 h s G := by
  funext b x
  unfold zp49
  split
  · exact e _ (by omega)
  · rfl
theorem zp49_u {h : zH} {s i : Nat} (hi : i < 49) {F : Nat → Int} {v : Int} : zup (zp49 h s F) 461 (49 * s + i) v = zp49 h s (fun j => if j = i then v else F j) := by
  funext b x
  by_cases e : b = 461 ∧ x = 49 * s + i
  · rw [e.1, e.2, zup_s, zp49_i hi, if_pos rfl]
  · rw [zup_o e]
    by_cases e2 : b = 461 ∧ 49 * s ≤ x ∧ x < 49 * s + 49
    · unfold zp49
      rw [if_pos e2, if_pos e2]
      dsimp only
      rw [if_neg (by omega)]
    · rw [zp49_o e2, zp49_o e2]
theorem zsgn_m {s b : Nat} {x : Int} (hx : x = (zb8 (s / 2 ^ (b + 1)) : Int)) : (x % 2 = 0 → zsgn s b = 1) ∧ (x % 2 ≠ 0 → zsgn s b = -1) := by
  unfold zsgn
  exact ⟨fun w => if_pos (by omega), fun w => if_neg (by omega)⟩
theorem zms_N {P : Nat → Prop} {N k : Nat} (h : k < zct P N) : zms P N k < N := (zms_lt N k h).1

theorem z_vb {v x : Int} (hv : -30 ≤ v ∧ v ≤ 30) (hx : 0 ≤ x ∧ x ≤ 30) : -900 ≤ v * x ∧ v * x ≤ 900 := by
  have h1 : v * x ≤ 30 * x := Int.mul_le_mul_of_nonneg_right hv.2 hx.1
  have h2 : (-30) * x ≤ v * x := Int.mul_le_mul_of_nonneg_right hv.1 hx.1
  omega

set_option maxRecDepth 100000 in
set_option maxHeartbeats 4000000 in
theorem t_X10_findsPart {h : zH} {ss p : Int} {s : Nat} (hss : ss = s) (hs0 : s ≠ 0) (hs8 : s < 256) {Pr Pc : Nat → Prop} {N o : Nat} (hN : N ≤ 8) (hor : o ≤ zct Pr N) (hoc : o ≤ zct Pc N) (h18 : h 445 18 = (o : Int)) (h20 : h 445 20 = (zmk Pr N : Int)) (h21 : h 445 21 = (zmk Pc N : Int)) (hp : 5 ≤ p ∧ p ≤ 31) (hp0 : h 446 0 = p) {E : Nat → Nat → Int} (hE : ∀ r, r < N → ∀ q, q < N → ∀ e, e < 7 → h 454 ((8 * r + q) * 7 + e) = E (8 * r + q) e ∧ 0 ≤ E (8 * r + q) e ∧ E (8 * r + q) e < p) (hso : s < 2 ^ o) (hX : ∀ b, b < 8 → s / 2 ^ b % 2 = 1 → ∀ e, e < 49 → h 461 (49 * (s ^^^ 2 ^ b) + e) = zpx p E (zms Pr N) (zms Pc N) (s ^^^ 2 ^ b) e) : CV yX10_findsPart mX10_findsPart [vR 445, vI ss] h (fun h' => h' = zp49 h s (zpx p E (zms Pr N) (zms Pc N) s)) := by
  refine inV [some (vR 445), some (vI ss), none, none, none, none, none, none, none, none, none] mvX10_findsPart rfl (Nat.le_of_ble_eq_true rfl) rfl ?_
  subst hss
  have hpp : 0 < p := by omega
  have hcr := zct_le (P := Pr) N
  have hcc := zct_le (P := Pc) N
  have ho9 : o < 9 := by omega
  have hb1 := zb8_pos s hs8 hs0
  have hbo := zb8_o o ho9 s hs8 hso
  have hRlt := zms_N (P := Pr) (N := N) (k := zb8 s - 1) (by omega)
  have L53 : ∀ (zm53 : Nat) (b : Nat) (h' : zH) (bh : Int), o - b = zm53 → (b ≤ o) → (bh = (zb8 s : Int) - 1 - (zbc s b : Int)) → (h' = zp49 h s (fun i => zsi (zxx p E (zms Pr N) (zms Pc N) s i) b % p)) → WP mX10_findsPart (zMQ mX10_findsPart (zKV (fun h' => h' = zp49 h s (zpx p E (zms Pr N) (zms Pc N) s)))) 53 [some (vR 445), some (vI (s : Int)), none, some (vI (zms Pr N (zb8 s - 1) : Int)), some (vI bh), some (vI (b : Int)), none, none, none, none, none] [] zN zGR h' := by
    intro zm53
    induction zm53 using Nat.strongRecOn with | _ zm53 ih53 => ?_
    intro b h' bh hzm53 hb hbh hh
    subst hzm53
    have k18 : h' 445 18 = (o : Int) := by rw [hh, zp49_o (by omega)]; exact h18
    have k21 : h' 445 21 = (zmk Pc N : Int) := by rw [hh, zp49_o (by omega)]; exact h21
    have hbl := zbc_le8 s hs8 b (by omega)
    have hbs := zbc_s s b
    have L99 : ∀ (zm99 : Nat) (e : Nat) (h2 : zH), 7 - e = zm99 → (b < o) → (s / 2 ^ b % 2 = 1) → (e ≤ 7) → (h2 = zp49 h s (fun i => (zsi (zxx p E (zms Pr N) (zms Pc N) s i) b + zsi (zyy p E (zms Pr N) (zms Pc N) s i b) e) % p)) → WP mX10_findsPart (zMQ mX10_findsPart (zKV (fun h' => h' = zp49 h s (zpx p E (zms Pr N) (zms Pc N) s)))) 99 [some (vR 445), some (vI (s : Int)), none, some (vI (zms Pr N (zb8 s - 1) : Int)), some (vI bh), some (vI (b : Int)), some (vI (zms Pc N b : Int)), some (vI (49 * ((s ^^^ 2 ^ b : Nat) : Int))), some (vI (e : Int)), none, none] [] zN zGR h2 := by
      intro zm99
      induction zm99 using Nat.strongRecOn with | _ zm99 ih99 => ?_
      intro e h2 hzm99 hbo2 hbit he hh2
      subst hzm99
      obtain ⟨n1, n2, n3⟩ := zb8_bh s hs8 b (by omega) hbit
      have hClt := zms_N (P := Pc) (N := N) (k := b) (by omega)
      have hsg := zsgn_m (s := s) (b := b) (x := bh) (by omega)
      have hEe := fun (w : e < 7) => hE (zms Pr N (zb8 s - 1)) hRlt (zms Pc N b) hClt e w
      have L142 : ∀ (zm142 : Nat) (d : Nat) (h3 : zH) (v : Int), 49 - d = zm142 → (e < 7) → (v = zsgn s b * E (8 * zms Pr N (zb8 s - 1) + zms Pc N b) e) → (d + e ≤ 49) → (h3 = zp49 h s (fun i => (zsi (zxx p E (zms Pr N) (zms Pc N) s i) b + zsi (zyy p E (zms Pr N) (zms Pc N) s i b) e + (if e ≤ i ∧ i - e < d then v * zpx p E (zms Pr N) (zms Pc N) (s ^^^ 2 ^ b) (i - e) else 0)) % p)) → WP mX10_findsPart (zMQ mX10_findsPart (zKV (fun h' => h' = zp49 h s (zpx p E (zms Pr N) (zms Pc N) s)))) 142 [some (vR 445), some (vI (s : Int)), none, some (vI (zms Pr N (zb8 s - 1) : Int)), some (vI bh), some (vI (b : Int)), some (vI (zms Pc N b : Int)), some (vI (49 * ((s ^^^ 2 ^ b : Nat) : Int))), some (vI (e : Int)), some (vI v), some (vI (d : Int))] [] zN zGR h3 := by
        intro zm142
        induction zm142 using Nat.strongRecOn with | _ zm142 ih142 => ?_
        intro d h3 v hzm142 he7 hv hd hh3
        subst hzm142
        have hvb : -30 ≤ v ∧ v ≤ 30 := by
          rw [hv]
          have := (hEe he7).2
          exact z_sg (zsgn_or s b) (by omega)
        have k30 : h3 446 0 = p := by rw [hh3, zp49_o (by omega)]; exact hp0
        have kf : d < 49 → h3 461 (49 * (s ^^^ 2 ^ b) + d) = zpx p E (zms Pr N) (zms Pc N) (s ^^^ 2 ^ b) d := fun w => by rw [hh3, zp49_o (by omega)]; exact hX b (by omega) hbit d w
        have kfb := zpx_in (p := p) (by omega) (E := E) (R := zms Pr N) (C := zms Pc N) (s ^^^ 2 ^ b) d
        have kt : d + e < 49 → h3 461 (49 * s + (d + e)) = (zsi (zxx p E (zms Pr N) (zms Pc N) s (d + e)) b + zsi (zyy p E (zms Pr N) (zms Pc N) s (d + e) b) e) % p := fun w => by
          rw [hh3, zp49_i w, if_neg (by omega), Int.add_zero]
        have ktb := z_mod hpp (zsi (zxx p E (zms Pr N) (zms Pc N) s (d + e)) b + zsi (zyy p E (zms Pr N) (zms Pc N) s (d + e) b) e)
        have hvm : -900 ≤ v * zpx p E (zms Pr N) (zms Pc N) (s ^^^ 2 ^ b) d ∧ v * zpx p E (zms Pr N) (zms Pc N) (s ^^^ 2 ^ b) d ≤ 900 := z_vb hvb (by omega)
        refine w_iload10 dX10_findsPart_142 (w_iload8 dX10_findsPart_144 (wp_iadd dX10_findsPart_146 (wp_bipush dX10_findsPart_147 (by decide) ?_)))
        refine wp_icmp_ge 211 dX10_findsPart_149 rfl ⟨by omega, by omega⟩ ⟨by omega, by omega⟩ (fun c149 => ?_) (fun c149 => ?_)
        · skip
          refine w_iinc8 dX10_findsPart_211 rfl (by decide) (wp_goto 99 dX10_findsPart_214 rfl ?_)
          refine w_forget9 ?_
          refine w_forget10 ?_
          refine ih99 _ (by omega) (e + 1) _ rfl hbo2 hbit (by omega) ?_
          rw [hh3]
          refine zp49_c (fun i hi => ?_)
          show _ = (zsi (zxx p E (zms Pr N) (zms Pc N) s i) b + (zsi (zyy p E (zms Pr N) (zms Pc N) s i b) e + zyy p E (zms Pr N) (zms Pc N) s i b e)) % p
          have e5 : zyy p E (zms Pr N) (zms Pc N) s i b e = if e ≤ i then v * zpx p E (zms Pr N) (zms Pc N) (s ^^^ 2 ^ b) (i - e) else 0 := by unfold zyy; rw [hv]
          rw [e5, ← Int.add_assoc]
          refine congrArg (fun z => (zsi (zxx p E (zms Pr N) (zms Pc N) s i) b + zsi (zyy p E (zms Pr N) (zms Pc N) s i b) e + z) % p) ?_
          first
          | (have c9 : v = 0 := c154
             rw [c9, Int.zero_mul, ite_self, ite_self])
          | (by_cases w : e ≤ i
             · rw [if_pos w, if_pos (by omega)]
             · rw [if_neg w, if_neg (by omega)])
        · skip
          refine w_iload9 dX10_findsPart_152 ?_
          refine wp_if_eq 211 dX10_findsPart_154 rfl ⟨by omega, by omega⟩ (fun c154 => ?_) (fun c154 => ?_)
          · skip
            refine w_iinc8 dX10_findsPart_211 rfl (by decide) (wp_goto 99 dX10_findsPart_214 rfl ?_)
            refine w_forget9 ?_
            refine w_forget10 ?_
            refine ih99 _ (by omega) (e + 1) _ rfl hbo2 hbit (by omega) ?_
            rw [hh3]
            refine zp49_c (fun i hi => ?_)
            show _ = (zsi (zxx p E (zms Pr N) (zms Pc N) s i) b + (zsi (zyy p E (zms Pr N) (zms Pc N) s i b) e + zyy p E (zms Pr N) (zms Pc N) s i b e)) % p
            have e5 : zyy p E (zms Pr N) (zms Pc N) s i b e = if e ≤ i then v * zpx p E (zms Pr N) (zms Pc N) (s ^^^ 2 ^ b) (i - e) else 0 := by unfold zyy; rw [hv]
            rw [e5, ← Int.add_assoc]
            refine congrArg (fun z => (zsi (zxx p E (zms Pr N) (zms Pc N) s i) b + zsi (zyy p E (zms Pr N) (zms Pc N) s i b) e + z) % p) ?_
            first
            | (have c9 : v = 0 := c154
               rw [c9, Int.zero_mul, ite_self, ite_self])
            | (by_cases w : e ≤ i
               · rw [if_pos w, if_pos (by omega)]
               · rw [if_neg w, if_neg (by omega)])
          · skip
            refine w_aload0 dX10_findsPart_157 (wp_getr 461 dX10_findsPart_158 fl_RX10_55 is_445 rfl (wp_bipush dX10_findsPart_161 (by decide) (w_iload1 dX10_findsPart_163 (wp_imul dX10_findsPart_164 (w_iload10 dX10_findsPart_165 (wp_iadd dX10_findsPart_167 (w_iload8 dX10_findsPart_168 (wp_iadd dX10_findsPart_170 (w_aload0 dX10_findsPart_171 ?_)))))))))
            refine w_aload0 dX10_findsPart_172 (wp_getr 461 dX10_findsPart_173 fl_RX10_55 is_445 rfl (wp_bipush dX10_findsPart_176 (by decide) (w_iload1 dX10_findsPart_178 (wp_imul dX10_findsPart_179 (w_iload10 dX10_findsPart_180 (wp_iadd dX10_findsPart_182 (w_iload8 dX10_findsPart_183 (wp_iadd dX10_findsPart_185 (x_iald (49 * s + (d + e)) dX10_findsPart_186 is_461 (by omega) (by omega) ?_)))))))))
            rw [kt (by omega)]
            refine w_iload9 dX10_findsPart_187 (w_aload0 dX10_findsPart_189 (wp_getr 461 dX10_findsPart_190 fl_RX10_55 is_445 rfl (w_iload7 dX10_findsPart_193 (w_iload10 dX10_findsPart_195 (wp_iadd dX10_findsPart_197 (x_iald (49 * (s ^^^ 2 ^ b) + d) dX10_findsPart_198 is_461 (by omega) (by omega) ?_))))))
            rw [kf (by omega)]
            refine wp_imul dX10_findsPart_199 (wp_iadd dX10_findsPart_200 ?_)
            apply v_i1 (M := mX10_findsPart) dX10_findsPart_201 lk_RX10_128 mvX10_mod (by decide) meX10_findsPart is_445 (Nat.le_of_ble_eq_true rfl)
            · exact t_X10_mod ⟨by omega, by omega⟩ hp k30
            intro x201 h201 hP201
            obtain ⟨eh201, ex201⟩ := hP201
            replace eh201 := eh201.symm
            subst eh201
            replace ex201 := ex201.symm
            subst ex201
            refine x_iast (49 * s + (d + e)) dX10_findsPart_204 is_461 (by omega) (by omega) (w_iinc10 dX10_findsPart_205 rfl (by decide) (wp_goto 142 dX10_findsPart_208 rfl ?_))
            refine ih142 _ (by omega) (d + 1) _ _ rfl he7 hv (by omega) ?_
            rw [hh3, zp49_u (by omega)]
            refine zp49_c (fun i hi => ?_)
            by_cases w : i = d + e
            · rw [if_pos w, w, if_pos (by omega), show d + e - e = d by omega, Int.emod_add_emod]
            · rw [if_neg w]
              by_cases w2 : e ≤ i ∧ i - e < d
              · rw [if_pos w2, if_pos (by omega)]
              · rw [if_neg w2, if_neg (by omega)]
      refine w_iload8 dX10_findsPart_99 (wp_bipush dX10_findsPart_101 (by decide) ?_)
      refine wp_icmp_ge 217 dX10_findsPart_103 rfl ⟨by omega, by omega⟩ ⟨by omega, by omega⟩ (fun c103 => ?_) (fun c103 => ?_)
      · skip
        refine w_iinc4 dX10_findsPart_217 rfl (by decide) (w_iinc5 dX10_findsPart_220 rfl (by decide) (wp_goto 53 dX10_findsPart_223 rfl ?_))
        refine w_forget6 ?_
        refine w_forget7 ?_
        refine w_forget8 ?_
        refine ih53 _ (by omega) (b + 1) _ _ rfl (by omega) (by omega) ?_
        rw [hh2]
        refine zp49_c (fun i hi => ?_)
        show _ = (zsi (zxx p E (zms Pr N) (zms Pc N) s i) b + zxx p E (zms Pr N) (zms Pc N) s i b) % p
        have e5 : zxx p E (zms Pr N) (zms Pc N) s i b = zsi (zyy p E (zms Pr N) (zms Pc N) s i b) 7 := if_pos hbit
        rw [e5, show e = 7 by omega]
      · skip
        refine w_aload0 dX10_findsPart_106 (wp_getr 454 dX10_findsPart_107 fl_RX10_34 is_445 rfl (wp_bipush dX10_findsPart_110 (by decide) (w_iload3 dX10_findsPart_112 (wp_imul dX10_findsPart_113 (w_iload6 dX10_findsPart_114 (wp_iadd dX10_findsPart_116 (wp_bipush dX10_findsPart_117 (by decide) (wp_imul dX10_findsPart_119 (w_iload8 dX10_findsPart_120 ?_)))))))))
        refine wp_iadd dX10_findsPart_122 (x_iald ((8 * zms Pr N (zb8 s - 1) + zms Pc N b) * 7 + e) dX10_findsPart_123 is_454 (by omega) (by omega) ?_)
        rw [show h2 454 ((8 * zms Pr N (zb8 s - 1) + zms Pc N b) * 7 + e) = E (8 * zms Pr N (zb8 s - 1) + zms Pc N b) e by rw [hh2, zp49_o (by omega)]; exact (hEe (by omega)).1]
        have hEb := (hEe (by omega)).2
        refine w_iload4 dX10_findsPart_124 (wp_iconst dX10_findsPart_126 (wp_irem dX10_findsPart_127 (by omega) (by omega) ?_))
        refine wp_if_ne 135 dX10_findsPart_128 rfl ⟨by omega, by omega⟩ (fun c128 => ?_) (fun c128 => ?_)
        · skip
          refine wp_iconst dX10_findsPart_135 (wp_imul dX10_findsPart_136 (w_istore9 dX10_findsPart_137 rfl (by decide) (wp_iconst dX10_findsPart_139 (w_istore10 dX10_findsPart_140 rfl (by decide) ?_))))
          first
          | exact L142 _ 0 _ _ rfl (by omega) (by rw [hsg.1 (by omega)]; exact Int.mul_comm _ _) (by omega) (by rw [hh2]; refine zp49_c (fun i hi => ?_); rw [if_neg (by omega), Int.add_zero])
          | exact L142 _ 0 _ _ rfl (by omega) (by rw [hsg.2 (by omega)]; exact Int.mul_comm _ _) (by omega) (by rw [hh2]; refine zp49_c (fun i hi => ?_); rw [if_neg (by omega), Int.add_zero])
        · skip
          refine wp_iconst dX10_findsPart_131 (wp_goto 136 dX10_findsPart_132 rfl (wp_imul dX10_findsPart_136 (w_istore9 dX10_findsPart_137 rfl (by decide) (wp_iconst dX10_findsPart_139 (w_istore10 dX10_findsPart_140 rfl (by decide) ?_)))))
          first
          | exact L142 _ 0 _ _ rfl (by omega) (by rw [hsg.1 (by omega)]; exact Int.mul_comm _ _) (by omega) (by rw [hh2]; refine zp49_c (fun i hi => ?_); rw [if_neg (by omega), Int.add_zero])
          | exact L142 _ 0 _ _ rfl (by omega) (by rw [hsg.2 (by omega)]; exact Int.mul_comm _ _) (by omega) (by rw [hh2]; refine zp49_c (fun i hi => ?_); rw [if_neg (by omega), Int.add_zero])
    refine w_iload5 dX10_findsPart_53 (w_aload0 dX10_findsPart_55 (wp_geti dX10_findsPart_56 fl_RX10_204 is_445 ?_))
    rw [k18]
    refine wp_icmp_ge 226 dX10_findsPart_59 rfl ⟨by omega, by omega⟩ ⟨by omega, by omega⟩ (fun c59 => ?_) (fun c59 => ?_)
    · skip
      refine r_v dX10_findsPart_226 rfl meX10_findsPart ?_
      rw [hh, show b = o by omega]
      exact zp49_c (fun i hi => zxx_f hs8 hs0 ho9 hso)
    · skip
      refine w_iload1 dX10_findsPart_62 (w_iload5 dX10_findsPart_63 (wp_ishr dX10_findsPart_65 ⟨by omega, by omega⟩ (by omega) (wp_iconst dX10_findsPart_66 (wp_iand dX10_findsPart_67 (z_sh b (by omega)) (by omega) ?_))))
      rw [z_bt]
      refine wp_iconst dX10_findsPart_68 ?_
      refine wp_icmp_ne 220 dX10_findsPart_69 rfl ⟨by omega, by omega⟩ ⟨by omega, by omega⟩ (fun c69 => ?_) (fun c69 => ?_)
      · skip
        refine w_iinc5 dX10_findsPart_220 rfl (by decide) (wp_goto 53 dX10_findsPart_223 rfl ?_)
        have hnb : ¬ s / 2 ^ b % 2 = 1 := by omega
        refine ih53 _ (by omega) (b + 1) _ _ rfl (by omega) (by omega) ?_
        rw [hh]
        refine zp49_c (fun i hi => ?_)
        show _ = (zsi (zxx p E (zms Pr N) (zms Pc N) s i) b + zxx p E (zms Pr N) (zms Pc N) s i b) % p
        have e5 : zxx p E (zms Pr N) (zms Pc N) s i b = 0 := if_neg hnb
        rw [e5, Int.add_zero]
      · skip
        refine w_aload0 dX10_findsPart_72 (wp_geti dX10_findsPart_73 fl_RX10_226 is_445 (w_iload5 dX10_findsPart_76 ?_))
        rw [k21]
        have hbit : s / 2 ^ b % 2 = 1 := by omega
        apply s_i2 (M := mX10_findsPart) dX10_findsPart_78 lk_RX10_229 mvX10_place (by decide) meX10_findsPart (Nat.le_of_ble_eq_true rfl)
        · exact t_X10_place (k := b) hN rfl rfl (by omega)
        intro x78 h78 hP78
        obtain ⟨eh78, ex78⟩ := hP78
        replace eh78 := eh78.symm
        subst eh78
        replace ex78 := ex78.symm
        subst ex78
        refine w_istore6 dX10_findsPart_81 rfl (by decide) (wp_bipush dX10_findsPart_83 (by decide) (w_iload1 dX10_findsPart_85 (wp_iconst dX10_findsPart_86 (w_iload5 dX10_findsPart_87 (wp_ishl dX10_findsPart_89 (by omega) (wp_iconst dX10_findsPart_90 (wp_inot dX10_findsPart_91 (wp_iandn dX10_findsPart_92 (by omega) (z_1s b (by omega)) ?_))))))))
        rw [zandn_e hs8 (by omega) (by omega)]
        refine wp_imul dX10_findsPart_93 (w_istore7 dX10_findsPart_94 rfl (by decide) (wp_iconst dX10_findsPart_96 (w_istore8 dX10_findsPart_97 rfl (by decide) ?_)))
        refine L99 _ 0 _ rfl (by omega) (by omega) (Nat.zero_le _) ?_
        rw [hh]
        refine zp49_c (fun i hi => ?_)
        show _ = (_ + 0) % p
        rw [Int.add_zero]
  have L19 : ∀ (zm19 : Nat) (e : Nat) (h' : zH), 49 - e = zm19 → (e ≤ 49) → (h' = fun b x => if b = 461 ∧ 49 * s ≤ x ∧ x < 49 * s + e then 0 else h b x) → WP mX10_findsPart (zMQ mX10_findsPart (zKV (fun h' => h' = zp49 h s (zpx p E (zms Pr N) (zms Pc N) s)))) 19 [some (vR 445), some (vI (s : Int)), some (vI (zb8 s : Int)), some (vI (zms Pr N (zb8 s - 1) : Int)), some (vI (e : Int)), none, none, none, none, none, none] [] zN zGR h' := by
    intro zm19
    induction zm19 using Nat.strongRecOn with | _ zm19 ih19 => ?_
    intro e h' hzm19 he hh
    subst hzm19
    refine w_iload4 dX10_findsPart_19 (wp_bipush dX10_findsPart_21 (by decide) ?_)
    refine wp_icmp_ge 45 dX10_findsPart_23 rfl ⟨by omega, by omega⟩ ⟨by omega, by omega⟩ (fun c23 => ?_) (fun c23 => ?_)
    · skip
      refine w_iload2 dX10_findsPart_45 (wp_iconst dX10_findsPart_46 (wp_isub dX10_findsPart_47 (w_istore4 dX10_findsPart_48 rfl (by decide) (wp_iconst dX10_findsPart_50 (w_istore5 dX10_findsPart_51 rfl (by decide) ?_)))))
      refine w_forget2 ?_
      refine L53 _ 0 _ _ rfl (Nat.zero_le _) (by show (zb8 s : Int) - 1 = (zb8 s : Int) - 1 - ((0 : Nat) : Int); omega) ?_
      rw [hh, show e = 49 by omega]
      funext b x
      unfold zp49
      by_cases e2 : b = 461 ∧ 49 * s ≤ x ∧ x < 49 * s + 49
      · rw [if_pos e2, if_pos e2]
        exact (Int.zero_emod p).symm
      · rw [if_neg e2, if_neg e2]
    · skip
      refine w_aload0 dX10_findsPart_26 (wp_getr 461 dX10_findsPart_27 fl_RX10_55 is_445 rfl (wp_bipush dX10_findsPart_30 (by decide) (w_iload1 dX10_findsPart_32 (wp_imul dX10_findsPart_33 (w_iload4 dX10_findsPart_34 (wp_iadd dX10_findsPart_36 (wp_iconst dX10_findsPart_37 (x_iast (49 * s + e) dX10_findsPart_38 is_461 (by omega) (by omega) (w_iinc4 dX10_findsPart_39 rfl (by decide) ?_)))))))))
      refine wp_goto 19 dX10_findsPart_42 rfl ?_
      refine ih19 _ (by omega) (e + 1) _ rfl (by omega) ?_
      rw [hh]
      funext b x
      by_cases e1 : b = 461 ∧ x = 49 * s + e
      · rw [e1.1, e1.2, zup_s, if_pos (by omega)]
      · rw [zup_o e1]
        try dsimp only
        by_cases e2 : b = 461 ∧ 49 * s ≤ x ∧ x < 49 * s + e
        · rw [if_pos e2, if_pos (by omega)]
        · rw [if_neg e2, if_neg (by omega)]
  refine w_iload1 dX10_findsPart_0 ?_
  apply s_i1 (M := mX10_findsPart) dX10_findsPart_1 lk_RX10_214 mvX10_bits (by decide) meX10_findsPart (Nat.le_of_ble_eq_true rfl)
  · exact t_X10_bits (m := s) rfl (by omega)
  intro x1 h1 hP1
  obtain ⟨eh1, ex1⟩ := hP1
  replace eh1 := eh1.symm
  subst eh1
  rw [zb8_31 s hs8] at ex1
  subst ex1
  refine w_istore2 dX10_findsPart_4 rfl (by decide) (w_aload0 dX10_findsPart_5 (wp_geti dX10_findsPart_6 fl_RX10_223 is_445 (w_iload2 dX10_findsPart_9 (wp_iconst dX10_findsPart_10 (wp_isub dX10_findsPart_11 ?_)))))
  rw [h20]
  apply s_i2 (M := mX10_findsPart) dX10_findsPart_12 lk_RX10_229 mvX10_place (by decide) meX10_findsPart (Nat.le_of_ble_eq_true rfl)
  · exact t_X10_place (k := zb8 s - 1) hN rfl (by omega) (by omega)
  intro x12 h12 hP12
  obtain ⟨eh12, ex12⟩ := hP12
  replace eh12 := eh12.symm
  subst eh12
  replace ex12 := ex12.symm
  subst ex12
  refine w_istore3 dX10_findsPart_15 rfl (by decide) (wp_iconst dX10_findsPart_16 (w_istore4 dX10_findsPart_17 rfl (by decide) ?_))
  exact L19 _ 0 _ rfl (Nat.zero_le _) (by funext b x; rw [if_neg (by omega)])
set_option maxRecDepth 100000 in
set_option maxHeartbeats 4000000 in
theorem t_X10_findsEliminant {h : zH} {p : Int} {Pr Pc : Nat → Prop} {N o : Nat} (hN : N ≤ 8) (hor : o ≤ zct Pr N) (hoc : o ≤ zct Pc N) (h18 : h 445 18 = (o : Int)) (h20 : h 445 20 = (zmk Pr N : Int)) (h21 : h 445 21 = (zmk Pc N : Int)) (hp : 5 ≤ p ∧ p ≤ 31) (hp0 : h 446 0 = p) {E : Nat → Nat → Int} (hE : ∀ r, r < N → ∀ q, q < N → ∀ e, e < 7 → h 454 ((8 * r + q) * 7 + e) = E (8 * r + q) e ∧ 0 ≤ E (8 * r + q) e ∧ E (8 * r + q) e < p) : CV yX10_findsEliminant mX10_findsEliminant [vR 445] h (fun h' => zFr (fun a _ => a = 456 ∨ a = 457 ∨ a = 461) h h' ∧ ∀ e, e < 49 → h' 456 e = zwh p E (zms Pr N) (zms Pc N) o e ∧ h' 457 e = zwh p E (zms Pr N) (zms Pc N) o e) := by
  refine inV [some (vR 445), none] mvX10_findsEliminant rfl (Nat.le_of_ble_eq_true rfl) rfl ?_
  have hpp : 0 < p := by omega
  have hcr := zct_le (P := Pr) N
  have ho9 : o < 9 := by omega
  have hof := zb8_f o ho9
  have L54 : ∀ (zm54 : Nat) (e : Nat) (h' : zH), 49 - e = zm54 → (e ≤ 49) → (zFr (fun a _ => a = 456 ∨ a = 457 ∨ a = 461) h h') → (∀ i, i < 49 → h' 461 (49 * (2 ^ o - 1) + i) = zpx p E (zms Pr N) (zms Pc N) (2 ^ o - 1) i) → (∀ i, i < e → h' 456 i = zpx p E (zms Pr N) (zms Pc N) (2 ^ o - 1) i ∧ h' 457 i = zpx p E (zms Pr N) (zms Pc N) (2 ^ o - 1) i) → WP mX10_findsEliminant (zMQ mX10_findsEliminant (zKV (fun h' => zFr (fun a _ => a = 456 ∨ a = 457 ∨ a = 461) h h' ∧ ∀ e, e < 49 → h' 456 e = zwh p E (zms Pr N) (zms Pc N) o e ∧ h' 457 e = zwh p E (zms Pr N) (zms Pc N) o e))) 54 [some (vR 445), some (vI (e : Int))] [] zN zGR h' := by
    intro zm54
    induction zm54 using Nat.strongRecOn with | _ zm54 ih54 => ?_
    intro e h' hzm54 he hF hz hy
    subst hzm54
    have k18 : h' 445 18 = (o : Int) := by rw [hF _ _ (by omega)]; exact h18
    refine w_iload1 dX10_findsEliminant_54 (wp_bipush dX10_findsEliminant_55 (by decide) ?_)
    refine wp_icmp_ge 102 dX10_findsEliminant_57 rfl ⟨by omega, by omega⟩ ⟨by omega, by omega⟩ (fun c57 => ?_) (fun c57 => ?_)
    · skip
      refine r_v dX10_findsEliminant_102 rfl meX10_findsEliminant ?_
      refine ⟨hF, fun i hi => ?_⟩
      have hw : zwh p E (zms Pr N) (zms Pc N) o i = zpx p E (zms Pr N) (zms Pc N) (2 ^ o - 1) i := by
        unfold zwh zpx
        rw [hof.1]
      rw [hw]
      exact hy i (by omega)
    · skip
      refine w_aload0 dX10_findsEliminant_60 (wp_getr 456 dX10_findsEliminant_61 fl_RX10_40 is_445 rfl (w_iload1 dX10_findsEliminant_64 (w_aload0 dX10_findsEliminant_65 (wp_getr 461 dX10_findsEliminant_66 fl_RX10_55 is_445 rfl (wp_bipush dX10_findsEliminant_69 (by decide) (wp_iconst dX10_findsEliminant_71 (w_aload0 dX10_findsEliminant_72 (wp_geti dX10_findsEliminant_73 fl_RX10_204 is_445 ?_))))))))
      rw [k18]
      refine wp_ishl dX10_findsEliminant_76 (by omega) ?_
      rw [z_o2 ho9]
      refine wp_iconst dX10_findsEliminant_77 (wp_isub dX10_findsEliminant_78 (wp_imul dX10_findsEliminant_79 (w_iload1 dX10_findsEliminant_80 (wp_iadd dX10_findsEliminant_81 (x_iald (49 * (2 ^ o - 1) + e) dX10_findsEliminant_82 is_461 (by omega) (by omega) ?_)))))
      rw [hz e (by omega)]
      refine x_iast e dX10_findsEliminant_83 is_456 rfl (by omega) (w_aload0 dX10_findsEliminant_84 (wp_getr 457 dX10_findsEliminant_85 fl_RX10_43 is_445 rfl (w_iload1 dX10_findsEliminant_88 (w_aload0 dX10_findsEliminant_89 (wp_getr 456 dX10_findsEliminant_90 fl_RX10_40 is_445 rfl (w_iload1 dX10_findsEliminant_93 (x_iald e dX10_findsEliminant_94 is_456 rfl (by omega) ?_)))))))
      rw [zup_s]
      refine x_iast e dX10_findsEliminant_95 is_457 rfl (by omega) (w_iinc1 dX10_findsEliminant_96 rfl (by decide) (wp_goto 54 dX10_findsEliminant_99 rfl ?_))
      refine ih54 _ (by omega) (e + 1) _ rfl (by omega) ((hF.up (Or.inl rfl)).up (Or.inr (Or.inl rfl))) (fun i hi => by rw [zup_o (by omega), zup_o (by omega)]; exact hz i hi) (fun i hi => ?_)
      by_cases w : i = e
      · rw [w]
        refine ⟨?_, zup_s⟩
        rw [zup_o (by omega), zup_s]
      · rw [zup_o (by omega), zup_o (by omega), zup_o (by omega), zup_o (by omega)]
        exact hy i (by omega)
  have L31 : ∀ (zm31 : Nat) (s : Nat) (h' : zH), 2 ^ o - s = zm31 → (1 ≤ s ∧ s ≤ 2 ^ o) → (zFr (fun a _ => a = 456 ∨ a = 457 ∨ a = 461) h h') → (∀ q, q < s → ∀ i, i < 49 → h' 461 (49 * q + i) = zpx p E (zms Pr N) (zms Pc N) q i) → WP mX10_findsEliminant (zMQ mX10_findsEliminant (zKV (fun h' => zFr (fun a _ => a = 456 ∨ a = 457 ∨ a = 461) h h' ∧ ∀ e, e < 49 → h' 456 e = zwh p E (zms Pr N) (zms Pc N) o e ∧ h' 457 e = zwh p E (zms Pr N) (zms Pc N) o e))) 31 [some (vR 445), some (vI (s : Int))] [] zN zGR h' := by
    intro zm31
    induction zm31 using Nat.strongRecOn with | _ zm31 ih31 => ?_
    intro s h' hzm31 hs1 hF hz
    subst hzm31
    have k18 : h' 445 18 = (o : Int) := by rw [hF _ _ (by omega)]; exact h18
    refine w_iload1 dX10_findsEliminant_31 (wp_iconst dX10_findsEliminant_32 (w_aload0 dX10_findsEliminant_33 (wp_geti dX10_findsEliminant_34 fl_RX10_204 is_445 ?_)))
    rw [k18]
    refine wp_ishl dX10_findsEliminant_37 (by omega) ?_
    rw [z_o2 ho9]
    refine wp_icmp_ge 52 dX10_findsEliminant_38 rfl ⟨by omega, by omega⟩ ⟨by omega, by omega⟩ (fun c38 => ?_) (fun c38 => ?_)
    · skip
      refine wp_iconst dX10_findsEliminant_52 (w_istore1 dX10_findsEliminant_53 rfl (by decide) ?_)
      exact L54 _ 0 _ rfl (Nat.zero_le _) hF (fun i hi => hz _ (by omega) i hi) (fun i hi => absurd hi (Nat.not_lt_zero i))
    · skip
      refine w_aload0 dX10_findsEliminant_41 (w_iload1 dX10_findsEliminant_42 ?_)
      apply v_v1 (M := mX10_findsEliminant) dX10_findsEliminant_43 lk_RX10_232 mvX10_findsPart (by decide) meX10_findsEliminant is_445 (Nat.le_of_ble_eq_true rfl)
      · exact t_X10_findsPart (s := s) (o := o) rfl (by omega) (by omega) hN hor hoc k18 (by rw [hF _ _ (by omega)]; exact h20) (by rw [hF _ _ (by omega)]; exact h21) hp (by rw [hF _ _ (by omega)]; exact hp0) (fun r hr q hq e he => by rw [hF _ _ (by omega)]; exact hE r hr q hq e he) (by omega) (fun b hb hbit e he => by have w := zb8_x s (by omega) b hb hbit; exact hz _ (by omega) e he)
      intro h43 hP43
      replace hP43 := hP43.symm
      subst hP43
      refine w_iinc1 dX10_findsEliminant_46 rfl (by decide) (wp_goto 31 dX10_findsEliminant_49 rfl ?_)
      refine ih31 _ (by omega) (s + 1) _ rfl (by omega) (fun a j n => ?_) (fun q hq i hi => ?_)
      · rw [zp49_o (by omega)]; exact hF a j n
      · by_cases w : q = s
        · rw [w, zp49_i hi]
        · rw [zp49_o (by omega)]
          exact hz q (by omega) i hi
  have L2 : ∀ (zm2 : Nat) (e : Nat) (h' : zH), 49 - e = zm2 → (e ≤ 49) → (zFr (fun a _ => a = 456 ∨ a = 457 ∨ a = 461) h h') → (∀ i, i < e → h' 461 i = zpx p E (zms Pr N) (zms Pc N) 0 i) → WP mX10_findsEliminant (zMQ mX10_findsEliminant (zKV (fun h' => zFr (fun a _ => a = 456 ∨ a = 457 ∨ a = 461) h h' ∧ ∀ e, e < 49 → h' 456 e = zwh p E (zms Pr N) (zms Pc N) o e ∧ h' 457 e = zwh p E (zms Pr N) (zms Pc N) o e))) 2 [some (vR 445), some (vI (e : Int))] [] zN zGR h' := by
    intro zm2
    induction zm2 using Nat.strongRecOn with | _ zm2 ih2 => ?_
    intro e h' hzm2 he hF hz
    subst hzm2
    have L22 : ∀ (v : Int), (e < 49) → (v = zpx p E (zms Pr N) (zms Pc N) 0 e) → WP mX10_findsEliminant (zMQ mX10_findsEliminant (zKV (fun h' => zFr (fun a _ => a = 456 ∨ a = 457 ∨ a = 461) h h' ∧ ∀ e, e < 49 → h' 456 e = zwh p E (zms Pr N) (zms Pc N) o e ∧ h' 457 e = zwh p E (zms Pr N) (zms Pc N) o e))) 22 [some (vR 445), some (vI (e : Int))] [vI v, vI (e : Int), vR 461] zN zGR h' := by
      intro v he49 hv
      refine x_iast e dX10_findsEliminant_22 is_461 rfl (by omega) (w_iinc1 dX10_findsEliminant_23 rfl (by decide) (wp_goto 2 dX10_findsEliminant_26 rfl ?_))
      refine ih2 _ (by omega) (e + 1) _ rfl (by omega) (hF.up (Or.inr (Or.inr rfl))) (fun i hi => ?_)
      by_cases w : i = e
      · rw [w, zup_s]; exact hv
      · rw [zup_o (by omega)]; exact hz i (by omega)
    refine w_iload1 dX10_findsEliminant_2 (wp_bipush dX10_findsEliminant_3 (by decide) ?_)
    refine wp_icmp_ge 29 dX10_findsEliminant_5 rfl ⟨by omega, by omega⟩ ⟨by omega, by omega⟩ (fun c5 => ?_) (fun c5 => ?_)
    · skip
      refine wp_iconst dX10_findsEliminant_29 (w_istore1 dX10_findsEliminant_30 rfl (by decide) ?_)
      refine L31 _ 1 _ rfl ⟨Nat.le_refl _, by omega⟩ hF (fun q hq i hi => ?_)
      rw [show q = 0 by omega, Nat.mul_zero, Nat.zero_add]
      exact hz i (by omega)
    · skip
      refine w_aload0 dX10_findsEliminant_8 (wp_getr 461 dX10_findsEliminant_9 fl_RX10_55 is_445 rfl (w_iload1 dX10_findsEliminant_12 (w_iload1 dX10_findsEliminant_13 ?_)))
      refine wp_if_ne 21 dX10_findsEliminant_14 rfl ⟨by omega, by omega⟩ (fun c14 => ?_) (fun c14 => ?_)
      · skip
        refine wp_iconst dX10_findsEliminant_21 ?_
        first
        | (have c9 : e = 0 := by omega
           exact L22 _ (by omega) (by rw [c9]; rfl))
        | (have c9 : ¬ e < 6 * zb8 0 + 1 := by show ¬ e < 1; omega
           exact L22 _ (by omega) (if_neg c9).symm)
      · skip
        refine wp_iconst dX10_findsEliminant_17 (wp_goto 22 dX10_findsEliminant_18 rfl ?_)
        first
        | (have c9 : e = 0 := by omega
           exact L22 _ (by omega) (by rw [c9]; rfl))
        | (have c9 : ¬ e < 6 * zb8 0 + 1 := by show ¬ e < 1; omega
           exact L22 _ (by omega) (if_neg c9).symm)
  refine wp_iconst dX10_findsEliminant_0 (w_istore1 dX10_findsEliminant_1 rfl (by decide) ?_)
  exact L2 _ 0 _ rfl (Nat.zero_le _) zFr.rf (fun i hi => absurd hi (Nat.not_lt_zero i))
