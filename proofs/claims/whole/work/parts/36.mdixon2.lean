
theorem zps9_e (m r q : Nat) : ((6 * (4 * ((r : Int) % (m : Int)) + (r : Int) / (m : Int)) + (q : Int) % (2 * (m : Int))) * 4 + (q : Int) / (2 * (m : Int))) * 7 = (zps9 m r q : Int) := by
  unfold zps9
  push_cast
  rfl
theorem zps9_b {m sd r q : Nat} (hm : m = 1 ∨ m = 2) (hsd : sd = 2 * m ∨ sd = 4 * m) (hr : r < sd) (hq : q < sd) {e : Nat} (he : e < 7) : zps9 m r q + e < 1344 := by
  unfold zps9
  rcases hm with rfl | rfl <;> rcases hsd with rfl | rfl <;> omega

set_option maxRecDepth 100000 in
set_option maxHeartbeats 4000000 in
theorem t_X10_findsDixon {h : zH} {p : Int} {c : Nat → Nat → Int} (hs : zSt p c) (hR : zMr p c h) {m sd : Nat} (hm : m = 1 ∨ m = 2) (hsd : sd = 2 * m ∨ sd = 4 * m) (h9 : h 445 9 = (m : Int)) (h11 : h 445 11 = (sd : Int)) : CV yX10_findsDixon mX10_findsDixon [vR 445] h (fun h' => zFr zFdx h h' ∧ ∀ r, r < sd → ∀ q, q < sd → ∀ e, e < 7 → h' 454 ((8 * r + q) * 7 + e) = zDd p c (zps9 m r q + e)) := by
  refine inV [some (vR 445), none, none, none, none] mvX10_findsDixon rfl (Nat.le_of_ble_eq_true rfl) rfl ?_
  have hp := hs.p
  have hpp : 0 < p := by omega
  have L117 : ∀ (zm117 : Nat) (r : Nat) (h' : zH), sd - r = zm117 → (r ≤ sd) → (zFr zFdx h h') → (∀ i, i < 1344 → h' 453 i = zDd p c i) → (∀ r', r' < sd → ∀ q', q' < sd → ∀ e', e' < 7 → (8 * r' + q') * 7 + e' < 8 * r * 7 → h' 454 ((8 * r' + q') * 7 + e') = zDd p c (zps9 m r' q' + e')) → WP mX10_findsDixon (zMQ mX10_findsDixon (zKV (fun h' => zFr zFdx h h' ∧ ∀ r, r < sd → ∀ q, q < sd → ∀ e, e < 7 → h' 454 ((8 * r + q) * 7 + e) = zDd p c (zps9 m r q + e)))) 117 [some (vR 445), some (vI (r : Int)), none, none, none] [] zN zGR h' := by
    intro zm117
    induction zm117 using Nat.strongRecOn with | _ zm117 ih117 => ?_
    intro r h' hzm117 hr hF hD hE
    subst hzm117
    have k11 : h' 445 11 = (sd : Int) := by rw [hF _ _ (by unfold zFdx; omega)]; exact h11
    have hsd8 : sd ≤ 8 := by omega
    have L127 : ∀ (zm127 : Nat) (q : Nat) (h2 : zH), sd - q = zm127 → (r < sd) → (q ≤ sd) → (zFr zFdx h h2) → (∀ i, i < 1344 → h2 453 i = zDd p c i) → (∀ r', r' < sd → ∀ q', q' < sd → ∀ e', e' < 7 → (8 * r' + q') * 7 + e' < (8 * r + q) * 7 → h2 454 ((8 * r' + q') * 7 + e') = zDd p c (zps9 m r' q' + e')) → WP mX10_findsDixon (zMQ mX10_findsDixon (zKV (fun h' => zFr zFdx h h' ∧ ∀ r, r < sd → ∀ q, q < sd → ∀ e, e < 7 → h' 454 ((8 * r + q) * 7 + e) = zDd p c (zps9 m r q + e)))) 127 [some (vR 445), some (vI (r : Int)), some (vI (q : Int)), none, none] [] zN zGR h2 := by
      intro zm127
      induction zm127 using Nat.strongRecOn with | _ zm127 ih127 => ?_
      intro q h2 hzm127 hrs hq hF2 hD2 hE2
      subst hzm127
      have k112 : h2 445 11 = (sd : Int) := by rw [hF2 _ _ (by unfold zFdx; omega)]; exact h11
      have k9 : h2 445 9 = (m : Int) := by rw [hF2 _ _ (by unfold zFdx; omega)]; exact h9
      have L180 : ∀ (zm180 : Nat) (e : Nat) (h3 : zH) (vp : Int), 7 - e = zm180 → (q < sd) → (e ≤ 7) → (vp = (zps9 m r q : Int)) → (zFr zFdx h h3) → (∀ i, i < 1344 → h3 453 i = zDd p c i) → (∀ r', r' < sd → ∀ q', q' < sd → ∀ e', e' < 7 → (8 * r' + q') * 7 + e' < (8 * r + q) * 7 + e → h3 454 ((8 * r' + q') * 7 + e') = zDd p c (zps9 m r' q' + e')) → WP mX10_findsDixon (zMQ mX10_findsDixon (zKV (fun h' => zFr zFdx h h' ∧ ∀ r, r < sd → ∀ q, q < sd → ∀ e, e < 7 → h' 454 ((8 * r + q) * 7 + e) = zDd p c (zps9 m r q + e)))) 180 [some (vR 445), some (vI (r : Int)), some (vI (q : Int)), some (vI vp), some (vI (e : Int))] [] zN zGR h3 := by
        intro zm180
        induction zm180 using Nat.strongRecOn with | _ zm180 ih180 => ?_
        intro e h3 vp hzm180 hqs he hvp hF3 hD3 hE3
        subst hzm180
        refine w_iload4 dX10_findsDixon_180 (wp_bipush dX10_findsDixon_182 (by decide) ?_)
        refine wp_icmp_ge 219 dX10_findsDixon_184 rfl ⟨by omega, by omega⟩ ⟨by omega, by omega⟩ (fun c184 => ?_) (fun c184 => ?_)
        · skip
          refine w_iinc2 dX10_findsDixon_219 rfl (by decide) (wp_goto 127 dX10_findsDixon_222 rfl ?_)
          refine w_forget3 ?_
          refine w_forget4 ?_
          exact ih127 _ (by omega) (q + 1) _ rfl hrs (by omega) hF3 hD3 (fun r' h1 q' h2' e' h3' h4 => hE3 r' h1 q' h2' e' h3' (by omega))
        · skip
          refine w_aload0 dX10_findsDixon_187 (wp_getr 454 dX10_findsDixon_188 fl_RX10_34 is_445 rfl (wp_bipush dX10_findsDixon_191 (by decide) (w_iload1 dX10_findsDixon_193 (wp_imul dX10_findsDixon_194 (w_iload2 dX10_findsDixon_195 (wp_iadd dX10_findsDixon_196 (wp_bipush dX10_findsDixon_197 (by decide) (wp_imul dX10_findsDixon_199 (w_iload4 dX10_findsDixon_200 ?_)))))))))
          refine wp_iadd dX10_findsDixon_202 (w_aload0 dX10_findsDixon_203 (wp_getr 453 dX10_findsDixon_204 fl_RX10_31 is_445 rfl (w_iload3 dX10_findsDixon_207 (w_iload4 dX10_findsDixon_208 (wp_iadd dX10_findsDixon_210 (x_iald (zps9 m r q + e) dX10_findsDixon_211 is_453 (by omega) (zps9_b hm hsd hrs hqs (by omega)) (x_iast ((8 * r + q) * 7 + e) dX10_findsDixon_212 is_454 (by omega) (by omega) (w_iinc4 dX10_findsDixon_213 rfl (by decide) (wp_goto 180 dX10_findsDixon_216 rfl ?_)))))))))
          refine ih180 _ (by omega) (e + 1) _ _ rfl hqs (by omega) hvp (hF3.up (by unfold zFdx; omega)) (fun x hx => by rw [zup_o (by omega)]; exact hD3 x hx) (fun r' h1 q' h2' e' h3' h4 => ?_)
          by_cases w : (8 * r' + q') * 7 + e' = (8 * r + q) * 7 + e
          · have w1 : r' = r ∧ q' = q ∧ e' = e := by omega
            rw [w1.1, w1.2.1, w1.2.2, zup_s]
            exact hD3 _ (zps9_b hm hsd hrs hqs (by omega))
          · rw [zup_o (by omega)]
            exact hE3 r' h1 q' h2' e' h3' (by omega)
      refine w_iload2 dX10_findsDixon_127 (w_aload0 dX10_findsDixon_128 (wp_geti dX10_findsDixon_129 fl_RX10_186 is_445 ?_))
      rw [k112]
      refine wp_icmp_ge 225 dX10_findsDixon_132 rfl ⟨by omega, by omega⟩ ⟨by omega, by omega⟩ (fun c132 => ?_) (fun c132 => ?_)
      · skip
        refine w_iinc1 dX10_findsDixon_225 rfl (by decide) (wp_goto 117 dX10_findsDixon_228 rfl ?_)
        refine w_forget2 ?_
        exact ih117 _ (by omega) (r + 1) _ rfl (by omega) hF2 hD2 (fun r' h1 q' h2' e' h3 h4 => hE2 r' h1 q' h2' e' h3 (by omega))
      · skip
        refine wp_bipush dX10_findsDixon_135 (by decide) (wp_iconst dX10_findsDixon_137 (w_iload1 dX10_findsDixon_138 (w_aload0 dX10_findsDixon_139 (wp_geti dX10_findsDixon_140 fl_RX10_189 is_445 ?_))))
        rw [k9]
        refine wp_irem dX10_findsDixon_143 (by omega) ⟨by omega, by omega⟩ (wp_imul dX10_findsDixon_144 (w_iload1 dX10_findsDixon_145 (w_aload0 dX10_findsDixon_146 (wp_geti dX10_findsDixon_147 fl_RX10_189 is_445 ?_))))
        rw [k9]
        refine wp_idiv dX10_findsDixon_150 (by omega) ⟨by omega, by omega⟩ (wp_iadd dX10_findsDixon_151 (wp_imul dX10_findsDixon_152 (w_iload2 dX10_findsDixon_153 (wp_iconst dX10_findsDixon_154 (w_aload0 dX10_findsDixon_155 (wp_geti dX10_findsDixon_156 fl_RX10_189 is_445 ?_))))))
        rw [k9]
        refine wp_imul dX10_findsDixon_159 (wp_irem dX10_findsDixon_160 (by omega) ⟨by omega, by omega⟩ (wp_iadd dX10_findsDixon_161 (wp_iconst dX10_findsDixon_162 (wp_imul dX10_findsDixon_163 (w_iload2 dX10_findsDixon_164 (wp_iconst dX10_findsDixon_165 (w_aload0 dX10_findsDixon_166 (wp_geti dX10_findsDixon_167 fl_RX10_189 is_445 ?_))))))))
        rw [k9]
        refine wp_imul dX10_findsDixon_170 (wp_idiv dX10_findsDixon_171 (by omega) ⟨by omega, by omega⟩ (wp_iadd dX10_findsDixon_172 (wp_bipush dX10_findsDixon_173 (by decide) (wp_imul dX10_findsDixon_175 (w_istore3 dX10_findsDixon_176 rfl (by decide) (wp_iconst dX10_findsDixon_177 (w_istore4 dX10_findsDixon_178 rfl (by decide) ?_)))))))
        exact L180 _ 0 _ _ rfl (by omega) (Nat.zero_le _) (zps9_e m r q) hF2 hD2 (fun r' h1 q' h2' e' h3 h4 => hE2 r' h1 q' h2' e' h3 (by omega))
    refine w_iload1 dX10_findsDixon_117 (w_aload0 dX10_findsDixon_118 (wp_geti dX10_findsDixon_119 fl_RX10_186 is_445 ?_))
    rw [k11]
    refine wp_icmp_ge 231 dX10_findsDixon_122 rfl ⟨by omega, by omega⟩ ⟨by omega, by omega⟩ (fun c122 => ?_) (fun c122 => ?_)
    · skip
      refine r_v dX10_findsDixon_231 rfl meX10_findsDixon ?_
      exact ⟨hF, fun r' h1 q' h2 e' h3 => hE r' h1 q' h2 e' h3 (by omega)⟩
    · skip
      refine wp_iconst dX10_findsDixon_125 (w_istore2 dX10_findsDixon_126 rfl (by decide) ?_)
      exact L127 _ 0 _ rfl (by omega) (Nat.zero_le _) hF hD (fun r' h1 q' h2 e' h3 h4 => hE r' h1 q' h2 e' h3 (by omega))
  have L47 : ∀ (zm47 : Nat) (k : Nat) (h' : zH), 3 - k = zm47 → (k ≤ 3) → (zFr zFdx h h') → (∀ q, q < 3 → ∀ i, i < 36 → h' 450 (36 * q + i) = zf1 (c q) i ∧ h' 451 (36 * q + i) = zf2 (c q) i) → (∀ i, i < 1344 → h' 453 i = zsi (fun k => zadp (zPp p c k) (c k) i) k % p) → WP mX10_findsDixon (zMQ mX10_findsDixon (zKV (fun h' => zFr zFdx h h' ∧ ∀ r, r < sd → ∀ q, q < sd → ∀ e, e < 7 → h' 454 ((8 * r + q) * 7 + e) = zDd p c (zps9 m r q + e)))) 47 [some (vR 445), some (vI (k : Int)), none, none, none] [] zN zGR h' := by
    intro zm47
    induction zm47 using Nat.strongRecOn with | _ zm47 ih47 => ?_
    intro k h' hzm47 hk hF hd hD
    subst hzm47
    have L54 : ∀ (zm54 : Nat) (i : Nat) (h2 : zH), 640 - i = zm54 → (k < 3) → (i ≤ 640) → (zFr zFdx h h2) → (∀ q, q < 3 → ∀ i, i < 36 → h2 450 (36 * q + i) = zf1 (c q) i ∧ h2 451 (36 * q + i) = zf2 (c q) i) → (∀ i, i < 1344 → h2 453 i = zsi (fun k => zadp (zPp p c k) (c k) i) k % p) → (∀ x, x < i → h2 452 x = 0) → WP mX10_findsDixon (zMQ mX10_findsDixon (zKV (fun h' => zFr zFdx h h' ∧ ∀ r, r < sd → ∀ q, q < sd → ∀ e, e < 7 → h' 454 ((8 * r + q) * 7 + e) = zDd p c (zps9 m r q + e)))) 54 [some (vR 445), some (vI (k : Int)), some (vI (i : Int)), none, none] [] zN zGR h2 := by
      intro zm54
      induction zm54 using Nat.strongRecOn with | _ zm54 ih54 => ?_
      intro i h2 hzm54 hk3 hi hF2 hd2 hD2 hz
      subst hzm54
      have hR2 : zMr p c h2 := zMr_fr hR (fun j _ => hF2 _ _ (by unfold zFdx; omega))
      have F1 := fun q => zf1_in (fun j => hs.2 q j) hpp
      have F2 := fun q => zf2_in (fun j => hs.2 q j) hpp
      refine w_iload2 dX10_findsDixon_54 (wp_sipush dX10_findsDixon_55 (by decide) ?_)
      refine wp_icmp_ge 74 dX10_findsDixon_58 rfl ⟨by omega, by omega⟩ ⟨by omega, by omega⟩ (fun c58 => ?_) (fun c58 => ?_)
      · skip
        refine w_aload0 dX10_findsDixon_74 (w_iload1 dX10_findsDixon_75 (wp_iconst dX10_findsDixon_76 (wp_iadd dX10_findsDixon_77 (wp_iconst dX10_findsDixon_78 (wp_irem dX10_findsDixon_79 (by omega) (by omega) (w_iload1 dX10_findsDixon_80 (wp_iconst dX10_findsDixon_81 (wp_iadd dX10_findsDixon_82 (wp_iconst dX10_findsDixon_83 ?_)))))))))
        refine wp_irem dX10_findsDixon_84 (by omega) (by omega) (wp_iconst dX10_findsDixon_85 ?_)
        apply v_v3 (M := mX10_findsDixon) dX10_findsDixon_86 lk_RX10_179 mvX10_multiplies (by decide) meX10_findsDixon is_445 (Nat.le_of_ble_eq_true rfl)
        · exact t_X10_multiplies (k := (k + 1) % 3) (l := (k + 2) % 3) (F := zf1 (c ((k + 1) % 3))) (S := zf2 (c ((k + 2) % 3))) (P := fun _ => 0) (by omega) (by omega) (by omega) (by omega) (Or.inl rfl) hp hR2.1 (fun q hq => ⟨(hd2 _ (by omega) q hq).1, F1 _ q⟩) (fun q hq => ⟨(hd2 _ (by omega) q hq).2, F2 _ q⟩) (fun x hx => by rw [hz x (by omega)]; exact (Int.zero_emod p).symm)
        intro h86 hP86
        replace hP86 := hP86.symm
        subst hP86
        refine w_aload0 dX10_findsDixon_89 (w_iload1 dX10_findsDixon_90 (wp_iconst dX10_findsDixon_91 (wp_iadd dX10_findsDixon_92 (wp_iconst dX10_findsDixon_93 (wp_irem dX10_findsDixon_94 (by omega) (by omega) (w_iload1 dX10_findsDixon_95 (wp_iconst dX10_findsDixon_96 (wp_iadd dX10_findsDixon_97 (wp_iconst dX10_findsDixon_98 ?_)))))))))
        refine wp_irem dX10_findsDixon_99 (by omega) (by omega) (wp_iconst dX10_findsDixon_100 ?_)
        apply v_v3 (M := mX10_findsDixon) dX10_findsDixon_101 lk_RX10_179 mvX10_multiplies (by decide) meX10_findsDixon is_445 (Nat.le_of_ble_eq_true rfl)
        · exact t_X10_multiplies (k := (k + 2) % 3) (l := (k + 1) % 3) (F := zf1 (c ((k + 2) % 3))) (S := zf2 (c ((k + 1) % 3))) (P := fun x => 0 + 1 * zmu (zf1 (c ((k + 1) % 3))) (zf2 (c ((k + 2) % 3))) x) (by omega) (by omega) (by omega) (by omega) (Or.inr rfl) hp (by rw [zfl_o (by omega)]; exact hR2.1) (fun q hq => ⟨by rw [zfl_o (by omega)]; exact (hd2 _ (by omega) q hq).1, F1 _ q⟩) (fun q hq => ⟨by rw [zfl_o (by omega)]; exact (hd2 _ (by omega) q hq).2, F2 _ q⟩) (fun x hx => zfl_i hx)
        intro h101 hP101
        replace hP101 := hP101.symm
        subst hP101
        refine w_aload0 dX10_findsDixon_104 (w_iload1 dX10_findsDixon_105 ?_)
        apply v_v1 (M := mX10_findsDixon) dX10_findsDixon_106 lk_RX10_183 mvX10_addsProduct (by decide) meX10_findsDixon is_445 (Nat.le_of_ble_eq_true rfl)
        · exact t_X10_addsProduct (k := k) (P := zPp p c k) (D := fun x => zsi (fun k => zadp (zPp p c k) (c k) x) k) rfl hk3 hs (zMr_fr hR2 (fun j _ => by rw [zfl_o (by omega), zfl_o (by omega)])) (fun q hq => ⟨by rw [zfl_i (by omega)]; unfold zPp; congr 1; omega, z_mod hpp _⟩) (fun x hx => by rw [zfl_o (by omega), zfl_o (by omega)]; exact hD2 x hx)
        intro h106 hP106
        replace hP106 := hP106.symm
        subst hP106
        refine w_iinc1 dX10_findsDixon_109 rfl (by decide) (wp_goto 47 dX10_findsDixon_112 rfl ?_)
        refine w_forget2 ?_
        refine ih47 _ (by omega) (k + 1) _ rfl (by omega) (fun a j n => ?_) (fun q hq x hx => ?_) (fun x hx => ?_)
        · have n2 := n
          unfold zFdx at n2
          rw [zfl_o (by omega), zfl_o (by omega), zfl_o (by omega)]
          exact hF2 a j n
        · rw [zfl_o (by omega), zfl_o (by omega), zfl_o (by omega), zfl_o (by omega), zfl_o (by omega), zfl_o (by omega)]
          exact hd2 q hq x hx
        · rw [zfl_i hx]
          rfl
      · skip
        refine w_aload0 dX10_findsDixon_61 (wp_getr 452 dX10_findsDixon_62 fl_RX10_28 is_445 rfl (w_iload2 dX10_findsDixon_65 (wp_iconst dX10_findsDixon_66 (x_iast i dX10_findsDixon_67 is_452 rfl (by omega) (w_iinc2 dX10_findsDixon_68 rfl (by decide) (wp_goto 54 dX10_findsDixon_71 rfl ?_))))))
        refine ih54 _ (by omega) (i + 1) _ rfl hk3 (by omega) (hF2.up (by unfold zFdx; omega)) (fun q hq x hx => by rw [zup_o (by omega), zup_o (by omega)]; exact hd2 q hq x hx) (fun x hx => by rw [zup_o (by omega)]; exact hD2 x hx) (fun x hx => ?_)
        by_cases e : x = i
        · rw [e, zup_s]
        · rw [zup_o (by omega)]; exact hz x (by omega)
    refine w_iload1 dX10_findsDixon_47 (wp_iconst dX10_findsDixon_48 ?_)
    refine wp_icmp_ge 115 dX10_findsDixon_49 rfl ⟨by omega, by omega⟩ ⟨by omega, by omega⟩ (fun c49 => ?_) (fun c49 => ?_)
    · skip
      refine wp_iconst dX10_findsDixon_115 (w_istore1 dX10_findsDixon_116 rfl (by decide) ?_)
      exact L117 _ 0 _ rfl (Nat.zero_le _) hF (fun x hx => by rw [hD x hx, show k = 3 by omega]; rfl) (fun r' h1 q' h2 e' h3 h4 => by omega)
    · skip
      refine wp_iconst dX10_findsDixon_52 (w_istore2 dX10_findsDixon_53 rfl (by decide) ?_)
      exact L54 _ 0 _ rfl (by omega) (Nat.zero_le _) hF hd hD (fun q hq => absurd hq (Nat.not_lt_zero q))
  have L25 : ∀ (zm25 : Nat) (i : Nat) (h' : zH), 1344 - i = zm25 → (i ≤ 1344) → (zFr zFdx h h') → (∀ q, q < 3 → ∀ i, i < 36 → h' 450 (36 * q + i) = zf1 (c q) i ∧ h' 451 (36 * q + i) = zf2 (c q) i) → (∀ x, x < i → h' 453 x = 0) → WP mX10_findsDixon (zMQ mX10_findsDixon (zKV (fun h' => zFr zFdx h h' ∧ ∀ r, r < sd → ∀ q, q < sd → ∀ e, e < 7 → h' 454 ((8 * r + q) * 7 + e) = zDd p c (zps9 m r q + e)))) 25 [some (vR 445), some (vI (i : Int)), none, none, none] [] zN zGR h' := by
    intro zm25
    induction zm25 using Nat.strongRecOn with | _ zm25 ih25 => ?_
    intro i h' hzm25 hi hF hd hz
    subst hzm25
    refine w_iload1 dX10_findsDixon_25 (wp_sipush dX10_findsDixon_26 (by decide) ?_)
    refine wp_icmp_ge 45 dX10_findsDixon_29 rfl ⟨by omega, by omega⟩ ⟨by omega, by omega⟩ (fun c29 => ?_) (fun c29 => ?_)
    · skip
      refine wp_iconst dX10_findsDixon_45 (w_istore1 dX10_findsDixon_46 rfl (by decide) ?_)
      exact L47 _ 0 _ rfl (Nat.zero_le _) hF hd (fun x hx => by rw [hz x (by omega)]; exact (Int.zero_emod p).symm)
    · skip
      refine w_aload0 dX10_findsDixon_32 (wp_getr 453 dX10_findsDixon_33 fl_RX10_31 is_445 rfl (w_iload1 dX10_findsDixon_36 (wp_iconst dX10_findsDixon_37 (x_iast i dX10_findsDixon_38 is_453 rfl (by omega) (w_iinc1 dX10_findsDixon_39 rfl (by decide) (wp_goto 25 dX10_findsDixon_42 rfl ?_))))))
      refine ih25 _ (by omega) (i + 1) _ rfl (by omega) (hF.up (by unfold zFdx; omega)) (fun q hq x hx => by rw [zup_o (by omega), zup_o (by omega)]; exact hd q hq x hx) (fun x hx => ?_)
      by_cases e : x = i
      · rw [e, zup_s]
      · rw [zup_o (by omega)]; exact hz x (by omega)
  have L2 : ∀ (zm2 : Nat) (k : Nat) (h' : zH), 3 - k = zm2 → (k ≤ 3) → (zFr zFdx h h') → (∀ q, q < k → ∀ i, i < 36 → h' 450 (36 * q + i) = zf1 (c q) i ∧ h' 451 (36 * q + i) = zf2 (c q) i) → WP mX10_findsDixon (zMQ mX10_findsDixon (zKV (fun h' => zFr zFdx h h' ∧ ∀ r, r < sd → ∀ q, q < sd → ∀ e, e < 7 → h' 454 ((8 * r + q) * 7 + e) = zDd p c (zps9 m r q + e)))) 2 [some (vR 445), some (vI (k : Int)), none, none, none] [] zN zGR h' := by
    intro zm2
    induction zm2 using Nat.strongRecOn with | _ zm2 ih2 => ?_
    intro k h' hzm2 hk hF hd
    subst hzm2
    have hR' : zMr p c h' := zMr_fr hR (fun j _ => hF _ _ (by unfold zFdx; omega))
    refine w_iload1 dX10_findsDixon_2 (wp_iconst dX10_findsDixon_3 ?_)
    refine wp_icmp_ge 23 dX10_findsDixon_4 rfl ⟨by omega, by omega⟩ ⟨by omega, by omega⟩ (fun c4 => ?_) (fun c4 => ?_)
    · skip
      refine wp_iconst dX10_findsDixon_23 (w_istore1 dX10_findsDixon_24 rfl (by decide) ?_)
      rw [show k = 3 by omega] at hd
      exact L25 _ 0 _ rfl (Nat.zero_le _) hF hd (fun q hq => absurd hq (Nat.not_lt_zero q))
    · skip
      refine w_aload0 dX10_findsDixon_7 (w_iload1 dX10_findsDixon_8 ?_)
      apply v_v1 (M := mX10_findsDixon) dX10_findsDixon_9 lk_RX10_173 mvX10_differsInX (by decide) meX10_findsDixon is_445 (Nat.le_of_ble_eq_true rfl)
      · exact t_X10_differsInX (k := k) rfl (by omega) hs hR'
      intro h9 hP9
      replace hP9 := hP9.symm
      subst hP9
      refine w_aload0 dX10_findsDixon_12 (w_iload1 dX10_findsDixon_13 ?_)
      apply v_v1 (M := mX10_findsDixon) dX10_findsDixon_14 lk_RX10_176 mvX10_differsInY (by decide) meX10_findsDixon is_445 (Nat.le_of_ble_eq_true rfl)
      · exact t_X10_differsInY (k := k) rfl (by omega) hs (zMr_fr hR' (fun j _ => zpc6_o (by omega)))
      intro h14 hP14
      replace hP14 := hP14.symm
      subst hP14
      refine w_iinc1 dX10_findsDixon_17 rfl (by decide) (wp_goto 2 dX10_findsDixon_20 rfl ?_)
      refine ih2 _ (by omega) (k + 1) _ rfl (by omega) (fun a j n => ?_) (fun q hq i hi => ?_)
      · have n2 := n
        unfold zFdx at n2
        rw [zpc6_o (by omega), zpc6_o (by omega)]
        exact hF a j n
      · by_cases e : q = k
        · rw [e]
          refine ⟨?_, ?_⟩
          · rw [zpc6_o (by omega)]
            unfold zpc6
            rw [if_pos (by omega), show 36 * k + i - 36 * k = i by omega]
          · unfold zpc6
            rw [if_pos (by omega), show 36 * k + i - 36 * k = i by omega]
        · rw [zpc6_o (by omega), zpc6_o (by omega), zpc6_o (by omega), zpc6_o (by omega)]
          exact hd q (by omega) i hi
  refine wp_iconst dX10_findsDixon_0 (w_istore1 dX10_findsDixon_1 rfl (by decide) ?_)
  exact L2 _ 0 _ rfl (Nat.zero_le _) zFr.rf (fun q hq => absurd hq (Nat.not_lt_zero q))
set_option maxRecDepth 100000 in
set_option maxHeartbeats 4000000 in
theorem t_X10_entryValue {h : zH} {rr qq t p : Int} {r q : Nat} (hr : rr = r) (hq : qq = q) (hr8 : r < 8) (hq8 : q < 8) (ht : 0 ≤ t ∧ t < p) (hp : 5 ≤ p ∧ p ≤ 31) (hp0 : h 446 0 = p) {E : Nat → Int} (hE : ∀ e, e < 7 → h 454 ((8 * r + q) * 7 + e) = E e ∧ 0 ≤ E e ∧ E e < p) : CI yX10_entryValue mX10_entryValue [vR 445, vI rr, vI qq, vI t] h (fun r h' => h' = h ∧ r = zhor t p 7 E) := by
  refine inV [some (vR 445), some (vI rr), some (vI qq), some (vI t), none, none] mvX10_entryValue rfl (Nat.le_of_ble_eq_true rfl) rfl ?_
  have hpp : 0 < p := by omega
  have L7 : ∀ (zm7 : Nat) (e : Nat) (s vi : Int), e = zm7 → (e ≤ 7) → (vi = (e : Int) - 1) → (s = zhor t p (7 - e) (fun j => E (j + e))) → WP mX10_entryValue (zMQ mX10_entryValue (zKI (fun r h' => h' = h ∧ r = zhor t p 7 E))) 7 [some (vR 445), some (vI rr), some (vI qq), some (vI t), some (vI s), some (vI vi)] [] zN zGR h := by
    intro zm7
    induction zm7 using Nat.strongRecOn with | _ zm7 ih7 => ?_
    intro e s vi hzm7 he hv hs
    subst hzm7
    have hsb := zhor_in (t := t) hpp (7 - e) (fun j => E (j + e))
    rw [← hs] at hsb
    have hst := z_mul hsb ht hp.2
    refine w_iload5 dX10_entryValue_7 ?_
    refine wp_if_lt 47 dX10_entryValue_9 rfl ⟨by omega, by omega⟩ (fun c9 => ?_) (fun c9 => ?_)
    · skip
      refine w_iload4 dX10_entryValue_47 ?_
      refine r_i dX10_entryValue_49 rfl meX10_entryValue ?_
      refine ⟨rfl, ?_⟩
      rw [hs, show e = 0 by omega]
      rfl
    · skip
      have hfe := hE (e - 1) (by omega)
      refine w_iload4 dX10_entryValue_12 (w_iload3 dX10_entryValue_14 (wp_imul dX10_entryValue_15 (w_aload0 dX10_entryValue_16 (wp_getr 454 dX10_entryValue_17 fl_RX10_34 is_445 rfl (wp_bipush dX10_entryValue_20 (by decide) (w_iload1 dX10_entryValue_22 (wp_imul dX10_entryValue_23 (w_iload2 dX10_entryValue_24 (wp_iadd dX10_entryValue_25 ?_)))))))))
      refine wp_bipush dX10_entryValue_26 (by decide) (wp_imul dX10_entryValue_28 (w_iload5 dX10_entryValue_29 (wp_iadd dX10_entryValue_31 (x_iald ((8 * r + q) * 7 + (e - 1)) dX10_entryValue_32 is_454 (by omega) (by omega) (wp_iadd dX10_entryValue_33 (w_aload0 dX10_entryValue_34 ?_))))))
      apply v_i0 (M := mX10_entryValue) dX10_entryValue_35 lk_RX10_76 mvX10_p (by decide) meX10_entryValue is_445 (Nat.le_of_ble_eq_true rfl)
      · exact t_X10_p hp0
      intro x35 h35 hP35
      obtain ⟨eh35, ex35⟩ := hP35
      replace eh35 := eh35.symm
      subst eh35
      replace ex35 := ex35.symm
      subst ex35
      refine wp_irem dX10_entryValue_38 (by omega) (by omega) (w_istore4 dX10_entryValue_39 rfl (by decide) (w_iinc5 dX10_entryValue_41 rfl (by decide) (wp_goto 7 dX10_entryValue_44 rfl ?_)))
      refine ih7 (e - 1) (by omega) (e - 1) _ _ rfl (by omega) (by omega) ?_
      rw [hfe.1, show 7 - (e - 1) = 7 - e + 1 by omega]
      show _ = (zhor t p (7 - e) (fun j => E (j + 1 + (e - 1))) * t + E (0 + (e - 1))) % p
      rw [zhor_congr (7 - e) (fun j => E (j + 1 + (e - 1))) (fun j => E (j + e)) (fun j _ => by rw [show j + 1 + (e - 1) = j + e by omega]), ← hs, Nat.zero_add]
  refine wp_iconst dX10_entryValue_0 (w_istore4 dX10_entryValue_1 rfl (by decide) (wp_bipush dX10_entryValue_3 (by decide) (w_istore5 dX10_entryValue_5 rfl (by decide) ?_)))
  exact L7 _ 7 0 _ rfl (Nat.le_refl _) rfl (by rw [Nat.sub_self]; rfl)
set_option maxRecDepth 100000 in
set_option maxHeartbeats 4000000 in
theorem t_X10_lays {h : zH} {t b p : Int} (ht : 0 ≤ t ∧ t < p) (hb : b = 0 ∨ b = 1) (hp : 5 ≤ p ∧ p ≤ 31) (hp0 : h 446 0 = p) {sd : Nat} (hsd : sd ≤ 8) (h11 : h 445 11 = (sd : Int)) {E : Nat → Nat → Int} (hE : ∀ r, r < sd → ∀ q, q < sd → ∀ e, e < 7 → h 454 ((8 * r + q) * 7 + e) = E (8 * r + q) e ∧ 0 ≤ E (8 * r + q) e ∧ E (8 * r + q) e < p) : CV yX10_lays mX10_lays [vR 445, vI t, vI b] h (fun h' => zFr (fun a _ => a = 458) h h' ∧ ∀ r, r < sd → ∀ q, q < sd → h' 458 (8 * r + q) = zhor t p 7 (if b = 0 then E (8 * r + q) else E (8 * q + r))) := by
  refine inV [some (vR 445), some (vI t), some (vI b), none, none] mvX10_lays rfl (Nat.le_of_ble_eq_true rfl) rfl ?_
  have L2 : ∀ (zm2 : Nat) (r : Nat) (h' : zH), sd - r = zm2 → (r ≤ sd) → (zFr (fun a _ => a = 458) h h') → (∀ r', r' < sd → ∀ q', q' < sd → 8 * r' + q' < 8 * r → h' 458 (8 * r' + q') = zhor t p 7 (if b = 0 then E (8 * r' + q') else E (8 * q' + r'))) → WP mX10_lays (zMQ mX10_lays (zKV (fun h' => zFr (fun a _ => a = 458) h h' ∧ ∀ r, r < sd → ∀ q, q < sd → h' 458 (8 * r + q) = zhor t p 7 (if b = 0 then E (8 * r + q) else E (8 * q + r))))) 2 [some (vR 445), some (vI t), some (vI b), some (vI (r : Int)), none] [] zN zGR h' := by
    intro zm2
    induction zm2 using Nat.strongRecOn with | _ zm2 ih2 => ?_
    intro r h' hzm2 hr hF hW
    subst hzm2
    have k11 : h' 445 11 = (sd : Int) := by rw [hF _ _ (by omega)]; exact h11
    have L13 : ∀ (zm13 : Nat) (q : Nat) (h2 : zH), sd - q = zm13 → (r < sd) → (q ≤ sd) → (zFr (fun a _ => a = 458) h h2) → (∀ r', r' < sd → ∀ q', q' < sd → 8 * r' + q' < 8 * r + q → h2 458 (8 * r' + q') = zhor t p 7 (if b = 0 then E (8 * r' + q') else E (8 * q' + r'))) → WP mX10_lays (zMQ mX10_lays (zKV (fun h' => zFr (fun a _ => a = 458) h h' ∧ ∀ r, r < sd → ∀ q, q < sd → h' 458 (8 * r + q) = zhor t p 7 (if b = 0 then E (8 * r + q) else E (8 * q + r))))) 13 [some (vR 445), some (vI t), some (vI b), some (vI (r : Int)), some (vI (q : Int))] [] zN zGR h2 := by
      intro zm13
      induction zm13 using Nat.strongRecOn with | _ zm13 ih13 => ?_
      intro q h2 hzm13 hrs hq hF2 hW2
      subst hzm13
      have k112 : h2 445 11 = (sd : Int) := by rw [hF2 _ _ (by omega)]; exact h11
      have k02 : h2 446 0 = p := by rw [hF2 _ _ (by omega)]; exact hp0
      have hE2 : ∀ r, r < sd → ∀ q, q < sd → ∀ e, e < 7 → h2 454 ((8 * r + q) * 7 + e) = E (8 * r + q) e ∧ 0 ≤ E (8 * r + q) e ∧ E (8 * r + q) e < p := fun r hr q hq e he => by rw [hF2 _ _ (by omega)]; exact hE r hr q hq e he
      have L56 : ∀ (w : Int), (q < sd) → (w = zhor t p 7 (if b = 0 then E (8 * r + q) else E (8 * q + r))) → WP mX10_lays (zMQ mX10_lays (zKV (fun h' => zFr (fun a _ => a = 458) h h' ∧ ∀ r, r < sd → ∀ q, q < sd → h' 458 (8 * r + q) = zhor t p 7 (if b = 0 then E (8 * r + q) else E (8 * q + r))))) 56 [some (vR 445), some (vI t), some (vI b), some (vI (r : Int)), some (vI (q : Int))] [vI w, vI (8 * (r : Int) + (q : Int)), vR 458] zN zGR h2 := by
        intro w hqs hw
        refine x_iast (8 * r + q) dX10_lays_56 is_458 (by omega) (by omega) (w_iinc4 dX10_lays_57 rfl (by decide) (wp_goto 13 dX10_lays_60 rfl ?_))
        refine ih13 _ (by omega) (q + 1) _ rfl hrs (by omega) (hF2.up rfl) (fun r' h1 q' h2' h3 => ?_)
        by_cases w : 8 * r' + q' = 8 * r + q
        · have w1 : r' = r ∧ q' = q := by omega
          rw [w1.1, w1.2, zup_s]
          exact hw
        · rw [zup_o (by omega)]
          exact hW2 r' h1 q' h2' (by omega)
      refine w_iload4 dX10_lays_13 (w_aload0 dX10_lays_15 (wp_geti dX10_lays_16 fl_RX10_186 is_445 ?_))
      rw [k112]
      refine wp_icmp_ge 63 dX10_lays_19 rfl ⟨by omega, by omega⟩ ⟨by omega, by omega⟩ (fun c19 => ?_) (fun c19 => ?_)
      · skip
        refine w_iinc3 dX10_lays_63 rfl (by decide) (wp_goto 2 dX10_lays_66 rfl ?_)
        refine w_forget4 ?_
        exact ih2 _ (by omega) (r + 1) _ rfl (by omega) hF2 (fun r' h1 q' h2' h3 => hW2 r' h1 q' h2' (by omega))
      · skip
        refine w_aload0 dX10_lays_22 (wp_getr 458 dX10_lays_23 fl_RX10_46 is_445 rfl (wp_bipush dX10_lays_26 (by decide) (w_iload3 dX10_lays_28 (wp_imul dX10_lays_29 (w_iload4 dX10_lays_30 (wp_iadd dX10_lays_32 (w_iload2 dX10_lays_33 ?_)))))))
        refine wp_if_eq 48 dX10_lays_34 rfl ⟨by omega, by omega⟩ (fun c34 => ?_) (fun c34 => ?_)
        · skip
          refine w_aload0 dX10_lays_48 (w_iload3 dX10_lays_49 (w_iload4 dX10_lays_50 (w_iload1 dX10_lays_52 ?_)))
          apply v_i3 (M := mX10_lays) dX10_lays_53 lk_RX10_192 mvX10_entryValue (by decide) meX10_lays is_445 (Nat.le_of_ble_eq_true rfl)
          · exact t_X10_entryValue (r := r) (q := q) (E := E (8 * r + q)) rfl rfl (by omega) (by omega) ht hp k02 (fun e he => hE2 r hrs q (by omega) e he)
          intro x53 h53 hP53
          obtain ⟨eh53, ex53⟩ := hP53
          replace eh53 := eh53.symm
          subst eh53
          replace ex53 := ex53.symm
          subst ex53
          first
          | exact L56 _ (by omega) (by rw [if_pos (by omega)])
          | exact L56 _ (by omega) (by rw [if_neg (by omega)])
        · skip
          refine w_aload0 dX10_lays_37 (w_iload4 dX10_lays_38 (w_iload3 dX10_lays_40 (w_iload1 dX10_lays_41 ?_)))
          apply v_i3 (M := mX10_lays) dX10_lays_42 lk_RX10_192 mvX10_entryValue (by decide) meX10_lays is_445 (Nat.le_of_ble_eq_true rfl)
          · exact t_X10_entryValue (r := q) (q := r) (E := E (8 * q + r)) rfl rfl (by omega) (by omega) ht hp k02 (fun e he => hE2 q (by omega) r hrs e he)
          intro x42 h42 hP42
          obtain ⟨eh42, ex42⟩ := hP42
          replace eh42 := eh42.symm
          subst eh42
          replace ex42 := ex42.symm
          subst ex42
          refine wp_goto 56 dX10_lays_45 rfl ?_
          first
          | exact L56 _ (by omega) (by rw [if_pos (by omega)])
          | exact L56 _ (by omega) (by rw [if_neg (by omega)])
    refine w_iload3 dX10_lays_2 (w_aload0 dX10_lays_3 (wp_geti dX10_lays_4 fl_RX10_186 is_445 ?_))
    rw [k11]
    refine wp_icmp_ge 69 dX10_lays_7 rfl ⟨by omega, by omega⟩ ⟨by omega, by omega⟩ (fun c7 => ?_) (fun c7 => ?_)
    · skip
      refine r_v dX10_lays_69 rfl meX10_lays ?_
      exact ⟨hF, fun r' h1 q' h2 => hW r' h1 q' h2 (by omega)⟩
    · skip
      refine wp_iconst dX10_lays_10 (w_istore4 dX10_lays_11 rfl (by decide) ?_)
      exact L13 _ 0 _ rfl (by omega) (Nat.zero_le _) hF (fun r' h1 q' h2 h3 => hW r' h1 q' h2 (by omega))
  refine wp_iconst dX10_lays_0 (w_istore3 dX10_lays_1 rfl (by decide) ?_)
  exact L2 _ 0 _ rfl (Nat.zero_le _) zFr.rf (fun r' h1 q' h2 h3 => by omega)
