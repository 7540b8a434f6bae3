
section
variable {M : zM} {Q : zQT} {pc n : Nat} {st : List zv} {g : zG} {h : zH}
theorem w_lload1 {l0 : Option zv} {x : Int} {t : List (Option zv)} (hd : decode M.2.1 pc = .ok (.lload_n 1, 1)) (k : WP M Q (pc + 1) (l0 :: some (vL x) :: t) (vL x :: st) n g h) : WP M Q pc (l0 :: some (vL x) :: t) st n g h := wp_lloadn 1 rfl rfl hd k
theorem w_lstore1 {l0 u w : Option zv} {x : Int} {t : List (Option zv)} (hd : decode M.2.1 pc = .ok (.lstore_n 1, 1)) (hs : zsafe l0 = true) (hk : 2 < M.2.2.1) (k : WP M Q (pc + 1) (l0 :: some (vL x) :: none :: t) st n g h) : WP M Q pc (l0 :: u :: w :: t) (vL x :: st) n g h := wp_lstoren 1 hs rfl rfl hk hd k
end

set_option maxRecDepth 100000 in
set_option maxHeartbeats 4000000 in
theorem t_X9_digest {h : zH} {p : Int} {c : Nat → Nat → Int} {hs : List (Int × (Nat → Nat → Int))} {tx : Nat → Int} {L : Nat} (H : zWd p c hs tx L h) : CL yX9_digest mX9_digest [vR 1] h (fun r h' => zPX (sp_digest (p, c, hs, tx, L)) h r h') := by
  refine inV [some (vR 1), none, none, none] mvX9_digest rfl (Nat.le_of_ble_eq_true rfl) rfl ?_
  obtain ⟨hs1, hP, hH, hT, hC⟩ := id H
  have hp := hs1.p
  have hp0 : h 2 0 = p := hP.1
  have hpp : 0 < p := by omega
  have L246 : ∀ (zm246 : Nat) (i : Nat) (h' : zH) (x vi : Int), p.toNat - i = zm246 → ((i : Int) ≤ p) → (vi = (i : Int)) → (zWd p c hs tx L h') → (zFX h h') → (x = zmixN (fun t => (sp_confirmed (p, c, hs, tx, L) (t : Int)).1) i (zmixN (fun e => (sp_eliminant (p, c, hs, tx, L) 1 (e : Int)).1) 49 (zdg3 (p, c, hs, tx, L)))) → (¬ zsd c = 0) → WP mX9_digest (zMQ mX9_digest (zKL (fun r h' => zPX (sp_digest (p, c, hs, tx, L)) h r h'))) 246 [some (vR 1), some (vL x), none, some (vI vi)] [] zN zGR h' := by
    intro zm246
    induction zm246 using Nat.strongRecOn with | _ zm246 ih246 => ?_
    intro i h' x vi hzm246 hi hvi hW hX hx hsd
    subst hzm246
    have hzi : zin vi := ⟨by omega, by omega⟩
    refine w_iload3 dX9_digest_246 (w_aload0 dX9_digest_247 (wp_getr 2 dX9_digest_248 fl_RX9_20 is_1 rfl (wp_geti dX9_digest_251 fl_RX9_68 is_2 ?_)))
    rw [hW.2.1.1]
    refine wp_icmp_ge 276 dX9_digest_254 rfl ⟨by omega, by omega⟩ ⟨by omega, by omega⟩ (fun c254 => ?_) (fun c254 => ?_)
    · skip
      refine w_lload1 dX9_digest_276 ?_
      refine r_l dX9_digest_277 rfl meX9_digest ?_
      refine zPX_q hW hX (zif_n hsd) ?_
      rw [hx, show i = p.toNat by omega]
      rfl
    · skip
      refine wp_ldc2 dX9_digest_257 kc_RX9_248 (w_lload1 dX9_digest_260 (wp_lmul dX9_digest_261 (w_aload0 dX9_digest_262 (w_iload3 dX9_digest_263 ?_))))
      apply v_i1 (M := mX9_digest) dX9_digest_264 lk_RX9_288 mvX9_confirmed (by decide) meX9_digest is_1 (Nat.le_of_ble_eq_true rfl)
      · exact t_X9_confirmed hW hzi
      intro x264 h264 hP264
      obtain ⟨er264, W264, X264⟩ := hP264
      subst er264
      rw [show (sp_confirmed (p, c, hs, tx, L) vi).2 = (p, c, hs, tx, L) from sp_mt_2] at W264
      replace W264 : zWd p c hs tx L h264 := W264
      refine wp_i2l dX9_digest_267 zconf_in (wp_ladd dX9_digest_268 (w_lstore1 dX9_digest_269 rfl (by decide) (w_iinc3 dX9_digest_270 rfl (by decide) (wp_goto 246 dX9_digest_273 rfl ?_))))
      refine ih246 _ (by omega) (i + 1) _ _ _ rfl (by omega) (by omega) W264 (zFX_t hX X264) ?_ hsd
      rw [hx, hvi]
      rfl
  have L218 : ∀ (zm218 : Nat) (i : Nat) (h' : zH) (x vi : Int), 49 - i = zm218 → (i ≤ 49) → (vi = (i : Int)) → (zWd p c hs tx L h') → (zFX h h') → (x = zmixN (fun e => (sp_eliminant (p, c, hs, tx, L) 1 (e : Int)).1) i (zdg3 (p, c, hs, tx, L))) → (¬ zsd c = 0) → WP mX9_digest (zMQ mX9_digest (zKL (fun r h' => zPX (sp_digest (p, c, hs, tx, L)) h r h'))) 218 [some (vR 1), some (vL x), none, some (vI vi)] [] zN zGR h' := by
    intro zm218
    induction zm218 using Nat.strongRecOn with | _ zm218 ih218 => ?_
    intro i h' x vi hzm218 hi hvi hW hX hx hsd
    subst hzm218
    have hzi : zin vi := ⟨by omega, by omega⟩
    refine w_iload3 dX9_digest_218 (wp_bipush dX9_digest_219 (by decide) ?_)
    refine wp_icmp_ge 244 dX9_digest_221 rfl ⟨by omega, by omega⟩ ⟨by omega, by omega⟩ (fun c221 => ?_) (fun c221 => ?_)
    · skip
      refine wp_iconst dX9_digest_244 (w_istore3 dX9_digest_245 rfl (by decide) ?_)
      refine L246 _ 0 _ _ _ rfl (by omega) rfl hW hX ?_ hsd
      rw [hx, show i = 49 by omega]
      rfl
    · skip
      refine wp_ldc2 dX9_digest_224 kc_RX9_248 (w_lload1 dX9_digest_227 (wp_lmul dX9_digest_228 (w_aload0 dX9_digest_229 (wp_iconst dX9_digest_230 (w_iload3 dX9_digest_231 ?_)))))
      apply v_i2 (M := mX9_digest) dX9_digest_232 lk_RX9_284 mvX9_eliminant (by decide) meX9_digest is_1 (Nat.le_of_ble_eq_true rfl)
      · exact t_X9_eliminant hW (Or.inr rfl) hzi
      intro x232 h232 hP232
      obtain ⟨er232, W232, X232⟩ := hP232
      subst er232
      rw [sp_eliminant_2] at W232
      replace W232 : zWd p c hs tx L h232 := W232
      refine wp_i2l dX9_digest_235 (zelim_in hs1) (wp_ladd dX9_digest_236 (w_lstore1 dX9_digest_237 rfl (by decide) (w_iinc3 dX9_digest_238 rfl (by decide) (wp_goto 218 dX9_digest_241 rfl ?_))))
      refine ih218 _ (by omega) (i + 1) _ _ _ rfl (by omega) (by omega) W232 (zFX_t hX X232) ?_ hsd
      rw [hx, hvi]
      rfl
  have L177 : ∀ (zm177 : Nat) (i : Nat) (h' : zH) (x vi : Int), 49 - i = zm177 → (i ≤ 49) → (vi = (i : Int)) → (zWd p c hs tx L h') → (zFX h h') → (x = zmixN (fun e => (sp_eliminant (p, c, hs, tx, L) 0 (e : Int)).1) i (zdg2 (p, c, hs, tx, L))) → (¬ zsd c = 0) → WP mX9_digest (zMQ mX9_digest (zKL (fun r h' => zPX (sp_digest (p, c, hs, tx, L)) h r h'))) 177 [some (vR 1), some (vL x), none, some (vI vi)] [] zN zGR h' := by
    intro zm177
    induction zm177 using Nat.strongRecOn with | _ zm177 ih177 => ?_
    intro i h' x vi hzm177 hi hvi hW hX hx hsd
    subst hzm177
    have hzi : zin vi := ⟨by omega, by omega⟩
    refine w_iload3 dX9_digest_177 (wp_bipush dX9_digest_178 (by decide) ?_)
    refine wp_icmp_ge 203 dX9_digest_180 rfl ⟨by omega, by omega⟩ ⟨by omega, by omega⟩ (fun c180 => ?_) (fun c180 => ?_)
    · skip
      refine wp_ldc2 dX9_digest_203 kc_RX9_248 (w_lload1 dX9_digest_206 (wp_lmul dX9_digest_207 (w_aload0 dX9_digest_208 (wp_iconst dX9_digest_209 ?_))))
      apply v_i1 (M := mX9_digest) dX9_digest_210 lk_RX9_281 mvX9_eliminantDegree (by decide) meX9_digest is_1 (Nat.le_of_ble_eq_true rfl)
      · exact t_X9_eliminantDegree hW (Or.inr rfl)
      intro x210 h210 hP210
      obtain ⟨er210, W210, X210⟩ := hP210
      subst er210
      rw [show (sp_eliminantDegree (p, c, hs, tx, L) 1).2 = (p, c, hs, tx, L) from sp_m_2] at W210
      replace W210 : zWd p c hs tx L h210 := W210
      refine wp_i2l dX9_digest_213 zedeg_in (wp_ladd dX9_digest_214 (w_lstore1 dX9_digest_215 rfl (by decide) (wp_iconst dX9_digest_216 (w_istore3 dX9_digest_217 rfl (by decide) ?_))))
      refine L218 _ 0 _ _ _ rfl (Nat.zero_le _) rfl W210 (zFX_t hX X210) ?_ hsd
      rw [hx, show i = 49 by omega]
      rfl
    · skip
      refine wp_ldc2 dX9_digest_183 kc_RX9_248 (w_lload1 dX9_digest_186 (wp_lmul dX9_digest_187 (w_aload0 dX9_digest_188 (wp_iconst dX9_digest_189 (w_iload3 dX9_digest_190 ?_)))))
      apply v_i2 (M := mX9_digest) dX9_digest_191 lk_RX9_284 mvX9_eliminant (by decide) meX9_digest is_1 (Nat.le_of_ble_eq_true rfl)
      · exact t_X9_eliminant hW (Or.inl rfl) hzi
      intro x191 h191 hP191
      obtain ⟨er191, W191, X191⟩ := hP191
      subst er191
      rw [sp_eliminant_2] at W191
      replace W191 : zWd p c hs tx L h191 := W191
      refine wp_i2l dX9_digest_194 (zelim_in hs1) (wp_ladd dX9_digest_195 (w_lstore1 dX9_digest_196 rfl (by decide) (w_iinc3 dX9_digest_197 rfl (by decide) (wp_goto 177 dX9_digest_200 rfl ?_))))
      refine ih177 _ (by omega) (i + 1) _ _ _ rfl (by omega) (by omega) W191 (zFX_t hX X191) ?_ hsd
      rw [hx, hvi]
      rfl
  have L6 : ∀ (zm6 : Nat) (i : Nat) (h' : zH) (x vi : Int), 7 - i = zm6 → (i ≤ 7) → (vi = (i : Int)) → (zWd p c hs tx L h') → (zFX h h') → (x = zmixN (fun w => zcount (p, c, hs, tx, L) (w : Int)) i 18404) → WP mX9_digest (zMQ mX9_digest (zKL (fun r h' => zPX (sp_digest (p, c, hs, tx, L)) h r h'))) 6 [some (vR 1), some (vL x), none, some (vI vi)] [] zN zGR h' := by
    intro zm6
    induction zm6 using Nat.strongRecOn with | _ zm6 ih6 => ?_
    intro i h' x vi hzm6 hi hvi hW hX hx
    subst hzm6
    have hzi : zin vi := ⟨by omega, by omega⟩
    refine w_iload3 dX9_digest_6 (wp_bipush dX9_digest_7 (by decide) ?_)
    refine wp_icmp_gt 31 dX9_digest_9 rfl ⟨by omega, by omega⟩ ⟨by omega, by omega⟩ (fun c9 => ?_) (fun c9 => ?_)
    · skip
      refine wp_ldc2 dX9_digest_31 kc_RX9_248 (w_lload1 dX9_digest_34 (wp_lmul dX9_digest_35 (w_aload0 dX9_digest_36 ?_)))
      apply v_i0 (M := mX9_digest) dX9_digest_37 lk_RX9_253 mvX9_degreeDrops (by decide) meX9_digest is_1 (Nat.le_of_ble_eq_true rfl)
      · exact t_X9_degreeDrops hW
      intro x37 h37 hP37
      obtain ⟨er37, W37, X37⟩ := hP37
      subst er37
      replace W37 : zWd p c hs tx L h37 := W37
      refine wp_i2l dX9_digest_40 (zdrops_in hs1) (wp_ladd dX9_digest_41 (w_lstore1 dX9_digest_42 rfl (by decide) (wp_ldc2 dX9_digest_43 kc_RX9_248 (w_lload1 dX9_digest_46 (wp_lmul dX9_digest_47 (w_aload0 dX9_digest_48 ?_))))))
      apply v_i0 (M := mX9_digest) dX9_digest_49 lk_RX9_256 mvX9_solvable (by decide) meX9_digest is_1 (Nat.le_of_ble_eq_true rfl)
      · exact t_X9_solvable W37
      intro x49 h49 hP49
      obtain ⟨er49, W49, X49⟩ := hP49
      subst er49
      replace W49 : zWd p c hs tx L h49 := W49
      refine wp_i2l dX9_digest_52 (zsolv_in hs1) (wp_ladd dX9_digest_53 (w_lstore1 dX9_digest_54 rfl (by decide) (wp_ldc2 dX9_digest_55 kc_RX9_248 (w_lload1 dX9_digest_58 (wp_lmul dX9_digest_59 (w_aload0 dX9_digest_60 ?_))))))
      apply v_i0 (M := mX9_digest) dX9_digest_61 lk_RX9_259 mvX9_size (by decide) meX9_digest is_1 (Nat.le_of_ble_eq_true rfl)
      · exact t_X9_size W49
      intro x61 h61 hP61
      obtain ⟨er61, W61, X61⟩ := hP61
      subst er61
      rw [sp_size_2] at W61
      replace W61 : zWd p c hs tx L h61 := W61
      refine wp_i2l dX9_digest_64 zsize_in (wp_ladd dX9_digest_65 (w_lstore1 dX9_digest_66 rfl (by decide) (w_aload0 dX9_digest_67 ?_)))
      apply v_i0 (M := mX9_digest) dX9_digest_68 lk_RX9_159 mvX9_noMatrix (by decide) meX9_digest is_1 (Nat.le_of_ble_eq_true rfl)
      · exact t_X9_noMatrix W61
      intro x68 h68 hP68
      obtain ⟨Xn, Wn, r73, Dn, bn, iN⟩ := hP68
      have hXn := zFX_t (zFX_t (zFX_t (zFX_t hX X37) X49) X61) Xn
      refine wp_if_eq 76 dX9_digest_71 rfl ⟨by omega, by omega⟩ (fun c71 => ?_) (fun c71 => ?_)
      · skip
        refine wp_ldc2 dX9_digest_76 kc_RX9_248 (w_lload1 dX9_digest_79 (wp_lmul dX9_digest_80 (w_aload0 dX9_digest_81 ?_)))
        apply v_i0 (M := mX9_digest) dX9_digest_82 lk_RX9_262 mvX9_rank (by decide) meX9_digest is_1 (Nat.le_of_ble_eq_true rfl)
        · exact t_X9_rank Wn
        intro x82 h82 hP82
        obtain ⟨er82, W82, X82⟩ := hP82
        subst er82
        rw [show (sp_rank (p, c, hs, tx, L)).2 = (p, c, hs, tx, L) from sp_m_2] at W82
        replace W82 : zWd p c hs tx L h82 := W82
        refine wp_i2l dX9_digest_85 zrank_in (wp_ladd dX9_digest_86 (w_lstore1 dX9_digest_87 rfl (by decide) (wp_ldc2 dX9_digest_88 kc_RX9_248 (w_lload1 dX9_digest_91 (wp_lmul dX9_digest_92 (w_aload0 dX9_digest_93 ?_))))))
        apply v_i0 (M := mX9_digest) dX9_digest_94 lk_RX9_265 mvX9_pivotPoint (by decide) meX9_digest is_1 (Nat.le_of_ble_eq_true rfl)
        · exact t_X9_pivotPoint W82
        intro x94 h94 hP94
        obtain ⟨er94, W94, X94⟩ := hP94
        subst er94
        rw [show (sp_pivotPoint (p, c, hs, tx, L)).2 = (p, c, hs, tx, L) from sp_m_2] at W94
        replace W94 : zWd p c hs tx L h94 := W94
        refine wp_i2l dX9_digest_97 (zpivot_in hs1) (wp_ladd dX9_digest_98 (w_lstore1 dX9_digest_99 rfl (by decide) (wp_ldc2 dX9_digest_100 kc_RX9_248 (w_lload1 dX9_digest_103 (wp_lmul dX9_digest_104 (w_aload0 dX9_digest_105 (wp_iconst dX9_digest_106 ?_)))))))
        apply v_i1 (M := mX9_digest) dX9_digest_107 lk_RX9_268 mvX9_selected (by decide) meX9_digest is_1 (Nat.le_of_ble_eq_true rfl)
        · exact t_X9_selected W94 (Or.inr rfl)
        intro x107 h107 hP107
        obtain ⟨er107, W107, X107⟩ := hP107
        subst er107
        rw [show (sp_selected (p, c, hs, tx, L) 1).2 = (p, c, hs, tx, L) from sp_m_2] at W107
        replace W107 : zWd p c hs tx L h107 := W107
        refine wp_i2l dX9_digest_110 zsel_in (wp_ladd dX9_digest_111 (w_lstore1 dX9_digest_112 rfl (by decide) (wp_ldc2 dX9_digest_113 kc_RX9_248 (w_lload1 dX9_digest_116 (wp_lmul dX9_digest_117 (w_aload0 dX9_digest_118 (wp_iconst dX9_digest_119 ?_)))))))
        apply v_i1 (M := mX9_digest) dX9_digest_120 lk_RX9_268 mvX9_selected (by decide) meX9_digest is_1 (Nat.le_of_ble_eq_true rfl)
        · exact t_X9_selected W107 (Or.inl rfl)
        intro x120 h120 hP120
        obtain ⟨er120, W120, X120⟩ := hP120
        subst er120
        rw [show (sp_selected (p, c, hs, tx, L) 0).2 = (p, c, hs, tx, L) from sp_m_2] at W120
        replace W120 : zWd p c hs tx L h120 := W120
        refine wp_i2l dX9_digest_123 zsel_in (wp_ladd dX9_digest_124 (w_lstore1 dX9_digest_125 rfl (by decide) (wp_ldc2 dX9_digest_126 kc_RX9_248 (w_lload1 dX9_digest_129 (wp_lmul dX9_digest_130 (w_aload0 dX9_digest_131 ?_))))))
        apply v_i0 (M := mX9_digest) dX9_digest_132 lk_RX9_272 mvX9_rankDrops (by decide) meX9_digest is_1 (Nat.le_of_ble_eq_true rfl)
        · exact t_X9_rankDrops W120
        intro x132 h132 hP132
        obtain ⟨er132, W132, X132⟩ := hP132
        subst er132
        rw [show (sp_rankDrops (p, c, hs, tx, L)).2 = (p, c, hs, tx, L) from sp_m_2] at W132
        replace W132 : zWd p c hs tx L h132 := W132
        refine wp_i2l dX9_digest_135 (zrdr_in hs1) (wp_ladd dX9_digest_136 (w_lstore1 dX9_digest_137 rfl (by decide) (wp_ldc2 dX9_digest_138 kc_RX9_248 (w_lload1 dX9_digest_141 (wp_lmul dX9_digest_142 (w_aload0 dX9_digest_143 ?_))))))
        apply v_i0 (M := mX9_digest) dX9_digest_144 lk_RX9_275 mvX9_condition (by decide) meX9_digest is_1 (Nat.le_of_ble_eq_true rfl)
        · exact t_X9_condition W132
        intro x144 h144 hP144
        obtain ⟨er144, W144, X144⟩ := hP144
        subst er144
        rw [show (sp_condition (p, c, hs, tx, L)).2 = (p, c, hs, tx, L) from sp_m_2] at W144
        replace W144 : zWd p c hs tx L h144 := W144
        refine wp_i2l dX9_digest_147 zcond_in (wp_ladd dX9_digest_148 (w_lstore1 dX9_digest_149 rfl (by decide) (wp_ldc2 dX9_digest_150 kc_RX9_248 (w_lload1 dX9_digest_153 (wp_lmul dX9_digest_154 (w_aload0 dX9_digest_155 ?_))))))
        apply v_i0 (M := mX9_digest) dX9_digest_156 lk_RX9_278 mvX9_extraneous (by decide) meX9_digest is_1 (Nat.le_of_ble_eq_true rfl)
        · exact t_X9_extraneous W144
        intro x156 h156 hP156
        obtain ⟨er156, W156, X156⟩ := hP156
        subst er156
        rw [show (sp_extraneous (p, c, hs, tx, L)).2 = (p, c, hs, tx, L) from sp_m_2] at W156
        replace W156 : zWd p c hs tx L h156 := W156
        refine wp_i2l dX9_digest_159 (zextr_in hs1) (wp_ladd dX9_digest_160 (w_lstore1 dX9_digest_161 rfl (by decide) (wp_ldc2 dX9_digest_162 kc_RX9_248 (w_lload1 dX9_digest_165 (wp_lmul dX9_digest_166 (w_aload0 dX9_digest_167 (wp_iconst dX9_digest_168 ?_)))))))
        apply v_i1 (M := mX9_digest) dX9_digest_169 lk_RX9_281 mvX9_eliminantDegree (by decide) meX9_digest is_1 (Nat.le_of_ble_eq_true rfl)
        · exact t_X9_eliminantDegree W156 (Or.inl rfl)
        intro x169 h169 hP169
        obtain ⟨er169, W169, X169⟩ := hP169
        subst er169
        rw [show (sp_eliminantDegree (p, c, hs, tx, L) 0).2 = (p, c, hs, tx, L) from sp_m_2] at W169
        replace W169 : zWd p c hs tx L h169 := W169
        refine wp_i2l dX9_digest_172 zedeg_in (wp_ladd dX9_digest_173 (w_lstore1 dX9_digest_174 rfl (by decide) (wp_iconst dX9_digest_175 (w_istore3 dX9_digest_176 rfl (by decide) ?_))))
        refine L177 _ 0 _ _ _ rfl (Nat.zero_le _) rfl W169 (zFX_t (zFX_t (zFX_t (zFX_t (zFX_t (zFX_t (zFX_t (zFX_t hXn X82) X94) X107) X120) X132) X144) X156) X169) ?_ (by omega)
        rw [hx, show i = 7 by omega]
        rfl
      · skip
        refine w_lload1 dX9_digest_74 ?_
        refine r_l dX9_digest_75 rfl meX9_digest ?_
        refine zPX_q Wn hXn (zif_y (by first | omega | (dsimp only; omega))) ?_
        rw [hx, show i = 7 by omega]
        rfl
    · skip
      refine wp_ldc2 dX9_digest_12 kc_RX9_248 (w_lload1 dX9_digest_15 (wp_lmul dX9_digest_16 (w_aload0 dX9_digest_17 (w_iload3 dX9_digest_18 ?_))))
      apply v_i1 (M := mX9_digest) dX9_digest_19 lk_RX9_250 mvX9_count (by decide) meX9_digest is_1 (Nat.le_of_ble_eq_true rfl)
      · exact t_X9_count hW hzi
      intro x19 h19 hP19
      obtain ⟨er19, W19, X19⟩ := hP19
      subst er19
      replace W19 : zWd p c hs tx L h19 := W19
      refine wp_i2l dX9_digest_22 (zcount_in hW vi) (wp_ladd dX9_digest_23 (w_lstore1 dX9_digest_24 rfl (by decide) (w_iinc3 dX9_digest_25 rfl (by decide) (wp_goto 6 dX9_digest_28 rfl ?_))))
      refine ih6 _ (by omega) (i + 1) _ _ _ rfl (by omega) (by omega) W19 (zFX_t hX X19) ?_
      rw [hx, hvi]
      rfl
  refine wp_ldc2 dX9_digest_0 kc_RX9_246 (w_lstore1 dX9_digest_3 rfl (by decide) (wp_iconst dX9_digest_4 (w_istore3 dX9_digest_5 rfl (by decide) ?_)))
  exact L6 _ 0 _ _ _ rfl (Nat.zero_le _) rfl H zFX_r rfl
