
theorem z_is83 {q : Nat} (h : q < 8) : zIs zN (83 + q) (10, 16) := by
  have w : ∀ q, q < 8 → zSH (83 + q) = (10, 16) ∧ 0 < 83 + q ∧ 83 + q ≤ zN := by decide +kernel
  exact w q h
/-- the vector v lessened by the first b rows of a basis B with its leads L -/
def zrd (p : Int) (B : Nat → Nat → Int) (L : Nat → Nat) : Nat → (Nat → Int) → Nat → Int
  | 0, v => v
  | b + 1, v => fun q => if zrd p B L b v (L b) = 0 then zrd p B L b v q else (B b (L b) * zrd p B L b v q - zrd p B L b v (L b) * B b q) % p
/-- the first place from k where v is not 0, within n -/
def zld (v : Nat → Int) : Nat → Nat → Nat
  | 0, k => k
  | n + 1, k => if v k ≠ 0 then k else zld v n (k + 1)
theorem zld_le (v : Nat → Int) : ∀ n k, zld v n k ≤ k + n := by
  intro n
  induction n with
  | zero => intro k; exact Nat.le_refl _
  | succ n ih =>
    intro k
    show (if v k ≠ 0 then k else zld v n (k + 1)) ≤ _
    split
    · omega
    · have := ih (k + 1); omega
theorem zld_congr {v w : Nat → Int} : ∀ n k, (∀ j, k ≤ j → j < k + n → v j = w j) → zld v n k = zld w n k := by
  intro n
  induction n with
  | zero => intro k _; rfl
  | succ n ih =>
    intro k h
    show (if v k ≠ 0 then k else zld v n (k + 1)) = (if w k ≠ 0 then k else zld w n (k + 1))
    rw [h k (Nat.le_refl _) (by omega), ih (k + 1) (fun j h1 h2 => h j (by omega) (by omega))]
theorem zrd_in {p : Int} (hp : 0 < p) {B : Nat → Nat → Int} {L : Nat → Nat} {v : Nat → Int} {q : Nat} (hv : 0 ≤ v q ∧ v q < p) : ∀ b, 0 ≤ zrd p B L b v q ∧ zrd p B L b v q < p := by
  intro b
  induction b with
  | zero => exact hv
  | succ b ih =>
    show 0 ≤ (if zrd p B L b v (L b) = 0 then zrd p B L b v q else _) ∧ (if zrd p B L b v (L b) = 0 then zrd p B L b v q else _) < p
    split
    · exact ih
    · exact z_mod hp _
theorem zrd_y {p : Int} {B : Nat → Nat → Int} {L : Nat → Nat} {v : Nat → Int} {b : Nat} (h : zrd p B L b v (L b) = 0) : zrd p B L (b + 1) v = zrd p B L b v := funext fun q => if_pos h
theorem zrd_n {p : Int} {B : Nat → Nat → Int} {L : Nat → Nat} {v : Nat → Int} {b : Nat} (h : zrd p B L b v (L b) ≠ 0) {q : Nat} : zrd p B L (b + 1) v q = (B b (L b) * zrd p B L b v q - zrd p B L b v (L b) * B b q) % p := if_neg h
/-- the span: how many rows, the rows, their leads -/
def zSp (p : Int) (f : Nat) (B : Nat → Nat → Int) (L : Nat → Nat) (h : zH) : Prop := h 79 0 = (f : Int) ∧ h 79 5 = p ∧ ∀ b, b < f → h 91 b = (L b : Int) ∧ L b < 8 ∧ ∀ q, q < 16 → h (83 + b) q = B b q ∧ 0 ≤ B b q ∧ B b q < p
def zFSp (a j : Nat) : Prop := (80 ≤ a ∧ a < 92 ∧ a ≠ 82) ∨ (a = 79 ∧ j = 0)
def zupN (f : Nat → Nat) (n v : Nat) : Nat → Nat := fun b => if b = n then v else f b
def zupB (f : Nat → Nat → Int) (n : Nat) (v : Nat → Int) : Nat → Nat → Int := fun b => if b = n then v else f b

set_option maxRecDepth 100000 in
set_option maxHeartbeats 4000000 in
theorem t_X7_begin {h : zH} {p : Int} : CV yX7_begin mX7_begin [vR 79, vI p] h (fun h' => h' = zfl (zup (zup h 79 0 0) 79 5 p) 81 8 (fun _ => 0)) := by
  refine inV [some (vR 79), some (vI p)] mvX7_begin rfl (Nat.le_of_ble_eq_true rfl) rfl ?_
  refine w_aload0 dX7_begin_0 (wp_iconst dX7_begin_1 (wp_puti dX7_begin_2 fl_RX7_26 is_79 rfl (w_aload0 dX7_begin_5 (w_iload1 dX7_begin_6 (wp_puti dX7_begin_7 fl_RX7_30 is_79 rfl (w_aload0 dX7_begin_10 (wp_getr 81 dX7_begin_11 fl_RX7_15 is_79 rfl (wp_iconst dX7_begin_14 ?_))))))))
  apply s_v2 (M := mX7_begin) dX7_begin_15 lk_RX7_33 mvJ7_fill_53178 (by decide) meX7_begin (Nat.le_of_ble_eq_true rfl)
  · exact t_J7_fill_53178 is_81
  intro h15 hP15
  replace hP15 := hP15.symm
  subst hP15
  refine r_v dX7_begin_18 rfl meX7_begin ?_
  rfl
set_option maxRecDepth 100000 in
set_option maxHeartbeats 4000000 in
theorem t_X7_leadOf {h : zH} (hb : ∀ e, e < 8 → zin (h 80 e)) : CI yX7_leadOf mX7_leadOf [vR 79] h (fun r h' => h' = h ∧ r = if zld (h 80) 8 0 < 8 then (zld (h 80) 8 0 : Int) else -1) := by
  refine inV [some (vR 79), none] mvX7_leadOf rfl (Nat.le_of_ble_eq_true rfl) rfl ?_
  have L2 : ∀ (zm2 : Nat) (i : Nat) (vi : Int), 8 - i = zm2 → (i ≤ 8) → (vi = (i : Int)) → (zld (h 80) 8 0 = zld (h 80) (8 - i) i) → WP mX7_leadOf (zMQ mX7_leadOf (zKI (fun r h' => h' = h ∧ r = if zld (h 80) 8 0 < 8 then (zld (h 80) 8 0 : Int) else -1))) 2 [some (vR 79), some (vI vi)] [] zN zGR h := by
    intro zm2
    induction zm2 using Nat.strongRecOn with | _ zm2 ih2 => ?_
    intro i vi hzm2 hi hvi hz
    subst hzm2
    refine w_iload1 dX7_leadOf_2 (wp_bipush dX7_leadOf_3 (by decide) ?_)
    refine wp_icmp_ge 25 dX7_leadOf_5 rfl ⟨by omega, by omega⟩ ⟨by omega, by omega⟩ (fun c5 => ?_) (fun c5 => ?_)
    · skip
      refine wp_iconst dX7_leadOf_25 ?_
      refine r_i dX7_leadOf_26 rfl meX7_leadOf ?_
      refine ⟨rfl, ?_⟩
      rw [hz, show i = 8 by omega, if_neg (by show ¬ (8 < 8); omega)]
    · skip
      refine w_aload0 dX7_leadOf_8 (wp_getr 80 dX7_leadOf_9 fl_RX7_9 is_79 rfl (w_iload1 dX7_leadOf_12 (x_iald i dX7_leadOf_13 is_80 hvi (by omega) ?_)))
      have hbi := hb i (by omega)
      refine wp_if_eq 19 dX7_leadOf_14 rfl hbi (fun c14 => ?_) (fun c14 => ?_)
      · skip
        refine w_iinc1 dX7_leadOf_19 rfl (by decide) (wp_goto 2 dX7_leadOf_22 rfl ?_)
        refine ih2 _ (by omega) (i + 1) _ rfl (by omega) (by omega) ?_
        rw [hz, show 8 - i = 8 - (i + 1) + 1 by omega]
        show (if h 80 i ≠ 0 then i else _) = _
        rw [if_neg (by omega)]
      · skip
        refine w_iload1 dX7_leadOf_17 ?_
        refine r_i dX7_leadOf_18 rfl meX7_leadOf ?_
        refine ⟨rfl, ?_⟩
        have e : zld (h 80) 8 0 = i := by
          rw [hz, show 8 - i = 8 - (i + 1) + 1 by omega]
          show (if h 80 i ≠ 0 then i else _) = _
          rw [if_pos c14]
        rw [e, if_pos (by omega)]
        exact hvi
  refine wp_iconst dX7_leadOf_0 (w_istore1 dX7_leadOf_1 rfl (by decide) ?_)
  exact L2 _ 0 0 rfl (Nat.zero_le _) rfl rfl
set_option maxRecDepth 100000 in
set_option maxHeartbeats 4000000 in
theorem t_X7_take {h : zH} {p : Int} (hp : 0 < p ∧ p ≤ 31) {f : Nat} (hf : f < 8) {B : Nat → Nat → Int} {L : Nat → Nat} (H : zSp p f B L h) (hv : ∀ q, q < 16 → 0 ≤ h 80 q ∧ h 80 q < p) : CI yX7_take mX7_take [vR 79] h (fun r h' => zFr zFSp h h' ∧ (zld (zrd p B L f (h 80)) 8 0 < 8 → r = 1 ∧ zSp p (f + 1) (zupB B f (zrd p B L f (h 80))) (zupN L f (zld (zrd p B L f (h 80)) 8 0)) h' ∧ ∀ j, h' 81 j = h 81 j) ∧ (8 ≤ zld (zrd p B L f (h 80)) 8 0 → r = 0 ∧ zSp p f B L h' ∧ ∀ j, j < 8 → h' 81 j = zrd p B L f (h 80) (8 + j))) := by
  refine inV [some (vR 79), none, none, none, none, none, none] mvX7_take rfl (Nat.le_of_ble_eq_true rfl) rfl ?_
  obtain ⟨H1, H2, H3⟩ := H
  have L2 : ∀ (zm2 : Nat) (b : Nat) (h' : zH) (vb : Int), f - b = zm2 → (b ≤ f) → (vb = (b : Int)) → (h' = zfl h 80 16 (zrd p B L b (h 80))) → WP mX7_take (zMQ mX7_take (zKI (fun r h' => zFr zFSp h h' ∧ (zld (zrd p B L f (h 80)) 8 0 < 8 → r = 1 ∧ zSp p (f + 1) (zupB B f (zrd p B L f (h 80))) (zupN L f (zld (zrd p B L f (h 80)) 8 0)) h' ∧ ∀ j, h' 81 j = h 81 j) ∧ (8 ≤ zld (zrd p B L f (h 80)) 8 0 → r = 0 ∧ zSp p f B L h' ∧ ∀ j, j < 8 → h' 81 j = zrd p B L f (h 80) (8 + j))))) 2 [some (vR 79), some (vI vb), none, none, none, none, none] [] zN zGR h' := by
    intro zm2
    induction zm2 using Nat.strongRecOn with | _ zm2 ih2 => ?_
    intro b h' vb hzm2 hb hvb hh
    subst hzm2
    have k1 : h' 79 0 = (f : Int) := by rw [hh, zfl_o (by omega)]; exact H1
    have L55 : ∀ (zm55 : Nat) (q : Nat) (h2 : zH) (vq : Int), 16 - q = zm55 → (b < f) → (q ≤ 16) → (vq = (q : Int)) → (h2 = zfl h 80 16 (fun j => if j < q then zrd p B L (b + 1) (h 80) j else zrd p B L b (h 80) j)) → WP mX7_take (zMQ mX7_take (zKI (fun r h' => zFr zFSp h h' ∧ (zld (zrd p B L f (h 80)) 8 0 < 8 → r = 1 ∧ zSp p (f + 1) (zupB B f (zrd p B L f (h 80))) (zupN L f (zld (zrd p B L f (h 80)) 8 0)) h' ∧ ∀ j, h' 81 j = h 81 j) ∧ (8 ≤ zld (zrd p B L f (h 80)) 8 0 → r = 0 ∧ zSp p f B L h' ∧ ∀ j, j < 8 → h' 81 j = zrd p B L f (h 80) (8 + j))))) 55 [some (vR 79), some (vI vb), some (vR (83 + b)), none, some (vI (zrd p B L b (h 80) (L b))), some (vI (B b (L b))), some (vI vq)] [] zN zGR h2 := by
      intro zm55
      induction zm55 using Nat.strongRecOn with | _ zm55 ih55 => ?_
      intro q h2 vq hzm55 hbf hq hvq hh2
      subst hzm55
      obtain ⟨g1, g2, g3⟩ := H3 b hbf
      have hzl := zrd_in (B := B) (L := L) hp.1 (hv (L b) (by omega)) b
      have k2 : h2 79 5 = p := by rw [hh2, zfl_o (by omega)]; exact H2
      refine w_iload4 dX7_take_55 ?_
      refine wp_if_eq 115 dX7_take_57 rfl ⟨by omega, by omega⟩ (fun c57 => ?_) (fun c57 => ?_)
      · skip
        refine w_iinc1 dX7_take_115 rfl (by decide) (wp_goto 2 dX7_take_118 rfl ?_)
        refine w_forget2 ?_
        refine w_forget4 ?_
        refine w_forget5 ?_
        refine w_forget6 ?_
        refine ih2 _ (by omega) (b + 1) _ _ rfl (by omega) (by omega) ?_
        rw [hh2]
        refine zfl_congr (fun j hj => ?_)
        by_cases w : zrd p B L b (h 80) (L b) = 0
        · rw [zrd_y w, ite_self]
        · rw [if_pos (by omega)]
      · skip
        refine w_iload6 dX7_take_60 (w_aload0 dX7_take_62 (wp_getr 80 dX7_take_63 fl_RX7_9 is_79 rfl (wp_alen dX7_take_66 is_80 (by decide) ?_)))
        refine wp_icmp_ge 115 dX7_take_67 rfl ⟨by omega, by omega⟩ ⟨by omega, by omega⟩ (fun c67 => ?_) (fun c67 => ?_)
        · skip
          refine w_iinc1 dX7_take_115 rfl (by decide) (wp_goto 2 dX7_take_118 rfl ?_)
          refine w_forget2 ?_
          refine w_forget4 ?_
          refine w_forget5 ?_
          refine w_forget6 ?_
          refine ih2 _ (by omega) (b + 1) _ _ rfl (by omega) (by omega) ?_
          rw [hh2]
          refine zfl_congr (fun j hj => ?_)
          by_cases w : zrd p B L b (h 80) (L b) = 0
          · rw [zrd_y w, ite_self]
          · rw [if_pos (by omega)]
        · skip
          refine w_iload6 dX7_take_70 (w_aload2 dX7_take_72 (wp_alen dX7_take_73 (z_is83 (by omega)) (by decide) ?_))
          refine wp_icmp_ge 115 dX7_take_74 rfl ⟨by omega, by omega⟩ ⟨by omega, by omega⟩ (fun c74 => absurd c74 (by omega)) (fun c74 => ?_)
          refine w_aload0 dX7_take_77 (wp_getr 80 dX7_take_78 fl_RX7_9 is_79 rfl (w_iload6 dX7_take_81 (w_iload5 dX7_take_83 (w_aload0 dX7_take_85 (wp_getr 80 dX7_take_86 fl_RX7_9 is_79 rfl (w_iload6 dX7_take_89 (x_iald q dX7_take_91 is_80 hvq (by omega) ?_)))))))
          have e2 : h2 80 q = zrd p B L b (h 80) q := by rw [hh2, zfl_i (by omega), if_neg (by omega)]
          rw [e2]
          have w1 := z_mb (g3 (L b) (by omega)).2 (zrd_in (B := B) (L := L) hp.1 (hv q (by omega)) b) hp.2
          refine wp_imul dX7_take_92 (w_iload4 dX7_take_93 (w_aload2 dX7_take_95 (w_iload6 dX7_take_96 (x_iald q dX7_take_98 (z_is83 (by omega)) hvq (by omega) ?_))))
          have e3 : h2 (83 + b) q = B b q := by rw [hh2, zfl_o (by omega)]; exact (g3 _ (by omega)).1
          rw [e3]
          have w2 := z_mb hzl (g3 q (by omega)).2 hp.2
          refine wp_imul dX7_take_99 (wp_isub dX7_take_100 (w_aload0 dX7_take_101 (wp_geti dX7_take_102 fl_RX7_30 is_79 ?_)))
          rw [k2]
          apply s_i2 (M := mX7_take) dX7_take_105 lk_RX7_48 mvX3_residue (by decide) meX7_take (Nat.le_of_ble_eq_true rfl)
          · exact t_X3_residue ⟨by omega, by omega⟩ (by omega)
          intro x105 h105 hP105
          obtain ⟨eh105, ex105⟩ := hP105
          replace eh105 := eh105.symm
          subst eh105
          replace ex105 := ex105.symm
          subst ex105
          refine x_iast q dX7_take_108 is_80 hvq (by omega) (w_iinc6 dX7_take_109 rfl (by decide) (wp_goto 55 dX7_take_112 rfl ?_))
          refine ih55 _ (by omega) (q + 1) _ _ rfl hbf (by omega) (by omega) ?_
          rw [hh2]
          funext b' j
          unfold zup zfl
          try dsimp only
          by_cases e : b' = 80 ∧ j = q
          · rw [if_pos e, if_pos ⟨e.1, by omega⟩, if_pos (by omega), e.2, zrd_n (by omega)]
          · rw [if_neg e]
            by_cases e4 : b' = 80 ∧ j < 16
            · rw [if_pos e4, if_pos e4]
              by_cases e5 : j < q
              · rw [if_pos e5, if_pos (by omega)]
              · rw [if_neg e5, if_neg (by omega)]
            · rw [if_neg e4, if_neg e4]
    refine w_iload1 dX7_take_2 (w_aload0 dX7_take_3 (wp_geti dX7_take_4 fl_RX7_26 is_79 ?_))
    refine wp_icmp_ge 121 dX7_take_7 rfl ⟨by omega, by omega⟩ ⟨by omega, by omega⟩ (fun c7 => ?_) (fun c7 => ?_)
    · skip
      refine w_aload0 dX7_take_121 ?_
      have hW : ∀ q, q < 16 → h' 80 q = zrd p B L f (h 80) q := fun q hq => by rw [hh, zfl_i hq, show b = f by omega]
      have hWb : ∀ q, q < 16 → 0 ≤ zrd p B L f (h 80) q ∧ zrd p B L f (h 80) q < p := fun q hq => zrd_in hp.1 (hv q hq) f
      have hlc : zld (h' 80) 8 0 = zld (zrd p B L f (h 80)) 8 0 := zld_congr 8 0 (fun j _ hj => hW j (by omega))
      have hl8 := zld_le (zrd p B L f (h 80)) 8 0
      have hho : ∀ a j, a ≠ 80 → h' a j = h a j := fun a j ha => by rw [hh, zfl_o (by omega)]
      apply v_i0 (M := mX7_take) dX7_take_122 lk_RX7_53 mvX7_leadOf (by decide) meX7_take is_79 (Nat.le_of_ble_eq_true rfl)
      · exact t_X7_leadOf (fun e he => by have w := hWb e (by omega); rw [hW e (by omega)]; exact ⟨by omega, by omega⟩)
      intro x122 h122 hP122
      obtain ⟨eh, ex⟩ := hP122
      rw [eh]
      rw [hlc] at ex
      refine w_istore1 dX7_take_125 rfl (by decide) (w_iload1 dX7_take_126 ?_)
      refine wp_if_lt 146 dX7_take_127 rfl ⟨by omega, by omega⟩ (fun c127 => ?_) (fun c127 => ?_)
      · skip
        refine w_aload0 dX7_take_146 (wp_getr 80 dX7_take_147 fl_RX7_9 is_79 rfl (wp_bipush dX7_take_150 (by decide) (w_aload0 dX7_take_152 (wp_getr 81 dX7_take_153 fl_RX7_15 is_79 rfl (wp_iconst dX7_take_156 (wp_bipush dX7_take_157 (by decide) (wp_copy dX7_take_159 lk_RX7_57 is_81 is_80 ⟨by omega, by omega⟩ ⟨by omega, by omega⟩ (by omega) (by decide) (Nat.le_of_ble_eq_true rfl) (wp_iconst dX7_take_162 ?_))))))))
        refine r_z dX7_take_163 rfl meX7_take (by first | exact Or.inl rfl | exact Or.inr rfl | omega) ?_
        have hl : ¬ zld (zrd p B L f (h 80)) 8 0 < 8 := fun w => by rw [if_pos w] at ex; omega
        refine ⟨fun a j n => ?_, fun w => absurd w hl, fun _ => ⟨rfl, ⟨?_, ?_, fun b' hb' => ?_⟩, fun j hj => ?_⟩⟩
        · unfold zFSp at n
          rw [zcpy_a (by omega)]
          exact hho a j (by omega)
        · rw [zcpy_a (by omega)]
          exact k1
        · rw [zcpy_a (by omega), hho _ _ (by omega)]
          exact H2
        · rw [zcpy_a (by omega), zcpy_a (by omega), hho _ _ (by omega)]
          obtain ⟨g1, g2, g3⟩ := H3 b' hb'
          exact ⟨g1, g2, fun q hq => by rw [hho _ _ (by omega)]; exact g3 q hq⟩
        · unfold zcpy
          rw [if_pos ⟨rfl, Nat.zero_le _, by show j < 0 + 8; omega⟩, show (8 : Int).toNat + (j - (0 : Int).toNat) = 8 + j from by show 8 + (j - 0) = _; omega]
          exact hW _ (by omega)
      · skip
        refine w_aload0 dX7_take_130 (wp_geti dX7_take_131 fl_RX7_26 is_79 ?_)
        refine wp_if_lt 146 dX7_take_134 rfl ⟨by omega, by omega⟩ (fun c134 => absurd c134 (by omega)) (fun c134 => ?_)
        refine w_aload0 dX7_take_137 (wp_geti dX7_take_138 fl_RX7_26 is_79 (wp_bipush dX7_take_141 (by decide) ?_))
        refine wp_icmp_lt 164 dX7_take_143 rfl ⟨by omega, by omega⟩ ⟨by omega, by omega⟩ (fun c143 => ?_) (fun c143 => absurd c143 (by omega))
        refine w_aload0 dX7_take_164 (wp_getr 80 dX7_take_165 fl_RX7_9 is_79 rfl (wp_iconst dX7_take_168 (w_aload0 dX7_take_169 (wp_getr 82 dX7_take_170 fl_RX7_20 is_79 rfl (w_aload0 dX7_take_173 (wp_geti dX7_take_174 fl_RX7_26 is_79 (x_aald f (83 + f) dX7_take_177 is_82 (Or.inl rfl) k1 hf rfl (wp_iconst dX7_take_178 (wp_bipush dX7_take_179 (by decide) ?_)))))))))
        refine wp_copy dX7_take_181 lk_RX7_57 (z_is83 hf) is_80 ⟨by omega, by omega⟩ ⟨by omega, by omega⟩ (by omega) (by decide) (Nat.le_of_ble_eq_true rfl) (w_aload0 dX7_take_184 (wp_getr 91 dX7_take_185 fl_RX7_23 is_79 rfl (w_aload0 dX7_take_188 (wp_geti dX7_take_189 fl_RX7_26 is_79 (w_iload1 dX7_take_192 (x_iast f dX7_take_193 is_91 (by rw [zcpy_a (by omega)]; exact k1) hf (w_aload0 dX7_take_194 (wp_dup dX7_take_195 rfl (wp_geti dX7_take_196 fl_RX7_26 is_79 ?_)))))))))
        have k4 : ∀ v, zup (zcpy h' 80 (0 : Int).toNat (83 + f) (0 : Int).toNat (16 : Int).toNat) 91 f v 79 0 = (f : Int) := fun v => by rw [zup_o (by omega), zcpy_a (by omega)]; exact k1
        rw [k4]
        refine wp_iconst dX7_take_199 (wp_iadd dX7_take_200 (wp_puti dX7_take_201 fl_RX7_26 is_79 rfl (wp_iconst dX7_take_204 ?_)))
        refine r_z dX7_take_205 rfl meX7_take (by first | exact Or.inl rfl | exact Or.inr rfl | omega) ?_
        have hl : zld (zrd p B L f (h 80)) 8 0 < 8 := by
          by_cases w : zld (zrd p B L f (h 80)) 8 0 < 8
          · exact w
          · rw [if_neg w] at ex; omega
        rw [if_pos hl] at ex
        have hrow : ∀ q, q < 16 → zcpy h' 80 (0 : Int).toNat (83 + f) (0 : Int).toNat (16 : Int).toNat (83 + f) q = zrd p B L f (h 80) q := fun q hq => by
          unfold zcpy
          rw [if_pos ⟨rfl, Nat.zero_le _, by show q < 0 + 16; omega⟩, show (0 : Int).toNat + (q - (0 : Int).toNat) = q from by show 0 + (q - 0) = _; omega]
          exact hW q hq
        refine ⟨fun a j n => ?_, fun _ => ⟨rfl, ⟨?_, ?_, fun b' hb' => ?_⟩, fun j => ?_⟩, fun w => by omega⟩
        · unfold zFSp at n
          rw [zup_o (by omega), zup_o (by omega), zcpy_a (by omega)]
          exact hho a j (by omega)
        · rw [zup_s]
          omega
        · rw [zup_o (by omega), zup_o (by omega), zcpy_a (by omega), hho _ _ (by omega)]
          exact H2
        · unfold zupN zupB
          by_cases e : b' = f
          · rw [e, if_pos rfl, if_pos rfl]
            refine ⟨?_, hl, fun q hq => ⟨?_, hWb q hq⟩⟩
            · rw [zup_o (by omega), zup_s]
              exact ex
            · rw [zup_o (by omega), zup_o (by omega)]
              exact hrow q hq
          · rw [if_neg e, if_neg e]
            obtain ⟨g1, g2, g3⟩ := H3 b' (by omega)
            refine ⟨?_, g2, fun q hq => ⟨?_, (g3 q hq).2⟩⟩
            · rw [zup_o (by omega), zup_o (by omega), zcpy_a (by omega), hho _ _ (by omega)]
              exact g1
            · rw [zup_o (by omega), zup_o (by omega), zcpy_a (by omega), hho _ _ (by omega)]
              exact (g3 q hq).1
        · rw [zup_o (by omega), zup_o (by omega), zcpy_a (by omega), hho _ _ (by omega)]
    · skip
      refine w_iload1 dX7_take_10 (wp_bipush dX7_take_11 (by decide) ?_)
      refine wp_icmp_ge 121 dX7_take_13 rfl ⟨by omega, by omega⟩ ⟨by omega, by omega⟩ (fun c13 => absurd c13 (by omega)) (fun c13 => ?_)
      have hbf : b < f := by omega
      obtain ⟨g1, g2, g3⟩ := H3 b hbf
      refine w_aload0 dX7_take_16 (wp_getr 82 dX7_take_17 fl_RX7_20 is_79 rfl (w_iload1 dX7_take_20 (x_aald b (83 + b) dX7_take_21 is_82 (Or.inl rfl) hvb (by omega) rfl (w_astore2 dX7_take_22 rfl (by decide) (w_aload0 dX7_take_23 (wp_getr 91 dX7_take_24 fl_RX7_23 is_79 rfl (w_iload1 dX7_take_27 (x_iald b dX7_take_28 is_91 hvb (by omega) ?_))))))))
      have e1 : h' 91 b = (L b : Int) := by rw [hh, zfl_o (by omega)]; exact g1
      rw [e1]
      refine wp_iconst dX7_take_29 (x_mmax dX7_take_30 lk_RX7_39 ⟨by omega, by omega⟩ ⟨by omega, by omega⟩ (by decide) (Nat.le_of_ble_eq_true rfl) meX7_take (wp_bipush dX7_take_33 (by decide) (x_mmin dX7_take_35 lk_RX7_45 ⟨by omega, by omega⟩ ⟨by omega, by omega⟩ (by decide) (Nat.le_of_ble_eq_true rfl) meX7_take (w_istore3 dX7_take_38 rfl (by decide) (w_aload0 dX7_take_39 (wp_getr 80 dX7_take_40 fl_RX7_9 is_79 rfl (w_iload3 dX7_take_43 (x_iald (L b) dX7_take_44 is_80 (by omega) (by omega) ?_))))))))
      have e2 : h' 80 (L b) = zrd p B L b (h 80) (L b) := by rw [hh, zfl_i (by omega)]
      rw [e2]
      refine w_istore4 dX7_take_45 rfl (by decide) (w_aload2 dX7_take_47 (w_iload3 dX7_take_48 (x_iald (L b) dX7_take_49 (z_is83 (by omega)) (by omega) (by omega) ?_)))
      have e3 : h' (83 + b) (L b) = B b (L b) := by rw [hh, zfl_o (by omega)]; exact (g3 _ (by omega)).1
      rw [e3]
      refine w_istore5 dX7_take_50 rfl (by decide) (wp_iconst dX7_take_52 (w_istore6 dX7_take_53 rfl (by decide) ?_))
      refine w_forget3 ?_
      refine L55 _ 0 h' 0 rfl hbf (Nat.zero_le _) rfl ?_
      rw [hh]
      rfl
  refine wp_iconst dX7_take_0 (w_istore1 dX7_take_1 rfl (by decide) ?_)
  exact L2 _ 0 h 0 rfl (Nat.zero_le _) rfl (zfl_id (fun j hj => rfl)).symm
set_option maxRecDepth 100000 in
set_option maxHeartbeats 4000000 in
theorem t_X7_ratio {h : zH} {p : Int} (hp : 0 < p ∧ p ≤ 31) (hp0 : h 79 5 = p) {nn : Int} {n : Nat} (hn : nn = n) (hn8 : n < 8) (hr : ∀ j, j < 8 → 0 ≤ h 81 j ∧ h 81 j < p) : CI yX7_ratio mX7_ratio [vR 79, vI nn] h (fun r h' => h' = h ∧ r = if h 81 0 = 0 then -9 else (h 81 n * zinv (h 81 0) p) % p) := by
  refine inV [some (vR 79), some (vI nn)] mvX7_ratio rfl (Nat.le_of_ble_eq_true rfl) rfl ?_
  refine w_iload1 dX7_ratio_0 ?_
  refine wp_if_lt 22 dX7_ratio_1 rfl ⟨by omega, by omega⟩ (fun c1 => absurd c1 (by omega)) (fun c1 => ?_)
  refine w_iload1 dX7_ratio_4 (w_aload0 dX7_ratio_5 (wp_getr 81 dX7_ratio_6 fl_RX7_15 is_79 rfl (wp_alen dX7_ratio_9 is_81 (by decide) ?_)))
  refine wp_icmp_ge 22 dX7_ratio_10 rfl ⟨by omega, by omega⟩ ⟨by omega, by omega⟩ (fun c10 => absurd c10 (by omega)) (fun c10 => ?_)
  refine w_aload0 dX7_ratio_13 (wp_getr 81 dX7_ratio_14 fl_RX7_15 is_79 rfl (wp_iconst dX7_ratio_17 (x_iald 0 dX7_ratio_18 is_81 rfl (by decide) ?_)))
  have b0 := hr 0 (by omega)
  refine wp_if_ne 25 dX7_ratio_19 rfl ⟨by omega, by omega⟩ (fun c19 => ?_) (fun c19 => ?_)
  · skip
    refine w_aload0 dX7_ratio_25 (wp_getr 81 dX7_ratio_26 fl_RX7_15 is_79 rfl (w_iload1 dX7_ratio_29 (x_iald n dX7_ratio_30 is_81 hn (by omega) (w_aload0 dX7_ratio_31 (wp_getr 81 dX7_ratio_32 fl_RX7_15 is_79 rfl (wp_iconst dX7_ratio_35 (x_iald 0 dX7_ratio_36 is_81 rfl (by decide) (w_aload0 dX7_ratio_37 (wp_geti dX7_ratio_38 fl_RX7_30 is_79 ?_)))))))))
    rw [hp0]
    have b0 := hr 0 (by omega)
    have b1 := hr n hn8
    apply s_i2 (M := mX7_ratio) dX7_ratio_41 lk_RX7_63 mvX3_inverse (by decide) meX7_ratio (Nat.le_of_ble_eq_true rfl)
    · exact t_X3_inverse ⟨by omega, by omega⟩ ⟨by omega, by omega⟩
    intro x41 h41 hP41
    obtain ⟨eh41, ex41⟩ := hP41
    replace eh41 := eh41.symm
    subst eh41
    replace ex41 := ex41.symm
    subst ex41
    have w1 := zinvS_in (h 81 0) p (p.toNat - 1)
    have w2 : 0 ≤ zinv (h 81 0) p ∧ zinv (h 81 0) p < p := ⟨w1.1, by unfold zinv; omega⟩
    have w3 := z_mb b1 w2 hp.2
    refine wp_imul dX7_ratio_44 (w_aload0 dX7_ratio_45 (wp_geti dX7_ratio_46 fl_RX7_30 is_79 ?_))
    rw [hp0]
    apply s_i2 (M := mX7_ratio) dX7_ratio_49 lk_RX7_48 mvX3_residue (by decide) meX7_ratio (Nat.le_of_ble_eq_true rfl)
    · exact t_X3_residue ⟨by omega, by omega⟩ (by omega)
    intro x49 h49 hP49
    obtain ⟨eh49, ex49⟩ := hP49
    replace eh49 := eh49.symm
    subst eh49
    replace ex49 := ex49.symm
    subst ex49
    refine r_i dX7_ratio_52 rfl meX7_ratio ?_
    exact ⟨rfl, by rw [if_neg (by omega)]⟩
  · skip
    refine wp_bipush dX7_ratio_22 (by decide) ?_
    refine r_i dX7_ratio_24 rfl meX7_ratio ?_
    exact ⟨rfl, by rw [if_pos (by omega)]⟩
