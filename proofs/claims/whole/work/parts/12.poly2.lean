
def zsw (h : zH) (x y n : Nat) : zH := fun b j => if j < n ∧ b = x then h y j else if j < n ∧ b = y then h x j else h b j
def zins (q u v w : Nat) : Prop := q / 9 + u ≤ 2 ∧ q / 3 % 3 + v ≤ 2 ∧ q % 3 + w ≤ 2
def zleave (f : Nat → Int) (u v w : Nat) : Prop := ∃ q, q < 27 ∧ f q ≠ 0 ∧ ¬ zins q u v w
def zsh (p cc : Int) (f : Nat → Int) (j : Nat) : Int := if j % 3 = 0 then (f j + cc * (f (j + 1) + cc * f (j + 2))) % p else if j % 3 = 1 then (f j + 2 * cc * f (j + 1)) % p else f j
/-- the drawn numbers: any numbers of their classes mod 2^32 -/
def zlcg (s : Int) : Nat → Int
  | 0 => s
  | n + 1 => zlcg s n * 1103515245 + 12345
def znum (z : Int) : Int := (((z % 4294967296 / 2 ^ (16 : Int).toNat).toNat &&& (32767 : Int).toNat : Nat) : Int)
theorem z_ush (z : Int) : 0 ≤ z % 4294967296 / 2 ^ (16 : Int).toNat ∧ z % 4294967296 / 2 ^ (16 : Int).toNat < 2147483648 := by
  have h : (2 : Int) ^ (16 : Int).toNat = 65536 := by decide
  rw [h]
  omega
theorem znum_in (z : Int) : 0 ≤ znum z ∧ znum z ≤ 32767 := by
  unfold znum
  have h : ((z % 4294967296 / 2 ^ (16 : Int).toNat).toNat &&& (32767 : Int).toNat) ≤ (32767 : Int).toNat := Nat.and_le_right
  have h2 : (32767 : Int).toNat = 32767 := rfl
  omega
def zdok (u v w : Nat) (pl : Nat) : Prop := pl / 9 ≤ u ∧ pl / 3 % 3 ≤ v ∧ pl % 3 ≤ w
noncomputable def zdrw (p : Int) (u v w : Nat) (th z : Int) (pl : Nat) : Int := @ite _ (zdok u v w pl ∧ znum z / p % th = 0) (Classical.propDecidable _) (znum z % p) 0
theorem zdrw_y {p : Int} {u v w : Nat} {th z : Int} {pl : Nat} (h : zdok u v w pl ∧ znum z / p % th = 0) : zdrw p u v w th z pl = znum z % p := if_pos h
theorem zdrw_n {p : Int} {u v w : Nat} {th z : Int} {pl : Nat} (h : ¬ (zdok u v w pl ∧ znum z / p % th = 0)) : zdrw p u v w th z pl = 0 := if_neg h
theorem zdrw_in {p : Int} (hp : 0 < p) (u v w : Nat) (th z : Int) (pl : Nat) : 0 ≤ zdrw p u v w th z pl ∧ zdrw p u v w th z pl < p := by
  by_cases q : zdok u v w pl ∧ znum z / p % th = 0
  · rw [zdrw_y q]
    exact z_mod hp _
  · rw [zdrw_n q]
    exact ⟨Int.le_refl 0, hp⟩

set_option maxRecDepth 100000 in
set_option maxHeartbeats 4000000 in
theorem t_X4_exchange {h : zH} {a : Nat} (ha : zPo a) {kk : Int} {k : Nat} (hk : kk = k) (hk3 : k < 3) {ll : Int} {l : Nat} (hl : ll = l) (hl3 : l < 3) (hf : ∀ q, q < 3 → ∀ j, j < 27 → 0 ≤ h (a + 2 + q) j ∧ h (a + 2 + q) j < 31) : CI yX4_exchange mX4_exchange [vR a, vI kk, vI ll] h (fun r h' => h' = zsw h (a + 2 + k) (a + 2 + l) 27 ∧ (r = 0 ∨ r = 1) ∧ (r = 1 ↔ ∃ j, j < 27 ∧ h (a + 2 + k) j ≠ h (a + 2 + l) j)) := by
  refine inV [some (vR a), some (vI kk), some (vI ll), none, none, none, none, none] mvX4_exchange rfl (Nat.le_of_ble_eq_true rfl) rfl ?_
  have L19 : ∀ (zm19 : Nat) (i : Nat) (h' : zH) (s vi : Int), 27 - i = zm19 → (i ≤ 27) → (vi = (i : Int)) → (h' = zsw h (a + 2 + k) (a + 2 + l) i) → ((s = 0 ∨ s = 1) ∧ (s = 1 ↔ ∃ j, j < i ∧ h (a + 2 + k) j ≠ h (a + 2 + l) j)) → WP mX4_exchange (zMQ mX4_exchange (zKI (fun r h' => h' = zsw h (a + 2 + k) (a + 2 + l) 27 ∧ (r = 0 ∨ r = 1) ∧ (r = 1 ↔ ∃ j, j < 27 ∧ h (a + 2 + k) j ≠ h (a + 2 + l) j)))) 19 [some (vR a), some (vI kk), some (vI ll), some (vR (a + 2 + k)), some (vR (a + 2 + l)), some (vI s), some (vI vi), none] [] zN zGR h' := by
    intro zm19
    induction zm19 using Nat.strongRecOn with | _ zm19 ih19 => ?_
    intro i h' s vi hzm19 hi hvi hh hs
    subst hzm19
    have L60 : ∀ (x : Int), (i < 27) → ((x = 0 ∨ x = 1) ∧ (x = 1 ↔ ∃ j, j < i + 1 ∧ h (a + 2 + k) j ≠ h (a + 2 + l) j)) → WP mX4_exchange (zMQ mX4_exchange (zKI (fun r h' => h' = zsw h (a + 2 + k) (a + 2 + l) 27 ∧ (r = 0 ∨ r = 1) ∧ (r = 1 ↔ ∃ j, j < 27 ∧ h (a + 2 + k) j ≠ h (a + 2 + l) j)))) 60 [some (vR a), some (vI kk), some (vI ll), some (vR (a + 2 + k)), some (vR (a + 2 + l)), some (vI s), some (vI vi), some (vI (h (a + 2 + k) i))] [vI x] zN zGR h' := by
      intro x hi27 hub
      have e1 : h' (a + 2 + l) i = h (a + 2 + l) i := by rw [hh]; unfold zsw; rw [if_neg (by omega), if_neg (by omega)]
      refine w_istore5 dX4_exchange_60 rfl (by decide) (w_aload3 dX4_exchange_62 (w_iload6 dX4_exchange_63 (w_aload4 dX4_exchange_65 (w_iload6 dX4_exchange_67 (x_iald i dX4_exchange_69 (zPo_r ha hl3) hvi (by omega) ?_)))))
      rw [e1]
      refine x_iast i dX4_exchange_70 (zPo_r ha hk3) hvi (by omega) (w_aload4 dX4_exchange_71 (w_iload6 dX4_exchange_73 (w_iload7 dX4_exchange_75 (x_iast i dX4_exchange_77 (zPo_r ha hl3) hvi (by omega) (w_iinc6 dX4_exchange_78 rfl (by decide) (wp_goto 19 dX4_exchange_81 rfl ?_))))))
      refine w_forget7 ?_
      refine ih19 _ (by omega) (i + 1) _ _ _ rfl (by omega) (by omega) ?_ hub
      rw [hh]
      funext b j
      unfold zup zsw
      by_cases e : b = a + 2 + l ∧ j = i
      · obtain ⟨rfl, rfl⟩ := e
        rw [if_pos ⟨rfl, rfl⟩]
        by_cases e2 : a + 2 + l = a + 2 + k
        · rw [if_pos ⟨by omega, e2⟩, e2]
        · rw [if_neg (by omega), if_pos ⟨by omega, rfl⟩]
      · rw [if_neg e]
        by_cases e3 : b = a + 2 + k ∧ j = i
        · obtain ⟨rfl, rfl⟩ := e3
          rw [if_pos ⟨rfl, rfl⟩, if_pos ⟨by omega, rfl⟩]
        · rw [if_neg e3]
          by_cases e4 : j < i ∧ b = a + 2 + k
          · rw [if_pos e4, if_pos (by omega)]
          · rw [if_neg e4]
            by_cases e5 : j < i ∧ b = a + 2 + l
            · rw [if_pos e5, if_neg (by omega), if_pos (by omega)]
            · rw [if_neg e5, if_neg (by omega), if_neg (by omega)]
    refine w_iload6 dX4_exchange_19 (w_aload3 dX4_exchange_21 (wp_alen dX4_exchange_22 (zPo_r ha hk3) (by decide) ?_))
    refine wp_icmp_ge 84 dX4_exchange_23 rfl ⟨by omega, by omega⟩ ⟨by omega, by omega⟩ (fun c23 => ?_) (fun c23 => ?_)
    · skip
      refine w_iload5 dX4_exchange_84 ?_
      refine r_z dX4_exchange_86 rfl meX4_exchange hs.1 ?_
      rw [hh, show i = 27 by omega]
      rw [show i = 27 by omega] at hs
      exact ⟨rfl, hs⟩
    · skip
      refine w_iload6 dX4_exchange_26 (w_aload4 dX4_exchange_28 (wp_alen dX4_exchange_30 (zPo_r ha hl3) (by decide) ?_))
      refine wp_icmp_ge 84 dX4_exchange_31 rfl ⟨by omega, by omega⟩ ⟨by omega, by omega⟩ (fun c31 => ?_) (fun c31 => ?_)
      · skip
        refine w_iload5 dX4_exchange_84 ?_
        refine r_z dX4_exchange_86 rfl meX4_exchange hs.1 ?_
        rw [hh, show i = 27 by omega]
        rw [show i = 27 by omega] at hs
        exact ⟨rfl, hs⟩
      · skip
        refine w_aload3 dX4_exchange_34 (w_iload6 dX4_exchange_35 ?_)
        have e1 : h' (a + 2 + k) i = h (a + 2 + k) i := by rw [hh]; unfold zsw; rw [if_neg (by omega), if_neg (by omega)]
        have e2 : h' (a + 2 + l) i = h (a + 2 + l) i := by rw [hh]; unfold zsw; rw [if_neg (by omega), if_neg (by omega)]
        have b1 := hf k hk3 i (by omega)
        have b2 := hf l hl3 i (by omega)
        refine x_iald i dX4_exchange_37 (zPo_r ha hk3) hvi (by omega) ?_
        rw [e1]
        refine w_istore7 dX4_exchange_38 rfl (by decide) (w_iload5 dX4_exchange_40 ?_)
        refine wp_if_ne 55 dX4_exchange_42 rfl ⟨by omega, by omega⟩ (fun c42 => ?_) (fun c42 => ?_)
        · skip
          refine wp_iconst dX4_exchange_55 (wp_goto 60 dX4_exchange_56 rfl ?_)
          refine L60 _ (by omega) ⟨by first | exact Or.inl rfl | exact Or.inr rfl, ?_⟩
          first
          | (refine ⟨fun _ => ?_, fun _ => rfl⟩
             first
             | exact ⟨i, by omega, c52⟩
             | (obtain ⟨j, q1, q2⟩ := hs.2.mp (by omega)
                exact ⟨j, by omega, q2⟩))
          | (refine ⟨fun q => absurd q (by decide), fun q => ?_⟩
             obtain ⟨j, q1, q2⟩ := q
             by_cases e : j = i
             · subst e
               exact absurd c52 q2
             · have := hs.2.mpr ⟨j, by omega, q2⟩
               omega)
        · skip
          refine w_iload7 dX4_exchange_45 (w_aload4 dX4_exchange_47 (w_iload6 dX4_exchange_49 (x_iald i dX4_exchange_51 (zPo_r ha hl3) hvi (by omega) ?_)))
          rw [e2]
          refine wp_icmp_eq 59 dX4_exchange_52 rfl ⟨by omega, by omega⟩ ⟨by omega, by omega⟩ (fun c52 => ?_) (fun c52 => ?_)
          · skip
            refine wp_iconst dX4_exchange_59 ?_
            refine L60 _ (by omega) ⟨by first | exact Or.inl rfl | exact Or.inr rfl, ?_⟩
            first
            | (refine ⟨fun _ => ?_, fun _ => rfl⟩
               first
               | exact ⟨i, by omega, c52⟩
               | (obtain ⟨j, q1, q2⟩ := hs.2.mp (by omega)
                  exact ⟨j, by omega, q2⟩))
            | (refine ⟨fun q => absurd q (by decide), fun q => ?_⟩
               obtain ⟨j, q1, q2⟩ := q
               by_cases e : j = i
               · subst e
                 exact absurd c52 q2
               · have := hs.2.mpr ⟨j, by omega, q2⟩
                 omega)
          · skip
            refine wp_iconst dX4_exchange_55 (wp_goto 60 dX4_exchange_56 rfl ?_)
            refine L60 _ (by omega) ⟨by first | exact Or.inl rfl | exact Or.inr rfl, ?_⟩
            first
            | (refine ⟨fun _ => ?_, fun _ => rfl⟩
               first
               | exact ⟨i, by omega, c52⟩
               | (obtain ⟨j, q1, q2⟩ := hs.2.mp (by omega)
                  exact ⟨j, by omega, q2⟩))
            | (refine ⟨fun q => absurd q (by decide), fun q => ?_⟩
               obtain ⟨j, q1, q2⟩ := q
               by_cases e : j = i
               · subst e
                 exact absurd c52 q2
               · have := hs.2.mpr ⟨j, by omega, q2⟩
                 omega)
  refine w_aload0 dX4_exchange_0 (w_iload1 dX4_exchange_1 ?_)
  apply v_r1 (M := mX4_exchange) dX4_exchange_2 lk_RX4_20 mvX4_termsOf (by decide) meX4_exchange (zPo_is ha) (Nat.le_of_ble_eq_true rfl)
  · exact t_X4_termsOf ha hk hk3
  intro x2 h2 hP2
  obtain ⟨eh2, ex2⟩ := hP2
  replace eh2 := eh2.symm
  subst eh2
  replace ex2 := ex2.symm
  subst ex2
  refine w_astore3 dX4_exchange_5 rfl (by decide) (w_aload0 dX4_exchange_6 (w_iload2 dX4_exchange_7 ?_))
  apply v_r1 (M := mX4_exchange) dX4_exchange_8 lk_RX4_20 mvX4_termsOf (by decide) meX4_exchange (zPo_is ha) (Nat.le_of_ble_eq_true rfl)
  · exact t_X4_termsOf ha hl hl3
  intro x8 h8 hP8
  obtain ⟨eh8, ex8⟩ := hP8
  replace eh8 := eh8.symm
  subst eh8
  replace ex8 := ex8.symm
  subst ex8
  refine w_astore4 dX4_exchange_11 rfl (by decide) (wp_iconst dX4_exchange_13 (w_istore5 dX4_exchange_14 rfl (by decide) (wp_iconst dX4_exchange_16 (w_istore6 dX4_exchange_17 rfl (by decide) ?_))))
  exact L19 _ 0 h 0 0 rfl (Nat.zero_le _) rfl (by funext b j; unfold zsw; rw [if_neg (by omega), if_neg (by omega)]) ⟨Or.inl rfl, fun q => absurd q (by decide), fun q => (by obtain ⟨j, q1, -⟩ := q; omega)⟩
set_option maxRecDepth 100000 in
set_option maxHeartbeats 4000000 in
theorem t_X4_leavesRange {h : zH} {a : Nat} (ha : zPo a) {kk : Int} {k : Nat} (hk : kk = k) (hk3 : k < 3) {uu vv ww : Int} {u v w : Nat} (hu : uu = u) (hv : vv = v) (hw : ww = w) (hu3 : u < 3) (hv3 : v < 3) (hw3 : w < 3) {f : Nat → Int} (hf : ∀ j, j < 27 → h (a + 2 + k) j = f j ∧ 0 ≤ f j ∧ f j < 31) : CI yX4_leavesRange mX4_leavesRange [vR a, vI kk, vI uu, vI vv, vI ww] h (fun r h' => h' = h ∧ (r = 0 ∨ r = 1) ∧ (r = 1 ↔ zleave f u v w)) := by
  refine inV [some (vR a), some (vI kk), some (vI uu), some (vI vv), some (vI ww), none, none, none] mvX4_leavesRange rfl (Nat.le_of_ble_eq_true rfl) rfl ?_
  have L10 : ∀ (zm10 : Nat) (i : Nat) (vi : Int), 27 - i = zm10 → (i ≤ 27) → (vi = (i : Int)) → (∀ q, q < i → f q = 0 ∨ zins q u v w) → WP mX4_leavesRange (zMQ mX4_leavesRange (zKI (fun r h' => h' = h ∧ (r = 0 ∨ r = 1) ∧ (r = 1 ↔ zleave f u v w)))) 10 [some (vR a), some (vI kk), some (vI uu), some (vI vv), some (vI ww), some (vR (a + 2 + k)), some (vI vi), none] [] zN zGR h := by
    intro zm10
    induction zm10 using Nat.strongRecOn with | _ zm10 ih10 => ?_
    intro i vi hzm10 hi hvi hno
    subst hzm10
    have L57 : ∀ (b : Int), (i < 27) → ((b = 0 ∨ b = 1) ∧ (b = 1 ↔ zins i u v w)) → WP mX4_leavesRange (zMQ mX4_leavesRange (zKI (fun r h' => h' = h ∧ (r = 0 ∨ r = 1) ∧ (r = 1 ↔ zleave f u v w)))) 57 [some (vR a), some (vI kk), some (vI uu), some (vI vv), some (vI ww), some (vR (a + 2 + k)), some (vI vi), none] [vI b] zN zGR h := by
      intro b hi27 hb
      obtain ⟨hfi, hf0, hf1⟩ := hf i hi27
      refine w_istore7 dX4_leavesRange_57 rfl (by decide) (w_aload5 dX4_leavesRange_59 (w_iload6 dX4_leavesRange_61 (x_iald i dX4_leavesRange_63 (zPo_r ha hk3) hvi (by omega) ?_)))
      refine wp_if_eq 74 dX4_leavesRange_64 rfl ⟨by omega, by omega⟩ (fun c64 => ?_) (fun c64 => ?_)
      · skip
        refine w_iinc6 dX4_leavesRange_74 rfl (by decide) (wp_goto 10 dX4_leavesRange_77 rfl ?_)
        refine w_forget7 ?_
        refine ih10 _ (by omega) (i + 1) _ rfl (by omega) (by omega) (fun q hq => ?_)
        by_cases e : q = i
        · subst e
          first | exact Or.inl (by omega) | exact Or.inr (hb.2.mp (by omega))
        · exact hno q (by omega)
      · skip
        refine w_iload7 dX4_leavesRange_67 ?_
        refine wp_if_ne 74 dX4_leavesRange_69 rfl ⟨by omega, by omega⟩ (fun c69 => ?_) (fun c69 => ?_)
        · skip
          refine w_iinc6 dX4_leavesRange_74 rfl (by decide) (wp_goto 10 dX4_leavesRange_77 rfl ?_)
          refine w_forget7 ?_
          refine ih10 _ (by omega) (i + 1) _ rfl (by omega) (by omega) (fun q hq => ?_)
          by_cases e : q = i
          · subst e
            first | exact Or.inl (by omega) | exact Or.inr (hb.2.mp (by omega))
          · exact hno q (by omega)
        · skip
          refine wp_iconst dX4_leavesRange_72 ?_
          refine r_z dX4_leavesRange_73 rfl meX4_leavesRange (by first | exact Or.inl rfl | exact Or.inr rfl | omega) ?_
          refine ⟨rfl, Or.inr rfl, fun _ => ⟨i, by omega, by omega, fun q => ?_⟩, fun _ => rfl⟩
          have := hb.2.mpr q
          omega
    refine w_iload6 dX4_leavesRange_10 (w_aload5 dX4_leavesRange_12 (wp_alen dX4_leavesRange_14 (zPo_r ha hk3) (by decide) ?_))
    refine wp_icmp_ge 80 dX4_leavesRange_15 rfl ⟨by omega, by omega⟩ ⟨by omega, by omega⟩ (fun c15 => ?_) (fun c15 => ?_)
    · skip
      refine wp_iconst dX4_leavesRange_80 ?_
      refine r_z dX4_leavesRange_81 rfl meX4_leavesRange (by first | exact Or.inl rfl | exact Or.inr rfl | omega) ?_
      refine ⟨rfl, Or.inl rfl, fun q => absurd q (by decide), fun q => ?_⟩
      obtain ⟨q1, q2, q3, q4⟩ := q
      rcases hno q1 (by omega) with z | z
      · exact absurd z q3
      · exact absurd z q4
    · skip
      refine w_iload6 dX4_leavesRange_18 (wp_bipush dX4_leavesRange_20 (by decide) (wp_idiv dX4_leavesRange_22 (by omega) (by omega) (w_iload2 dX4_leavesRange_23 (wp_iadd dX4_leavesRange_24 (wp_iconst dX4_leavesRange_25 ?_)))))
      refine wp_icmp_gt 56 dX4_leavesRange_26 rfl ⟨by omega, by omega⟩ ⟨by omega, by omega⟩ (fun c26 => ?_) (fun c26 => ?_)
      · skip
        refine wp_iconst dX4_leavesRange_56 ?_
        refine L57 _ (by omega) ⟨by first | exact Or.inl rfl | exact Or.inr rfl, ?_⟩
        unfold zins
        first | exact ⟨fun _ => ⟨by omega, by omega, by omega⟩, fun _ => rfl⟩ | exact ⟨fun q => absurd q (by decide), fun q => by omega⟩
      · skip
        refine w_iload6 dX4_leavesRange_29 (wp_iconst dX4_leavesRange_31 (wp_idiv dX4_leavesRange_32 (by omega) (by omega) (wp_iconst dX4_leavesRange_33 (wp_irem dX4_leavesRange_34 (by omega) (by omega) (w_iload3 dX4_leavesRange_35 (wp_iadd dX4_leavesRange_36 (wp_iconst dX4_leavesRange_37 ?_)))))))
        refine wp_icmp_gt 56 dX4_leavesRange_38 rfl ⟨by omega, by omega⟩ ⟨by omega, by omega⟩ (fun c38 => ?_) (fun c38 => ?_)
        · skip
          refine wp_iconst dX4_leavesRange_56 ?_
          refine L57 _ (by omega) ⟨by first | exact Or.inl rfl | exact Or.inr rfl, ?_⟩
          unfold zins
          first | exact ⟨fun _ => ⟨by omega, by omega, by omega⟩, fun _ => rfl⟩ | exact ⟨fun q => absurd q (by decide), fun q => by omega⟩
        · skip
          refine w_iload6 dX4_leavesRange_41 (wp_iconst dX4_leavesRange_43 (wp_irem dX4_leavesRange_44 (by omega) (by omega) (w_iload4 dX4_leavesRange_45 (wp_iadd dX4_leavesRange_47 (wp_iconst dX4_leavesRange_48 ?_)))))
          refine wp_icmp_gt 56 dX4_leavesRange_49 rfl ⟨by omega, by omega⟩ ⟨by omega, by omega⟩ (fun c49 => ?_) (fun c49 => ?_)
          · skip
            refine wp_iconst dX4_leavesRange_56 ?_
            refine L57 _ (by omega) ⟨by first | exact Or.inl rfl | exact Or.inr rfl, ?_⟩
            unfold zins
            first | exact ⟨fun _ => ⟨by omega, by omega, by omega⟩, fun _ => rfl⟩ | exact ⟨fun q => absurd q (by decide), fun q => by omega⟩
          · skip
            refine wp_iconst dX4_leavesRange_52 (wp_goto 57 dX4_leavesRange_53 rfl ?_)
            refine L57 _ (by omega) ⟨by first | exact Or.inl rfl | exact Or.inr rfl, ?_⟩
            unfold zins
            first | exact ⟨fun _ => ⟨by omega, by omega, by omega⟩, fun _ => rfl⟩ | exact ⟨fun q => absurd q (by decide), fun q => by omega⟩
  refine w_aload0 dX4_leavesRange_0 (w_iload1 dX4_leavesRange_1 ?_)
  apply v_r1 (M := mX4_leavesRange) dX4_leavesRange_2 lk_RX4_20 mvX4_termsOf (by decide) meX4_leavesRange (zPo_is ha) (Nat.le_of_ble_eq_true rfl)
  · exact t_X4_termsOf ha hk hk3
  intro x2 h2 hP2
  obtain ⟨eh2, ex2⟩ := hP2
  replace eh2 := eh2.symm
  subst eh2
  replace ex2 := ex2.symm
  subst ex2
  refine w_astore5 dX4_leavesRange_5 rfl (by decide) (wp_iconst dX4_leavesRange_7 (w_istore6 dX4_leavesRange_8 rfl (by decide) ?_))
  exact L10 _ 0 0 rfl (Nat.zero_le _) rfl (fun q hq => absurd hq (Nat.not_lt_zero q))
set_option maxRecDepth 100000 in
set_option maxHeartbeats 4000000 in
theorem t_X4_addMultiple {h : zH} {a : Nat} (ha : zPo a) {kk : Int} {k : Nat} (hk : kk = k) (hk3 : k < 3) {ll : Int} {l : Nat} (hl : ll = l) (hl3 : l < 3) (hkl : k ≠ l) {cc oo : Int} {off : Nat} (ho : oo = off) (ho2 : off < 27) {p : Int} (hp : 5 ≤ p ∧ p ≤ 31) (hp0 : h a 0 = p) (hc : 0 ≤ cc ∧ cc < p) (hf : ∀ q, q < 3 → ∀ j, j < 27 → 0 ≤ h (a + 2 + q) j ∧ h (a + 2 + q) j < p) : CV yX4_addMultiple mX4_addMultiple [vR a, vI kk, vI ll, vI cc, vI oo] h (fun h' => h' = fun b j => if b = a + 2 + k ∧ off ≤ j ∧ j < 27 then (h (a + 2 + k) j + cc * h (a + 2 + l) (j - off)) % p else h b j) := by
  refine inV [some (vR a), some (vI kk), some (vI ll), some (vI cc), some (vI oo), none, none, none, none] mvX4_addMultiple rfl (Nat.le_of_ble_eq_true rfl) rfl ?_
  have L17 : ∀ (zm17 : Nat) (i : Nat) (h' : zH) (vi : Int), 27 - i = zm17 → (i ≤ 27) → (vi = (i : Int)) → (h' = fun b j => if b = a + 2 + k ∧ off ≤ j ∧ j < 27 ∧ j < off + i then (h (a + 2 + k) j + cc * h (a + 2 + l) (j - off)) % p else h b j) → WP mX4_addMultiple (zMQ mX4_addMultiple (zKV (fun h' => h' = fun b j => if b = a + 2 + k ∧ off ≤ j ∧ j < 27 then (h (a + 2 + k) j + cc * h (a + 2 + l) (j - off)) % p else h b j))) 17 [some (vR a), some (vI kk), some (vI ll), some (vI cc), some (vI oo), some (vR (a + 2 + k)), some (vR (a + 2 + l)), some (vI vi), none] [] zN zGR h' := by
    intro zm17
    induction zm17 using Nat.strongRecOn with | _ zm17 ih17 => ?_
    intro i h' vi hzm17 hi hvi hh
    subst hzm17
    refine w_iload7 dX4_addMultiple_17 (w_aload6 dX4_addMultiple_19 (wp_alen dX4_addMultiple_21 (zPo_r ha hl3) (by decide) ?_))
    refine wp_icmp_ge 84 dX4_addMultiple_22 rfl ⟨by omega, by omega⟩ ⟨by omega, by omega⟩ (fun c22 => ?_) (fun c22 => ?_)
    · skip
      refine r_v dX4_addMultiple_84 rfl meX4_addMultiple ?_
      rw [hh]
      funext b j
      by_cases e : b = a + 2 + k ∧ off ≤ j ∧ j < 27
      · rw [if_pos e, if_pos (by omega)]
      · rw [if_neg e, if_neg (by omega)]
    · skip
      refine w_iload7 dX4_addMultiple_25 (w_iload4 dX4_addMultiple_27 (wp_iadd dX4_addMultiple_29 (w_istore8 dX4_addMultiple_30 rfl (by decide) (w_aload6 dX4_addMultiple_32 (w_iload7 dX4_addMultiple_34 ?_)))))
      have e2 : h' (a + 2 + l) i = h (a + 2 + l) i := by rw [hh]; dsimp only; rw [if_neg (by omega)]
      have b2 := hf l hl3 i (by omega)
      refine x_iald i dX4_addMultiple_36 (zPo_r ha hl3) hvi (by omega) ?_
      refine wp_if_eq 78 dX4_addMultiple_37 rfl (by rw [e2]; exact ⟨by omega, by omega⟩) (fun c37 => ?_) (fun c37 => ?_)
      · skip
        refine w_iinc7 dX4_addMultiple_78 rfl (by decide) (wp_goto 17 dX4_addMultiple_81 rfl ?_)
        refine w_forget8 ?_
        refine ih17 _ (by omega) (i + 1) _ _ rfl (by omega) (by omega) ?_
        rw [hh]
        funext b j
        first
        | (unfold zup
           try dsimp only
           by_cases e : b = a + 2 + k ∧ j = off + i
           · rw [if_pos e, if_pos (by omega), show j - off = i by omega, e.2]
           · rw [if_neg e]
             by_cases e5 : b = a + 2 + k ∧ off ≤ j ∧ j < 27 ∧ j < off + i
             · rw [if_pos e5, if_pos (by omega)]
             · rw [if_neg e5, if_neg (by omega)]
           done)
        | (try dsimp only
           by_cases e5 : b = a + 2 + k ∧ off ≤ j ∧ j < 27 ∧ j < off + i
           · rw [if_pos e5, if_pos (by omega)]
           · rw [if_neg e5]
             by_cases e6 : b = a + 2 + k ∧ off ≤ j ∧ j < 27 ∧ j < off + (i + 1)
             · rw [if_pos e6, show j - off = i by omega]
               first
               | (exfalso; omega)
               | (have z0 : h (a + 2 + l) i = 0 := by omega
                  have b9 := hf k hk3 j (by omega)
                  rw [z0, Int.mul_zero, Int.add_zero, Int.emod_eq_of_lt b9.1 b9.2, e6.1])
             · rw [if_neg e6])
      · skip
        refine w_iload8 dX4_addMultiple_40 ?_
        refine wp_if_lt 78 dX4_addMultiple_42 rfl ⟨by omega, by omega⟩ (fun c42 => ?_) (fun c42 => ?_)
        · skip
          refine w_iinc7 dX4_addMultiple_78 rfl (by decide) (wp_goto 17 dX4_addMultiple_81 rfl ?_)
          refine w_forget8 ?_
          refine ih17 _ (by omega) (i + 1) _ _ rfl (by omega) (by omega) ?_
          rw [hh]
          funext b j
          first
          | (unfold zup
             try dsimp only
             by_cases e : b = a + 2 + k ∧ j = off + i
             · rw [if_pos e, if_pos (by omega), show j - off = i by omega, e.2]
             · rw [if_neg e]
               by_cases e5 : b = a + 2 + k ∧ off ≤ j ∧ j < 27 ∧ j < off + i
               · rw [if_pos e5, if_pos (by omega)]
               · rw [if_neg e5, if_neg (by omega)]
             done)
          | (try dsimp only
             by_cases e5 : b = a + 2 + k ∧ off ≤ j ∧ j < 27 ∧ j < off + i
             · rw [if_pos e5, if_pos (by omega)]
             · rw [if_neg e5]
               by_cases e6 : b = a + 2 + k ∧ off ≤ j ∧ j < 27 ∧ j < off + (i + 1)
               · rw [if_pos e6, show j - off = i by omega]
                 first
                 | (exfalso; omega)
                 | (have z0 : h (a + 2 + l) i = 0 := by omega
                    have b9 := hf k hk3 j (by omega)
                    rw [z0, Int.mul_zero, Int.add_zero, Int.emod_eq_of_lt b9.1 b9.2, e6.1])
               · rw [if_neg e6])
        · skip
          refine w_iload8 dX4_addMultiple_45 (w_aload5 dX4_addMultiple_47 (wp_alen dX4_addMultiple_49 (zPo_r ha hk3) (by decide) ?_))
          refine wp_icmp_ge 78 dX4_addMultiple_50 rfl ⟨by omega, by omega⟩ ⟨by omega, by omega⟩ (fun c50 => ?_) (fun c50 => ?_)
          · skip
            refine w_iinc7 dX4_addMultiple_78 rfl (by decide) (wp_goto 17 dX4_addMultiple_81 rfl ?_)
            refine w_forget8 ?_
            refine ih17 _ (by omega) (i + 1) _ _ rfl (by omega) (by omega) ?_
            rw [hh]
            funext b j
            first
            | (unfold zup
               try dsimp only
               by_cases e : b = a + 2 + k ∧ j = off + i
               · rw [if_pos e, if_pos (by omega), show j - off = i by omega, e.2]
               · rw [if_neg e]
                 by_cases e5 : b = a + 2 + k ∧ off ≤ j ∧ j < 27 ∧ j < off + i
                 · rw [if_pos e5, if_pos (by omega)]
                 · rw [if_neg e5, if_neg (by omega)]
               done)
            | (try dsimp only
               by_cases e5 : b = a + 2 + k ∧ off ≤ j ∧ j < 27 ∧ j < off + i
               · rw [if_pos e5, if_pos (by omega)]
               · rw [if_neg e5]
                 by_cases e6 : b = a + 2 + k ∧ off ≤ j ∧ j < 27 ∧ j < off + (i + 1)
                 · rw [if_pos e6, show j - off = i by omega]
                   first
                   | (exfalso; omega)
                   | (have z0 : h (a + 2 + l) i = 0 := by omega
                      have b9 := hf k hk3 j (by omega)
                      rw [z0, Int.mul_zero, Int.add_zero, Int.emod_eq_of_lt b9.1 b9.2, e6.1])
                 · rw [if_neg e6])
          · skip
            refine w_aload5 dX4_addMultiple_53 (w_iload8 dX4_addMultiple_55 (w_aload5 dX4_addMultiple_57 (w_iload8 dX4_addMultiple_59 ?_)))
            have e3 : h' (a + 2 + k) (off + i) = h (a + 2 + k) (off + i) := by rw [hh]; dsimp only; rw [if_neg (by omega)]
            have e4 := e2
            have b1 := hf k hk3 (off + i) (by omega)
            have b3 := z_mul hc b2 hp.2
            have e5 : h' a 0 = p := by rw [hh]; dsimp only; rw [if_neg (by omega), hp0]
            refine x_iald (off + i) dX4_addMultiple_61 (zPo_r ha hk3) (by omega) (by omega) (w_iload3 dX4_addMultiple_62 (w_aload6 dX4_addMultiple_63 (w_iload7 dX4_addMultiple_65 (x_iald i dX4_addMultiple_67 (zPo_r ha hl3) hvi (by omega) (wp_imul dX4_addMultiple_68 (wp_iadd dX4_addMultiple_69 (w_aload0 dX4_addMultiple_70 (wp_geti dX4_addMultiple_71 fl_RX4_9 (zPo_is ha) ?_))))))))
            rw [e5, e4, e3]
            apply s_i2 (M := mX4_addMultiple) dX4_addMultiple_74 lk_RX4_39 mvX3_residue (by decide) meX4_addMultiple (Nat.le_of_ble_eq_true rfl)
            · exact t_X3_residue ⟨by omega, by omega⟩ (by omega)
            intro x74 h74 hP74
            obtain ⟨eh74, ex74⟩ := hP74
            replace eh74 := eh74.symm
            subst eh74
            replace ex74 := ex74.symm
            subst ex74
            refine x_iast (off + i) dX4_addMultiple_77 (zPo_r ha hk3) (by omega) (by omega) (w_iinc7 dX4_addMultiple_78 rfl (by decide) (wp_goto 17 dX4_addMultiple_81 rfl ?_))
            refine w_forget8 ?_
            refine ih17 _ (by omega) (i + 1) _ _ rfl (by omega) (by omega) ?_
            rw [hh]
            funext b j
            first
            | (unfold zup
               try dsimp only
               by_cases e : b = a + 2 + k ∧ j = off + i
               · rw [if_pos e, if_pos (by omega), show j - off = i by omega, e.2]
               · rw [if_neg e]
                 by_cases e5 : b = a + 2 + k ∧ off ≤ j ∧ j < 27 ∧ j < off + i
                 · rw [if_pos e5, if_pos (by omega)]
                 · rw [if_neg e5, if_neg (by omega)]
               done)
            | (try dsimp only
               by_cases e5 : b = a + 2 + k ∧ off ≤ j ∧ j < 27 ∧ j < off + i
               · rw [if_pos e5, if_pos (by omega)]
               · rw [if_neg e5]
                 by_cases e6 : b = a + 2 + k ∧ off ≤ j ∧ j < 27 ∧ j < off + (i + 1)
                 · rw [if_pos e6, show j - off = i by omega]
                   first
                   | (exfalso; omega)
                   | (have z0 : h (a + 2 + l) i = 0 := by omega
                      have b9 := hf k hk3 j (by omega)
                      rw [z0, Int.mul_zero, Int.add_zero, Int.emod_eq_of_lt b9.1 b9.2, e6.1])
                 · rw [if_neg e6])
  refine w_aload0 dX4_addMultiple_0 (w_iload1 dX4_addMultiple_1 ?_)
  apply v_r1 (M := mX4_addMultiple) dX4_addMultiple_2 lk_RX4_20 mvX4_termsOf (by decide) meX4_addMultiple (zPo_is ha) (Nat.le_of_ble_eq_true rfl)
  · exact t_X4_termsOf ha hk hk3
  intro x2 h2 hP2
  obtain ⟨eh2, ex2⟩ := hP2
  replace eh2 := eh2.symm
  subst eh2
  replace ex2 := ex2.symm
  subst ex2
  refine w_astore5 dX4_addMultiple_5 rfl (by decide) (w_aload0 dX4_addMultiple_7 (w_iload2 dX4_addMultiple_8 ?_))
  apply v_r1 (M := mX4_addMultiple) dX4_addMultiple_9 lk_RX4_20 mvX4_termsOf (by decide) meX4_addMultiple (zPo_is ha) (Nat.le_of_ble_eq_true rfl)
  · exact t_X4_termsOf ha hl hl3
  intro x9 h9 hP9
  obtain ⟨eh9, ex9⟩ := hP9
  replace eh9 := eh9.symm
  subst eh9
  replace ex9 := ex9.symm
  subst ex9
  refine w_astore6 dX4_addMultiple_12 rfl (by decide) (wp_iconst dX4_addMultiple_14 (w_istore7 dX4_addMultiple_15 rfl (by decide) ?_))
  exact L17 _ 0 h 0 rfl (Nat.zero_le _) rfl (by funext b j; rw [if_neg (by omega)])
set_option maxRecDepth 100000 in
set_option maxHeartbeats 4000000 in
theorem t_X4_substitute {h : zH} {a : Nat} (ha : zPo a) {cc p : Int} (hp : 5 ≤ p ∧ p ≤ 31) (hp0 : h a 0 = p) (hc : 0 ≤ cc ∧ cc < p) (hf : ∀ q, q < 3 → ∀ j, j < 27 → 0 ≤ h (a + 2 + q) j ∧ h (a + 2 + q) j < p) : CV yX4_substitute mX4_substitute [vR a, vI cc] h (fun h' => h' = fun b j => if (a + 2 ≤ b ∧ b < a + 5) ∧ j < 27 then zsh p cc (h b) j else h b j) := by
  refine inV [some (vR a), some (vI cc), none, none, none] mvX4_substitute rfl (Nat.le_of_ble_eq_true rfl) rfl ?_
  have L2 : ∀ (zm2 : Nat) (k : Nat) (h' : zH) (vk : Int), 3 - k = zm2 → (k ≤ 3) → (vk = (k : Int)) → (h' = fun b j => if (a + 2 ≤ b ∧ b < a + 2 + k) ∧ j < 27 then zsh p cc (h b) j else h b j) → WP mX4_substitute (zMQ mX4_substitute (zKV (fun h' => h' = fun b j => if (a + 2 ≤ b ∧ b < a + 5) ∧ j < 27 then zsh p cc (h b) j else h b j))) 2 [some (vR a), some (vI cc), some (vI vk), none, none] [] zN zGR h' := by
    intro zm2
    induction zm2 using Nat.strongRecOn with | _ zm2 ih2 => ?_
    intro k h' vk hzm2 hk hvk hh
    subst hzm2
    have L17 : ∀ (zm17 : Nat) (w : Nat) (h2 : zH) (vw : Int), 9 - w = zm17 → (w ≤ 9) → (vw = 3 * (w : Int)) → (k < 3) → (h2 = fun b j => if ((a + 2 ≤ b ∧ b < a + 2 + k) ∧ j < 27) ∨ (b = a + 2 + k ∧ j < 3 * w) then zsh p cc (h b) j else h b j) → WP mX4_substitute (zMQ mX4_substitute (zKV (fun h' => h' = fun b j => if (a + 2 ≤ b ∧ b < a + 5) ∧ j < 27 then zsh p cc (h b) j else h b j))) 17 [some (vR a), some (vI cc), some (vI vk), some (vR (a + 2 + k)), some (vI vw)] [] zN zGR h2 := by
      intro zm17
      induction zm17 using Nat.strongRecOn with | _ zm17 ih17 => ?_
      intro w h2 vw hzm17 hw hvw hk3 hh2
      subst hzm17
      refine w_iload4 dX4_substitute_17 (wp_iconst dX4_substitute_19 (wp_iadd dX4_substitute_20 (w_aload3 dX4_substitute_21 (wp_alen dX4_substitute_22 (zPo_r ha hk3) (by decide) ?_))))
      refine wp_icmp_ge 95 dX4_substitute_23 rfl ⟨by omega, by omega⟩ ⟨by omega, by omega⟩ (fun c23 => ?_) (fun c23 => ?_)
      · skip
        refine w_iinc2 dX4_substitute_95 rfl (by decide) (wp_goto 2 dX4_substitute_98 rfl ?_)
        refine w_forget3 ?_
        refine w_forget4 ?_
        refine ih2 _ (by omega) (k + 1) _ _ rfl (by omega) (by omega) ?_
        rw [hh2]
        funext b j
        by_cases e : ((a + 2 ≤ b ∧ b < a + 2 + k) ∧ j < 27) ∨ (b = a + 2 + k ∧ j < 3 * w)
        · rw [if_pos e, if_pos (by omega)]
        · rw [if_neg e, if_neg (by omega)]
      · skip
        refine w_aload3 dX4_substitute_26 (w_iload4 dX4_substitute_27 (w_aload3 dX4_substitute_29 (w_iload4 dX4_substitute_30 ?_)))
        have e0 : h2 (a + 2 + k) (3 * w) = h (a + 2 + k) (3 * w) := by rw [hh2]; dsimp only; rw [if_neg (by omega)]
        have e1 : h2 (a + 2 + k) (3 * w + 1) = h (a + 2 + k) (3 * w + 1) := by rw [hh2]; dsimp only; rw [if_neg (by omega)]
        have e2 : h2 (a + 2 + k) (3 * w + 2) = h (a + 2 + k) (3 * w + 2) := by rw [hh2]; dsimp only; rw [if_neg (by omega)]
        have ep : h2 a 0 = p := by rw [hh2]; dsimp only; rw [if_neg (by omega), hp0]
        have b0 := hf k hk3 (3 * w) (by omega)
        have b1 := hf k hk3 (3 * w + 1) (by omega)
        have b2 := hf k hk3 (3 * w + 2) (by omega)
        have b3 := z_mul hc b2 hp.2
        have b4 := z_b2 (a := cc) (b := h (a + 2 + k) (3 * w + 1) + cc * h (a + 2 + k) (3 * w + 2)) (M := 30) (N := 930) (by omega) (by omega)
        have b5 : 2 * cc * h (a + 2 + k) (3 * w + 2) = 2 * (cc * h (a + 2 + k) (3 * w + 2)) := Int.mul_assoc _ _ _
        refine x_iald (3 * w) dX4_substitute_32 (zPo_r ha hk3) (by omega) (by omega) (w_iload1 dX4_substitute_33 (w_aload3 dX4_substitute_34 (w_iload4 dX4_substitute_35 (wp_iconst dX4_substitute_37 (wp_iadd dX4_substitute_38 (x_iald (3 * w + 1) dX4_substitute_39 (zPo_r ha hk3) (by omega) (by omega) (w_iload1 dX4_substitute_40 (w_aload3 dX4_substitute_41 (w_iload4 dX4_substitute_42 ?_)))))))))
        refine wp_iconst dX4_substitute_44 (wp_iadd dX4_substitute_45 (x_iald (3 * w + 2) dX4_substitute_46 (zPo_r ha hk3) (by omega) (by omega) (wp_imul dX4_substitute_47 (wp_iadd dX4_substitute_48 (wp_imul dX4_substitute_49 (wp_iadd dX4_substitute_50 (w_aload0 dX4_substitute_51 (wp_geti dX4_substitute_52 fl_RX4_9 (zPo_is ha) ?_))))))))
        rw [ep, e0, e1, e2]
        apply s_i2 (M := mX4_substitute) dX4_substitute_55 lk_RX4_39 mvX3_residue (by decide) meX4_substitute (Nat.le_of_ble_eq_true rfl)
        · exact t_X3_residue ⟨by omega, by omega⟩ (by omega)
        intro x55 h55 hP55
        obtain ⟨eh55, ex55⟩ := hP55
        replace eh55 := eh55.symm
        subst eh55
        replace ex55 := ex55.symm
        subst ex55
        refine x_iast (3 * w) dX4_substitute_58 (zPo_r ha hk3) (by omega) (by omega) (w_aload3 dX4_substitute_59 (w_iload4 dX4_substitute_60 (wp_iconst dX4_substitute_62 (wp_iadd dX4_substitute_63 (w_aload3 dX4_substitute_64 (w_iload4 dX4_substitute_65 (wp_iconst dX4_substitute_67 (wp_iadd dX4_substitute_68 (x_iald (3 * w + 1) dX4_substitute_69 (zPo_r ha hk3) (by omega) (by omega) ?_)))))))))
        refine wp_iconst dX4_substitute_70 (w_iload1 dX4_substitute_71 (wp_imul dX4_substitute_72 (w_aload3 dX4_substitute_73 (w_iload4 dX4_substitute_74 (wp_iconst dX4_substitute_76 (wp_iadd dX4_substitute_77 (x_iald (3 * w + 2) dX4_substitute_78 (zPo_r ha hk3) (by omega) (by omega) (wp_imul dX4_substitute_79 (wp_iadd dX4_substitute_80 ?_)))))))))
        refine w_aload0 dX4_substitute_81 (wp_geti dX4_substitute_82 fl_RX4_9 (zPo_is ha) ?_)
        rw [zup_o (by omega), ep, zup_o (by omega), e1, zup_o (by omega), e2]
        apply s_i2 (M := mX4_substitute) dX4_substitute_85 lk_RX4_39 mvX3_residue (by decide) meX4_substitute (Nat.le_of_ble_eq_true rfl)
        · exact t_X3_residue ⟨by omega, by omega⟩ (by omega)
        intro x85 h85 hP85
        obtain ⟨eh85, ex85⟩ := hP85
        replace eh85 := eh85.symm
        subst eh85
        replace ex85 := ex85.symm
        subst ex85
        refine x_iast (3 * w + 1) dX4_substitute_88 (zPo_r ha hk3) (by omega) (by omega) (w_iinc4 dX4_substitute_89 rfl (by decide) (wp_goto 17 dX4_substitute_92 rfl ?_))
        refine ih17 _ (by omega) (w + 1) _ _ rfl (by omega) (by omega) hk3 ?_
        rw [hh2]
        funext b j
        unfold zup
        try dsimp only
        by_cases e : b = a + 2 + k ∧ j = 3 * w + 1
        · rw [if_pos e, if_pos (by omega), e.1, e.2]
          unfold zsh
          rw [if_neg (by omega), if_pos (by omega)]
        · rw [if_neg e]
          by_cases e7 : b = a + 2 + k ∧ j = 3 * w
          · rw [if_pos e7, if_pos (by omega), e7.1, e7.2]
            unfold zsh
            rw [if_pos (by omega)]
          · rw [if_neg e7]
            by_cases e8 : ((a + 2 ≤ b ∧ b < a + 2 + k) ∧ j < 27) ∨ (b = a + 2 + k ∧ j < 3 * w)
            · rw [if_pos e8, if_pos (by omega)]
            · rw [if_neg e8]
              by_cases e9 : b = a + 2 + k ∧ j = 3 * w + 2
              · rw [if_pos (by omega), e9.1, e9.2]
                unfold zsh
                rw [if_neg (by omega), if_neg (by omega)]
              · rw [if_neg (by omega)]
    refine w_iload2 dX4_substitute_2 (wp_iconst dX4_substitute_3 ?_)
    refine wp_icmp_ge 101 dX4_substitute_4 rfl ⟨by omega, by omega⟩ ⟨by omega, by omega⟩ (fun c4 => ?_) (fun c4 => ?_)
    · skip
      refine r_v dX4_substitute_101 rfl meX4_substitute ?_
      rw [hh, show k = 3 by omega]
    · skip
      refine w_aload0 dX4_substitute_7 (wp_getr (a + 1) dX4_substitute_8 fl_RX4_17 (zPo_is ha) (zPo_g ha) (w_iload2 dX4_substitute_11 (x_aald k (a + 2 + k) dX4_substitute_12 (zPo_t ha) (Or.inl rfl) hvk (by omega) (zPo_q ha (by omega)) (w_astore3 dX4_substitute_13 rfl (by decide) (wp_iconst dX4_substitute_14 (w_istore4 dX4_substitute_15 rfl (by decide) ?_))))))
      refine L17 _ 0 _ 0 rfl (Nat.zero_le _) rfl (by omega) ?_
      rw [hh]
      funext b j
      by_cases e : (a + 2 ≤ b ∧ b < a + 2 + k) ∧ j < 27
      · rw [if_pos e, if_pos (Or.inl e)]
      · rw [if_neg e, if_neg (by omega)]
  refine wp_iconst dX4_substitute_0 (w_istore2 dX4_substitute_1 rfl (by decide) ?_)
  exact L2 _ 0 h 0 rfl (Nat.zero_le _) rfl (by funext b j; rw [if_neg (by omega)])
set_option maxRecDepth 100000 in
set_option maxHeartbeats 4000000 in
theorem t_X4_scatter {h : zH} {a : Nat} (ha : zPo a) {s th : Int} {uu vv ww : Int} {u v w : Nat} (hu : uu = u) (hv : vv = v) (hw : ww = w) (hu3 : u < 3) (hv3 : v < 3) (hw3 : w < 3) (hth : 1 ≤ th ∧ th ≤ 9) {p : Int} (hp : 5 ≤ p ∧ p ≤ 31) (hp0 : h a 0 = p) : CV yX4_scatter mX4_scatter [vR a, vI s, vI uu, vI vv, vI ww, vI th] h (fun h' => h' = fun b j => if (a + 2 ≤ b ∧ b < a + 5) ∧ j < 27 then zdrw p u v w th (zlcg s (27 * (b - (a + 2)) + j + 1)) j else h b j) := by
  refine inV [some (vR a), some (vI s), some (vI uu), some (vI vv), some (vI ww), some (vI th), none, none, none, none, none, none] mvX4_scatter rfl (Nat.le_of_ble_eq_true rfl) rfl ?_
  have L15 : ∀ (zm15 : Nat) (k : Nat) (h' : zH) (vk : Int), 3 - k = zm15 → (k ≤ 3) → (vk = (k : Int)) → (h' = fun b j => if (a + 2 ≤ b ∧ b < a + 2 + k) ∧ j < 27 then zdrw p u v w th (zlcg s (27 * (b - (a + 2)) + j + 1)) j else h b j) → WP mX4_scatter (zMQ mX4_scatter (zKV (fun h' => h' = fun b j => if (a + 2 ≤ b ∧ b < a + 5) ∧ j < 27 then zdrw p u v w th (zlcg s (27 * (b - (a + 2)) + j + 1)) j else h b j))) 15 [some (vR a), none, some (vI uu), some (vI vv), some (vI ww), some (vI th), some (vI (zlcg s (27 * k))), some (vI vk), none, none, none, none] [] zN zGR h' := by
    intro zm15
    induction zm15 using Nat.strongRecOn with | _ zm15 ih15 => ?_
    intro k h' vk hzm15 hk hvk hh
    subst hzm15
    have L24 : ∀ (zm24 : Nat) (w2 : Nat) (h2 : zH) (vw : Int), 27 - w2 = zm24 → (w2 ≤ 27) → (vw = (w2 : Int)) → (k < 3) → (h2 = fun b j => if ((a + 2 ≤ b ∧ b < a + 2 + k) ∧ j < 27) ∨ (b = a + 2 + k ∧ j < w2) then zdrw p u v w th (zlcg s (27 * (b - (a + 2)) + j + 1)) j else h b j) → WP mX4_scatter (zMQ mX4_scatter (zKV (fun h' => h' = fun b j => if (a + 2 ≤ b ∧ b < a + 5) ∧ j < 27 then zdrw p u v w th (zlcg s (27 * (b - (a + 2)) + j + 1)) j else h b j))) 24 [some (vR a), none, some (vI uu), some (vI vv), some (vI ww), some (vI th), some (vI (zlcg s (27 * k + w2))), some (vI vk), some (vI vw), none, none, none] [] zN zGR h2 := by
      intro zm24
      induction zm24 using Nat.strongRecOn with | _ zm24 ih24 => ?_
      intro w2 h2 vw hzm24 hw2 hvw hk3 hh2
      subst hzm24
      have ep : h2 a 0 = p := by rw [hh2]; dsimp only; rw [if_neg (by omega), hp0]
      have L140 : ∀ (x : Int), (w2 < 27) → (x = zdrw p u v w th (zlcg s (27 * k + w2 + 1)) w2) → WP mX4_scatter (zMQ mX4_scatter (zKV (fun h' => h' = fun b j => if (a + 2 ≤ b ∧ b < a + 5) ∧ j < 27 then zdrw p u v w th (zlcg s (27 * (b - (a + 2)) + j + 1)) j else h b j))) 140 [some (vR a), none, some (vI uu), some (vI vv), some (vI ww), some (vI th), some (vI (zlcg s (27 * k + w2 + 1))), some (vI vk), some (vI vw), none, none, none] [vI x, vI vw, vR (a + 2 + k)] zN zGR h2 := by
        intro x h27 hx
        refine x_iast w2 dX4_scatter_140 (zPo_r ha hk3) hvw (by omega) (w_iinc8 dX4_scatter_141 rfl (by decide) (wp_goto 24 dX4_scatter_144 rfl ?_))
        refine ih24 _ (by omega) (w2 + 1) _ _ rfl (by omega) (by omega) hk3 ?_
        rw [hh2]
        funext b j
        unfold zup
        try dsimp only
        by_cases e : b = a + 2 + k ∧ j = w2
        · rw [if_pos e, if_pos (by omega), e.1, e.2, show a + 2 + k - (a + 2) = k by omega, hx]
        · rw [if_neg e]
          by_cases e8 : ((a + 2 ≤ b ∧ b < a + 2 + k) ∧ j < 27) ∨ (b = a + 2 + k ∧ j < w2)
          · rw [if_pos e8, if_pos (by omega)]
          · rw [if_neg e8, if_neg (by omega)]
      have L113 : ∀ (x : Int), (w2 < 27) → ((x = 0 ∨ x = 1) ∧ (x = 1 ↔ zdok u v w w2 ∧ znum (zlcg s (27 * k + w2 + 1)) / p % th = 0)) → WP mX4_scatter (zMQ mX4_scatter (zKV (fun h' => h' = fun b j => if (a + 2 ≤ b ∧ b < a + 5) ∧ j < 27 then zdrw p u v w th (zlcg s (27 * (b - (a + 2)) + j + 1)) j else h b j))) 113 [some (vR a), none, some (vI uu), some (vI vv), some (vI ww), some (vI th), some (vI (zlcg s (27 * k + w2 + 1))), some (vI vk), some (vI vw), some (vI (znum (zlcg s (27 * k + w2 + 1)))), none, none] [vI x] zN zGR h2 := by
        intro x h27 hb
        have hnb := znum_in (zlcg s (27 * k + w2 + 1))
        refine w_istore11 dX4_scatter_113 rfl (by decide) (w_aload0 dX4_scatter_115 (wp_getr (a + 1) dX4_scatter_116 fl_RX4_17 (zPo_is ha) (zPo_g ha) (w_iload7 dX4_scatter_119 (x_aald k (a + 2 + k) dX4_scatter_121 (zPo_t ha) (Or.inl rfl) hvk hk3 (zPo_q ha hk3) (w_iload8 dX4_scatter_122 (w_iload11 dX4_scatter_124 ?_))))))
        refine wp_if_eq 139 dX4_scatter_126 rfl ⟨by omega, by omega⟩ (fun c126 => ?_) (fun c126 => ?_)
        · skip
          refine wp_iconst dX4_scatter_139 ?_
          refine w_forget9 ?_
          refine w_forget11 ?_
          refine L140 _ h27 ?_
          first
          | (rw [zdrw_y (hb.2.mp (by omega))]; done)
          | (rw [zdrw_n (fun q => by have := hb.2.mpr q; omega)]; done)
        · skip
          refine w_iload9 dX4_scatter_129 (w_aload0 dX4_scatter_131 (wp_geti dX4_scatter_132 fl_RX4_9 (zPo_is ha) ?_))
          rw [ep]
          refine wp_irem dX4_scatter_135 (by omega) (by omega) (wp_goto 140 dX4_scatter_136 rfl ?_)
          refine w_forget9 ?_
          refine w_forget11 ?_
          refine L140 _ h27 ?_
          first
          | (rw [zdrw_y (hb.2.mp (by omega))]; done)
          | (rw [zdrw_n (fun q => by have := hb.2.mpr q; omega)]; done)
      have L86 : ∀ (x : Int), (w2 < 27) → ((x = 0 ∨ x = 1) ∧ (x = 1 ↔ zdok u v w w2)) → WP mX4_scatter (zMQ mX4_scatter (zKV (fun h' => h' = fun b j => if (a + 2 ≤ b ∧ b < a + 5) ∧ j < 27 then zdrw p u v w th (zlcg s (27 * (b - (a + 2)) + j + 1)) j else h b j))) 86 [some (vR a), none, some (vI uu), some (vI vv), some (vI ww), some (vI th), some (vI (zlcg s (27 * k + w2 + 1))), some (vI vk), some (vI vw), some (vI (znum (zlcg s (27 * k + w2 + 1)))), none, none] [vI x] zN zGR h2 := by
        intro x h27 hb
        have hnb := znum_in (zlcg s (27 * k + w2 + 1))
        have hdb := Int.ediv_nonneg hnb.1 (show 0 ≤ p by omega)
        have hdc := Int.ediv_le_self p hnb.1
        refine w_istore10 dX4_scatter_86 rfl (by decide) (w_iload10 dX4_scatter_88 ?_)
        refine wp_if_eq 112 dX4_scatter_90 rfl ⟨by omega, by omega⟩ (fun c90 => ?_) (fun c90 => ?_)
        · skip
          refine wp_iconst dX4_scatter_112 ?_
          refine w_forget10 ?_
          refine L113 _ h27 ⟨by first | exact Or.inl rfl | exact Or.inr rfl, ?_⟩
          first
          | exact ⟨fun _ => ⟨hb.2.mp (by omega), by omega⟩, fun _ => rfl⟩
          | exact ⟨fun q => absurd q (by decide), fun q => (by have := q.2; omega)⟩
          | exact ⟨fun q => absurd q (by decide), fun q => (by have := hb.2.mpr q.1; omega)⟩
        · skip
          refine w_iload9 dX4_scatter_93 (w_aload0 dX4_scatter_95 (wp_geti dX4_scatter_96 fl_RX4_9 (zPo_is ha) ?_))
          rw [ep]
          refine wp_idiv dX4_scatter_99 (by omega) (by omega) (w_iload5 dX4_scatter_100 ?_)
          apply s_i2 (M := mX4_scatter) dX4_scatter_102 lk_RX4_39 mvX3_residue (by decide) meX4_scatter (Nat.le_of_ble_eq_true rfl)
          · exact t_X3_residue ⟨by omega, by omega⟩ (by omega)
          intro x102 h102 hP102
          obtain ⟨eh102, ex102⟩ := hP102
          replace eh102 := eh102.symm
          subst eh102
          replace ex102 := ex102.symm
          subst ex102
          have hmb := z_mod (show 0 < th by omega) (znum (zlcg s (27 * k + w2 + 1)) / p)
          refine wp_if_ne 112 dX4_scatter_105 rfl ⟨by omega, by omega⟩ (fun c105 => ?_) (fun c105 => ?_)
          · skip
            refine wp_iconst dX4_scatter_112 ?_
            refine w_forget10 ?_
            refine L113 _ h27 ⟨by first | exact Or.inl rfl | exact Or.inr rfl, ?_⟩
            first
            | exact ⟨fun _ => ⟨hb.2.mp (by omega), by omega⟩, fun _ => rfl⟩
            | exact ⟨fun q => absurd q (by decide), fun q => (by have := q.2; omega)⟩
            | exact ⟨fun q => absurd q (by decide), fun q => (by have := hb.2.mpr q.1; omega)⟩
          · skip
            refine wp_iconst dX4_scatter_108 (wp_goto 113 dX4_scatter_109 rfl ?_)
            refine w_forget10 ?_
            refine L113 _ h27 ⟨by first | exact Or.inl rfl | exact Or.inr rfl, ?_⟩
            first
            | exact ⟨fun _ => ⟨hb.2.mp (by omega), by omega⟩, fun _ => rfl⟩
            | exact ⟨fun q => absurd q (by decide), fun q => (by have := q.2; omega)⟩
            | exact ⟨fun q => absurd q (by decide), fun q => (by have := hb.2.mpr q.1; omega)⟩
      refine w_iload8 dX4_scatter_24 (wp_bipush dX4_scatter_26 (by decide) ?_)
      refine wp_icmp_ge 147 dX4_scatter_28 rfl ⟨by omega, by omega⟩ ⟨by omega, by omega⟩ (fun c28 => ?_) (fun c28 => ?_)
      · skip
        refine w_iinc7 dX4_scatter_147 rfl (by decide) (wp_goto 15 dX4_scatter_150 rfl ?_)
        refine w_forget8 ?_
        obtain rfl : w2 = 27 := by omega
        rw [show 27 * k + 27 = 27 * (k + 1) by omega]
        refine ih15 _ (by omega) (k + 1) h2 _ rfl (by omega) (by omega) ?_
        rw [hh2]
        funext b j
        by_cases e : ((a + 2 ≤ b ∧ b < a + 2 + k) ∧ j < 27) ∨ (b = a + 2 + k ∧ j < 27)
        · rw [if_pos e, if_pos (by omega)]
        · rw [if_neg e, if_neg (by omega)]
      · skip
        refine w_iload6 dX4_scatter_31 (wp_ldc dX4_scatter_33 kc_RX4_38 (wp_imul dX4_scatter_35 (wp_sipush dX4_scatter_36 (by decide) (wp_iadd dX4_scatter_39 (w_istore6 dX4_scatter_40 rfl (by decide) (w_iload6 dX4_scatter_42 (wp_bipush dX4_scatter_44 (by decide) (wp_iushr dX4_scatter_46 (by omega) (wp_sipush dX4_scatter_47 (by decide) ?_)))))))))
        refine wp_iand dX4_scatter_50 (z_ush _) (by omega) (w_istore9 dX4_scatter_51 rfl (by decide) (w_iload8 dX4_scatter_53 (wp_bipush dX4_scatter_55 (by decide) (wp_idiv dX4_scatter_57 (by omega) (by omega) (w_iload2 dX4_scatter_58 ?_)))))
        refine wp_icmp_gt 85 dX4_scatter_59 rfl ⟨by omega, by omega⟩ ⟨by omega, by omega⟩ (fun c59 => ?_) (fun c59 => ?_)
        · skip
          refine wp_iconst dX4_scatter_85 ?_
          refine L86 _ (by omega) ⟨by first | exact Or.inl rfl | exact Or.inr rfl, ?_⟩
          unfold zdok
          first | exact ⟨fun _ => ⟨by omega, by omega, by omega⟩, fun _ => rfl⟩ | exact ⟨fun q => absurd q (by decide), fun q => by omega⟩
        · skip
          refine w_iload8 dX4_scatter_62 (wp_iconst dX4_scatter_64 (wp_idiv dX4_scatter_65 (by omega) (by omega) (wp_iconst dX4_scatter_66 (wp_irem dX4_scatter_67 (by omega) (by omega) (w_iload3 dX4_scatter_68 ?_)))))
          refine wp_icmp_gt 85 dX4_scatter_69 rfl ⟨by omega, by omega⟩ ⟨by omega, by omega⟩ (fun c69 => ?_) (fun c69 => ?_)
          · skip
            refine wp_iconst dX4_scatter_85 ?_
            refine L86 _ (by omega) ⟨by first | exact Or.inl rfl | exact Or.inr rfl, ?_⟩
            unfold zdok
            first | exact ⟨fun _ => ⟨by omega, by omega, by omega⟩, fun _ => rfl⟩ | exact ⟨fun q => absurd q (by decide), fun q => by omega⟩
          · skip
            refine w_iload8 dX4_scatter_72 (wp_iconst dX4_scatter_74 (wp_irem dX4_scatter_75 (by omega) (by omega) (w_iload4 dX4_scatter_76 ?_)))
            refine wp_icmp_gt 85 dX4_scatter_78 rfl ⟨by omega, by omega⟩ ⟨by omega, by omega⟩ (fun c78 => ?_) (fun c78 => ?_)
            · skip
              refine wp_iconst dX4_scatter_85 ?_
              refine L86 _ (by omega) ⟨by first | exact Or.inl rfl | exact Or.inr rfl, ?_⟩
              unfold zdok
              first | exact ⟨fun _ => ⟨by omega, by omega, by omega⟩, fun _ => rfl⟩ | exact ⟨fun q => absurd q (by decide), fun q => by omega⟩
            · skip
              refine wp_iconst dX4_scatter_81 (wp_goto 86 dX4_scatter_82 rfl ?_)
              refine L86 _ (by omega) ⟨by first | exact Or.inl rfl | exact Or.inr rfl, ?_⟩
              unfold zdok
              first | exact ⟨fun _ => ⟨by omega, by omega, by omega⟩, fun _ => rfl⟩ | exact ⟨fun q => absurd q (by decide), fun q => by omega⟩
    refine w_iload7 dX4_scatter_15 (wp_iconst dX4_scatter_17 ?_)
    refine wp_icmp_ge 153 dX4_scatter_18 rfl ⟨by omega, by omega⟩ ⟨by omega, by omega⟩ (fun c18 => ?_) (fun c18 => ?_)
    · skip
      refine r_v dX4_scatter_153 rfl meX4_scatter ?_
      rw [hh, show k = 3 by omega]
    · skip
      refine wp_iconst dX4_scatter_21 (w_istore8 dX4_scatter_22 rfl (by decide) ?_)
      refine L24 _ 0 _ 0 rfl (Nat.zero_le _) rfl (by omega) ?_
      rw [hh]
      funext b j
      by_cases e : (a + 2 ≤ b ∧ b < a + 2 + k) ∧ j < 27
      · rw [if_pos e, if_pos (Or.inl e)]
      · rw [if_neg e, if_neg (by omega)]
  refine w_aload0 dX4_scatter_0 (wp_geti dX4_scatter_1 fl_RX4_9 (zPo_is ha) (wp_iconst dX4_scatter_4 ?_))
  refine wp_icmp_ge 9 dX4_scatter_5 rfl ⟨by omega, by omega⟩ ⟨by omega, by omega⟩ (fun c5 => ?_) (fun c5 => absurd c5 (by omega))
  refine w_iload1 dX4_scatter_9 (w_istore6 dX4_scatter_10 rfl (by decide) (wp_iconst dX4_scatter_12 (w_istore7 dX4_scatter_13 rfl (by decide) ?_)))
  refine w_forget1 ?_
  exact L15 _ 0 h 0 rfl (Nat.zero_le _) rfl (by funext b j; rw [if_neg (by omega)])
