
def zf1 (C : Nat → Int) (q : Nat) : Int := if q / 18 + q % 6 / 3 ≤ 1 then C (9 * (q / 18 + q % 6 / 3 + 1) + 3 * (q % 18 / 6) + q % 3) else 0
def zf2 (C : Nat → Int) (q : Nat) : Int := if q / 18 + q % 6 / 3 ≤ 1 then C (9 * (q % 18 / 6) + 3 * (q / 18 + q % 6 / 3 + 1) + q % 3) else 0
/-- what is written when the loops stand at i, j, e, u -/
def zW1 (i j e u q : Nat) : Bool := decide (q / 18 + q % 6 / 3 + 1 < i) || (decide (q / 18 + q % 6 / 3 + 1 = i) && (decide (q % 18 / 6 < j) || (decide (q % 18 / 6 = j) && (decide (q % 3 < e) || (decide (q % 3 = e) && decide (q / 18 < u))))))
theorem zW1_s : ∀ i, i < 3 → ∀ j, j < 3 → ∀ e, e < 3 → ∀ u, u < i → ∀ q, q < 36 → zW1 i j e (u + 1) q = (zW1 i j e u q || decide (q = 18 * u + 6 * j + 3 * (i - 1 - u) + e)) := by decide +kernel
theorem zW1_u : ∀ i, i < 3 → ∀ j, j < 3 → ∀ e, e < 3 → ∀ q, q < 36 → zW1 i j (e + 1) 0 q = zW1 i j e i q := by decide +kernel
theorem zW1_e : ∀ i, i < 3 → ∀ j, j < 3 → ∀ q, q < 36 → zW1 i (j + 1) 0 0 q = zW1 i j 3 0 q := by decide +kernel
theorem zW1_j : ∀ i, i < 3 → ∀ q, q < 36 → zW1 (i + 1) 0 0 0 q = zW1 i 3 0 0 q := by decide +kernel
theorem zW1_0 : ∀ q, q < 36 → zW1 1 0 0 0 q = false := by decide +kernel
theorem zW1_3 : ∀ q, q < 36 → zW1 3 0 0 0 q = decide (q / 18 + q % 6 / 3 ≤ 1) := by decide +kernel
theorem zW1_v : ∀ i, i < 3 → ∀ j, j < 3 → ∀ e, e < 3 → ∀ u, u < i → (18 * u + 6 * j + 3 * (i - 1 - u) + e) / 18 + (18 * u + 6 * j + 3 * (i - 1 - u) + e) % 6 / 3 ≤ 1 ∧ 9 * ((18 * u + 6 * j + 3 * (i - 1 - u) + e) / 18 + (18 * u + 6 * j + 3 * (i - 1 - u) + e) % 6 / 3 + 1) + 3 * ((18 * u + 6 * j + 3 * (i - 1 - u) + e) % 18 / 6) + (18 * u + 6 * j + 3 * (i - 1 - u) + e) % 3 = 9 * i + 3 * j + e := by decide +kernel
/-- the same for the second differences: the loops stand at i, j, e, u -/
def zW2 (i j e u q : Nat) : Bool := decide (q % 18 / 6 < i) || (decide (q % 18 / 6 = i) && (decide (q / 18 + q % 6 / 3 + 1 < j) || (decide (q / 18 + q % 6 / 3 + 1 = j) && (decide (q % 3 < e) || (decide (q % 3 = e) && decide (q / 18 < u))))))
theorem zW2_s : ∀ i, i < 3 → ∀ j, j < 3 → ∀ e, e < 3 → ∀ u, u < j → ∀ q, q < 36 → zW2 i j e (u + 1) q = (zW2 i j e u q || decide (q = 18 * u + 6 * i + 3 * (j - 1 - u) + e)) := by decide +kernel
theorem zW2_u : ∀ i, i < 3 → ∀ j, j < 3 → ∀ e, e < 3 → ∀ q, q < 36 → zW2 i j (e + 1) 0 q = zW2 i j e j q := by decide +kernel
theorem zW2_e : ∀ i, i < 3 → ∀ j, j < 3 → ∀ q, q < 36 → zW2 i (j + 1) 0 0 q = zW2 i j 3 0 q := by decide +kernel
theorem zW2_j : ∀ i, i < 3 → ∀ q, q < 36 → (zW2 (i + 1) 1 0 0 q && decide (q / 18 + q % 6 / 3 ≤ 1)) = (zW2 i 3 0 0 q && decide (q / 18 + q % 6 / 3 ≤ 1)) := by decide +kernel
theorem zW2_0 : ∀ q, q < 36 → zW2 0 1 0 0 q = false := by decide +kernel
theorem zW2_3 : ∀ q, q < 36 → zW2 3 1 0 0 q = true := by decide +kernel
theorem zW2_v : ∀ i, i < 3 → ∀ j, j < 3 → ∀ e, e < 3 → ∀ u, u < j → (18 * u + 6 * i + 3 * (j - 1 - u) + e) / 18 + (18 * u + 6 * i + 3 * (j - 1 - u) + e) % 6 / 3 ≤ 1 ∧ 9 * ((18 * u + 6 * i + 3 * (j - 1 - u) + e) % 18 / 6) + 3 * ((18 * u + 6 * i + 3 * (j - 1 - u) + e) / 18 + (18 * u + 6 * i + 3 * (j - 1 - u) + e) % 6 / 3 + 1) + (18 * u + 6 * i + 3 * (j - 1 - u) + e) % 3 = 9 * i + 3 * j + e := by decide +kernel
/-- a piece of 36 numbers rewritten -/
def zpc6 (h : zH) (a k : Nat) (F : Nat → Int) : zH := fun b x => if b = a ∧ 36 * k ≤ x ∧ x < 36 * k + 36 then F (x - 36 * k) else h b x
theorem zpc6_o {h : zH} {a k : Nat} {F : Nat → Int} {b x : Nat} (e : ¬ (b = a ∧ 36 * k ≤ x ∧ x < 36 * k + 36)) : zpc6 h a k F b x = h b x := if_neg e
theorem zpc6_c {h : zH} {a k : Nat} {F G : Nat → Int} (e : ∀ q, q < 36 → F q = G q) : zpc6 h a k F = zpc6 h a k G := by
  funext b x
  unfold zpc6
  split
  · exact e _ (by omega)
  · rfl
theorem zpc6_u {h : zH} {a k q : Nat} (hq : q < 36) {F : Nat → Int} {v : Int} : zup (zpc6 h a k F) a (36 * k + q) v = zpc6 h a k (fun r => if r = q then v else F r) := by
  funext b x
  by_cases e : b = a ∧ x = 36 * k + q
  · rw [e.1, e.2, zup_s]
    unfold zpc6
    rw [if_pos (by omega)]
    dsimp only
    rw [if_pos (by omega)]
  · rw [zup_o e]
    unfold zpc6
    by_cases e2 : b = a ∧ 36 * k ≤ x ∧ x < 36 * k + 36
    · rw [if_pos e2, if_pos e2]
      dsimp only
      rw [if_neg (by omega)]
    · rw [if_neg e2, if_neg e2]
def zw1v (C : Nat → Int) (i j e u q : Nat) : Int := if zW1 i j e u q = true then zf1 C q else 0
def zw2v (C : Nat → Int) (i j e u q : Nat) : Int := if zW2 i j e u q = true then zf2 C q else 0
/-- products of two rows of 36 -/
def zix (q r : Nat) : Nat := (((4 * (q / 18) + (q % 18 / 6 + r / 18)) * 4 + (q % 6 / 3 + r % 18 / 6)) * 2 + r % 6 / 3) * 5 + q % 3 + r % 3
theorem zix_e (q r : Nat) : (((4 * ((q : Int) / 18) + ((q : Int) % 18 / 6 + (r : Int) / 18)) * 4 + ((q : Int) % 6 / 3 + (r : Int) % 18 / 6)) * 2 + (r : Int) % 6 / 3) * 5 + (q : Int) % 3 + (r : Int) % 3 = (zix q r : Int) := by
  unfold zix
  push_cast
  rfl
theorem zix_lt {q r : Nat} (hq : q < 36) (hr : r < 36) : zix q r < 320 := by
  unfold zix
  omega
def zmT (F S : Nat → Int) (i q r : Nat) : Int := if zix q r = i then F q * S r else 0
def zmG (F S : Nat → Int) (i q : Nat) : Int := zsi (zmT F S i q) 36
def zmu (F S : Nat → Int) (i : Nat) : Int := zsi (zmG F S i) 36
theorem zmG_z {F S : Nat → Int} {i q : Nat} (h : F q = 0) : zmG F S i q = 0 := zsi_z 36 (fun r _ => by unfold zmT; rw [h, Int.zero_mul]; split <;> rfl)
def zjx (q r : Nat) : Nat := ((6 * (q / 40) + (q % 40 / 10 + r / 9)) * 4 + (q % 10 / 5 + r % 9 / 3)) * 7 + q % 5 + r % 3
theorem zjx_e (q r : Nat) : ((6 * ((q : Int) / 40) + ((q : Int) % 40 / 10 + (r : Int) / 9)) * 4 + ((q : Int) % 10 / 5 + (r : Int) % 9 / 3)) * 7 + (q : Int) % 5 + (r : Int) % 3 = (zjx q r : Int) := by
  unfold zjx
  push_cast
  rfl
theorem zjx_lt {q r : Nat} (hq : q < 320) (hr : r < 27) : zjx q r < 1344 := by
  unfold zjx
  omega
def zaT (P C : Nat → Int) (i q r : Nat) : Int := if zjx q r = i then P q * C r else 0
def zaG (P C : Nat → Int) (i q : Nat) : Int := zsi (zaT P C i q) 27
def zadp (P C : Nat → Int) (i : Nat) : Int := zsi (zaG P C i) 320
theorem zaG_z {P C : Nat → Int} {i q : Nat} (h : P q = 0) : zaG P C i q = 0 := zsi_z 27 (fun r _ => by unfold zaT; rw [h, Int.zero_mul]; split <;> rfl)
theorem zfl_up {h : zH} {a n j : Nat} (hj : j < n) {F : Nat → Int} {v : Int} : zup (zfl h a n F) a j v = zfl h a n (fun i => if i = j then v else F i) := by
  funext b x
  by_cases e : b = a ∧ x = j
  · rw [e.1, e.2, zup_s, zfl_i hj, if_pos rfl]
  · rw [zup_o e]
    by_cases e2 : b = a ∧ x < n
    · rw [e2.1, zfl_i e2.2, zfl_i e2.2, if_neg (by omega)]
    · rw [zfl_o e2, zfl_o e2]
/-- the pairs, the Dixon polynomial -/
def zPp (p : Int) (c : Nat → Nat → Int) (k i : Nat) : Int := (zmu (zf1 (c ((k + 1) % 3))) (zf2 (c ((k + 2) % 3))) i + -1 * zmu (zf1 (c ((k + 2) % 3))) (zf2 (c ((k + 1) % 3))) i) % p
def zDd (p : Int) (c : Nat → Nat → Int) (i : Nat) : Int := zsi (fun k => zadp (zPp p c k) (c k) i) 3 % p
def zps9 (m r q : Nat) : Nat := ((6 * (4 * (r % m) + r / m) + q % (2 * m)) * 4 + q / (2 * m)) * 7
theorem zf1_in {p : Int} {C : Nat → Int} (h : ∀ j, 0 ≤ C j ∧ C j < p) (hp : 0 < p) (q : Nat) : 0 ≤ zf1 C q ∧ zf1 C q < p := by
  unfold zf1
  split
  · exact h _
  · omega
theorem zf2_in {p : Int} {C : Nat → Int} (h : ∀ j, 0 ≤ C j ∧ C j < p) (hp : 0 < p) (q : Nat) : 0 ≤ zf2 C q ∧ zf2 C q < p := by
  unfold zf2
  split
  · exact h _
  · omega
def zFdx (a _j : Nat) : Prop := 450 ≤ a ∧ a ≤ 454
theorem zps9_lt {m r q e : Nat} (hm : m = 1 ∨ m = 2) (hr : r < 8) (hr2 : r / m < 4) (hq : q / (2 * m) < 4) (he : e < 7) : zps9 m r q + e < 1344 := by
  unfold zps9
  rcases hm with rfl | rfl <;> omega

theorem zw2_j {C : Nat → Int} {i q : Nat} (hi : i < 3) (hq : q < 36) : zw2v C (i + 1) 1 0 0 q = zw2v C i 3 0 0 q := by
  have h := zW2_j i hi q hq
  unfold zw2v zf2
  by_cases w : q / 18 + q % 6 / 3 ≤ 1
  · rw [decide_eq_true w, Bool.and_true, Bool.and_true] at h
    rw [h]
  · rw [if_neg w, ite_self, ite_self]

set_option maxRecDepth 100000 in
set_option maxHeartbeats 4000000 in
theorem t_X10_differsInX {h : zH} {kk : Int} {k : Nat} (hk : kk = k) (hk3 : k < 3) {p : Int} {c : Nat → Nat → Int} (hs : zSt p c) (hR : zMr p c h) : CV yX10_differsInX mX10_differsInX [vR 445, vI kk] h (fun h' => h' = zpc6 h 450 k (zf1 (c k))) := by
  refine inV [some (vR 445), some (vI kk), none, none, none, none] mvX10_differsInX rfl (Nat.le_of_ble_eq_true rfl) rfl ?_
  have L28 : ∀ (zm28 : Nat) (i : Nat) (h' : zH), 3 - i = zm28 → (1 ≤ i ∧ i ≤ 3) → (h' = zpc6 h 450 k (zw1v (c k) i 0 0 0)) → WP mX10_differsInX (zMQ mX10_differsInX (zKV (fun h' => h' = zpc6 h 450 k (zf1 (c k))))) 28 [some (vR 445), some (vI kk), some (vI (i : Int)), none, none, none] [] zN zGR h' := by
    intro zm28
    induction zm28 using Nat.strongRecOn with | _ zm28 ih28 => ?_
    intro i h' hzm28 hi hh
    subst hzm28
    have L35 : ∀ (zm35 : Nat) (j : Nat) (h2 : zH), 3 - j = zm35 → (i < 3) → (0 ≤ j ∧ j ≤ 3) → (h2 = zpc6 h 450 k (zw1v (c k) i j 0 0)) → WP mX10_differsInX (zMQ mX10_differsInX (zKV (fun h' => h' = zpc6 h 450 k (zf1 (c k))))) 35 [some (vR 445), some (vI kk), some (vI (i : Int)), some (vI (j : Int)), none, none] [] zN zGR h2 := by
      intro zm35
      induction zm35 using Nat.strongRecOn with | _ zm35 ih35 => ?_
      intro j h2 hzm35 hi3 hj hh2
      subst hzm35
      have L43 : ∀ (zm43 : Nat) (e : Nat) (h3 : zH), 3 - e = zm43 → (j < 3) → (e ≤ 3) → (h3 = zpc6 h 450 k (zw1v (c k) i j e 0)) → WP mX10_differsInX (zMQ mX10_differsInX (zKV (fun h' => h' = zpc6 h 450 k (zf1 (c k))))) 43 [some (vR 445), some (vI kk), some (vI (i : Int)), some (vI (j : Int)), some (vI (e : Int)), none] [] zN zGR h3 := by
        intro zm43
        induction zm43 using Nat.strongRecOn with | _ zm43 ih43 => ?_
        intro e h3 hzm43 hj3 he hh3
        subst hzm43
        have L52 : ∀ (zm52 : Nat) (u : Nat) (h4 : zH), i - u = zm52 → (e < 3) → (u ≤ i) → (h4 = zpc6 h 450 k (zw1v (c k) i j e u)) → WP mX10_differsInX (zMQ mX10_differsInX (zKV (fun h' => h' = zpc6 h 450 k (zf1 (c k))))) 52 [some (vR 445), some (vI kk), some (vI (i : Int)), some (vI (j : Int)), some (vI (e : Int)), some (vI (u : Int))] [] zN zGR h4 := by
          intro zm52
          induction zm52 using Nat.strongRecOn with | _ zm52 ih52 => ?_
          intro u h4 hzm52 he3 hu hh4
          subst hzm52
          have hR4 : zMr p c h4 := zMr_fr hR (fun x _ => by rw [hh4, zpc6_o (by omega)])
          refine w_iload5 dX10_differsInX_52 (w_iload2 dX10_differsInX_54 ?_)
          refine wp_icmp_ge 105 dX10_differsInX_55 rfl ⟨by omega, by omega⟩ ⟨by omega, by omega⟩ (fun c55 => ?_) (fun c55 => ?_)
          · skip
            refine w_iinc4 dX10_differsInX_105 rfl (by decide) (wp_goto 43 dX10_differsInX_108 rfl ?_)
            refine w_forget5 ?_
            refine ih43 _ (by omega) (e + 1) _ rfl hj3 (by omega) ?_
            rw [hh4, show u = i by omega]
            refine zpc6_c (fun q hq => ?_)
            unfold zw1v
            rw [zW1_u i hi3 j hj3 e he3 q hq]
          · skip
            refine w_aload0 dX10_differsInX_58 (wp_getr 450 dX10_differsInX_59 fl_RX10_22 is_445 rfl (wp_bipush dX10_differsInX_62 (by decide) (w_iload1 dX10_differsInX_64 (wp_imul dX10_differsInX_65 (wp_bipush dX10_differsInX_66 (by decide) (w_iload5 dX10_differsInX_68 (wp_imul dX10_differsInX_70 (wp_iadd dX10_differsInX_71 (wp_bipush dX10_differsInX_72 (by decide) ?_)))))))))
            refine w_iload3 dX10_differsInX_74 (wp_imul dX10_differsInX_75 (wp_iadd dX10_differsInX_76 (wp_iconst dX10_differsInX_77 (w_iload2 dX10_differsInX_78 (wp_iconst dX10_differsInX_79 (wp_isub dX10_differsInX_80 (w_iload5 dX10_differsInX_81 (wp_isub dX10_differsInX_83 (wp_imul dX10_differsInX_84 ?_)))))))))
            refine wp_iadd dX10_differsInX_85 (w_iload4 dX10_differsInX_86 (wp_iadd dX10_differsInX_88 (w_aload0 dX10_differsInX_89 (w_iload1 dX10_differsInX_90 (w_iload2 dX10_differsInX_91 (w_iload3 dX10_differsInX_92 (w_iload4 dX10_differsInX_93 ?_)))))))
            apply v_i4 (M := mX10_differsInX) dX10_differsInX_95 lk_RX10_146 mvX10_of (by decide) meX10_differsInX is_445 (Nat.le_of_ble_eq_true rfl)
            · exact t_X10_of (k := k) (w := 9 * i + 3 * j + e) hk hk3 (by omega) (by omega) hR4
            intro x95 h95 hP95
            obtain ⟨eh95, ex95⟩ := hP95
            replace eh95 := eh95.symm
            subst eh95
            replace ex95 := ex95.symm
            subst ex95
            refine x_iast (36 * k + (18 * u + 6 * j + 3 * (i - 1 - u) + e)) dX10_differsInX_98 is_450 (by omega) (by omega) (w_iinc5 dX10_differsInX_99 rfl (by decide) (wp_goto 52 dX10_differsInX_102 rfl ?_))
            refine ih52 _ (by omega) (u + 1) _ rfl he3 (by omega) ?_
            rw [hh4, zpc6_u (by omega)]
            refine zpc6_c (fun q hq => ?_)
            have hv := zW1_v i hi3 j hj3 e he3 u (by omega)
            unfold zw1v
            rw [zW1_s i hi3 j hj3 e he3 u (by omega) q hq]
            by_cases w : q = 18 * u + 6 * j + 3 * (i - 1 - u) + e
            · rw [if_pos w, if_pos (by simp [w]), w]
              unfold zf1
              rw [if_pos hv.1, hv.2]
            · rw [if_neg w]
              simp [w]
        refine w_iload4 dX10_differsInX_43 (wp_iconst dX10_differsInX_45 ?_)
        refine wp_icmp_ge 111 dX10_differsInX_46 rfl ⟨by omega, by omega⟩ ⟨by omega, by omega⟩ (fun c46 => ?_) (fun c46 => ?_)
        · skip
          refine w_iinc3 dX10_differsInX_111 rfl (by decide) (wp_goto 35 dX10_differsInX_114 rfl ?_)
          refine w_forget4 ?_
          refine ih35 _ (by omega) (j + 1) _ rfl (by omega) (by omega) ?_
          rw [hh3, show e = 3 by omega]
          refine zpc6_c (fun q hq => ?_)
          unfold zw1v
          rw [zW1_e i hi3 j hj3 q hq]
        · skip
          refine wp_iconst dX10_differsInX_49 (w_istore5 dX10_differsInX_50 rfl (by decide) ?_)
          exact L52 _ 0 _ rfl (by omega) (Nat.zero_le _) hh3
      refine w_iload3 dX10_differsInX_35 (wp_iconst dX10_differsInX_36 ?_)
      refine wp_icmp_ge 117 dX10_differsInX_37 rfl ⟨by omega, by omega⟩ ⟨by omega, by omega⟩ (fun c37 => ?_) (fun c37 => ?_)
      · skip
        refine w_iinc2 dX10_differsInX_117 rfl (by decide) (wp_goto 28 dX10_differsInX_120 rfl ?_)
        refine w_forget3 ?_
        refine ih28 _ (by omega) (i + 1) _ rfl (by omega) ?_
        rw [hh2, show j = 3 by omega]
        refine zpc6_c (fun q hq => ?_)
        unfold zw1v
        rw [zW1_j i (by omega) q hq]
      · skip
        refine wp_iconst dX10_differsInX_40 (w_istore4 dX10_differsInX_41 rfl (by decide) ?_)
        exact L43 _ 0 _ rfl (by omega) (Nat.zero_le _) hh2
    refine w_iload2 dX10_differsInX_28 (wp_iconst dX10_differsInX_29 ?_)
    refine wp_icmp_ge 123 dX10_differsInX_30 rfl ⟨by omega, by omega⟩ ⟨by omega, by omega⟩ (fun c30 => ?_) (fun c30 => ?_)
    · skip
      refine r_v dX10_differsInX_123 rfl meX10_differsInX ?_
      rw [hh, show i = 3 by omega]
      refine zpc6_c (fun q hq => ?_)
      unfold zw1v zf1
      rw [zW1_3 q hq]
      by_cases w : q / 18 + q % 6 / 3 ≤ 1
      · rw [if_pos (by simp [w])]
      · rw [if_neg (by simp [w]), if_neg w]
    · skip
      refine wp_iconst dX10_differsInX_33 (w_istore3 dX10_differsInX_34 rfl (by decide) ?_)
      exact L35 _ 0 _ rfl (by omega) (by omega) hh
  have L2 : ∀ (zm2 : Nat) (q : Nat) (h' : zH), 36 - q = zm2 → (q ≤ 36) → (h' = fun b x => if b = 450 ∧ 36 * k ≤ x ∧ x < 36 * k + q then 0 else h b x) → WP mX10_differsInX (zMQ mX10_differsInX (zKV (fun h' => h' = zpc6 h 450 k (zf1 (c k))))) 2 [some (vR 445), some (vI kk), some (vI (q : Int)), none, none, none] [] zN zGR h' := by
    intro zm2
    induction zm2 using Nat.strongRecOn with | _ zm2 ih2 => ?_
    intro q h' hzm2 hq hh
    subst hzm2
    refine w_iload2 dX10_differsInX_2 (wp_bipush dX10_differsInX_3 (by decide) ?_)
    refine wp_icmp_ge 26 dX10_differsInX_5 rfl ⟨by omega, by omega⟩ ⟨by omega, by omega⟩ (fun c5 => ?_) (fun c5 => ?_)
    · skip
      refine wp_iconst dX10_differsInX_26 (w_istore2 dX10_differsInX_27 rfl (by decide) ?_)
      refine L28 _ 1 _ rfl (by omega) ?_
      rw [hh, show q = 36 by omega]
      funext b x
      unfold zpc6
      by_cases e : b = 450 ∧ 36 * k ≤ x ∧ x < 36 * k + 36
      · rw [if_pos e, if_pos e]
        unfold zw1v
        rw [zW1_0 _ (by omega), if_neg (by decide)]
      · rw [if_neg e, if_neg e]
    · skip
      refine w_aload0 dX10_differsInX_8 (wp_getr 450 dX10_differsInX_9 fl_RX10_22 is_445 rfl (wp_bipush dX10_differsInX_12 (by decide) (w_iload1 dX10_differsInX_14 (wp_imul dX10_differsInX_15 (w_iload2 dX10_differsInX_16 (wp_iadd dX10_differsInX_17 (wp_iconst dX10_differsInX_18 (x_iast (36 * k + q) dX10_differsInX_19 is_450 (by omega) (by omega) (w_iinc2 dX10_differsInX_20 rfl (by decide) ?_)))))))))
      refine wp_goto 2 dX10_differsInX_23 rfl ?_
      refine ih2 _ (by omega) (q + 1) _ rfl (by omega) ?_
      rw [hh]
      funext b x
      by_cases e : b = 450 ∧ x = 36 * k + q
      · rw [e.1, e.2, zup_s, if_pos (by omega)]
      · rw [zup_o e]
        try dsimp only
        by_cases e2 : b = 450 ∧ 36 * k ≤ x ∧ x < 36 * k + q
        · rw [if_pos e2, if_pos (by omega)]
        · rw [if_neg e2, if_neg (by omega)]
  refine wp_iconst dX10_differsInX_0 (w_istore2 dX10_differsInX_1 rfl (by decide) ?_)
  exact L2 _ 0 _ rfl (Nat.zero_le _) (by funext b x; rw [if_neg (by omega)])
set_option maxRecDepth 100000 in
set_option maxHeartbeats 4000000 in
theorem t_X10_differsInY {h : zH} {kk : Int} {k : Nat} (hk : kk = k) (hk3 : k < 3) {p : Int} {c : Nat → Nat → Int} (hs : zSt p c) (hR : zMr p c h) : CV yX10_differsInY mX10_differsInY [vR 445, vI kk] h (fun h' => h' = zpc6 h 451 k (zf2 (c k))) := by
  refine inV [some (vR 445), some (vI kk), none, none, none, none] mvX10_differsInY rfl (Nat.le_of_ble_eq_true rfl) rfl ?_
  have L28 : ∀ (zm28 : Nat) (i : Nat) (h' : zH), 3 - i = zm28 → (0 ≤ i ∧ i ≤ 3) → (h' = zpc6 h 451 k (zw2v (c k) i 1 0 0)) → WP mX10_differsInY (zMQ mX10_differsInY (zKV (fun h' => h' = zpc6 h 451 k (zf2 (c k))))) 28 [some (vR 445), some (vI kk), some (vI (i : Int)), none, none, none] [] zN zGR h' := by
    intro zm28
    induction zm28 using Nat.strongRecOn with | _ zm28 ih28 => ?_
    intro i h' hzm28 hi hh
    subst hzm28
    have L35 : ∀ (zm35 : Nat) (j : Nat) (h2 : zH), 3 - j = zm35 → (i < 3) → (1 ≤ j ∧ j ≤ 3) → (h2 = zpc6 h 451 k (zw2v (c k) i j 0 0)) → WP mX10_differsInY (zMQ mX10_differsInY (zKV (fun h' => h' = zpc6 h 451 k (zf2 (c k))))) 35 [some (vR 445), some (vI kk), some (vI (i : Int)), some (vI (j : Int)), none, none] [] zN zGR h2 := by
      intro zm35
      induction zm35 using Nat.strongRecOn with | _ zm35 ih35 => ?_
      intro j h2 hzm35 hi3 hj hh2
      subst hzm35
      have L43 : ∀ (zm43 : Nat) (e : Nat) (h3 : zH), 3 - e = zm43 → (j < 3) → (e ≤ 3) → (h3 = zpc6 h 451 k (zw2v (c k) i j e 0)) → WP mX10_differsInY (zMQ mX10_differsInY (zKV (fun h' => h' = zpc6 h 451 k (zf2 (c k))))) 43 [some (vR 445), some (vI kk), some (vI (i : Int)), some (vI (j : Int)), some (vI (e : Int)), none] [] zN zGR h3 := by
        intro zm43
        induction zm43 using Nat.strongRecOn with | _ zm43 ih43 => ?_
        intro e h3 hzm43 hj3 he hh3
        subst hzm43
        have L52 : ∀ (zm52 : Nat) (u : Nat) (h4 : zH), j - u = zm52 → (e < 3) → (u ≤ j) → (h4 = zpc6 h 451 k (zw2v (c k) i j e u)) → WP mX10_differsInY (zMQ mX10_differsInY (zKV (fun h' => h' = zpc6 h 451 k (zf2 (c k))))) 52 [some (vR 445), some (vI kk), some (vI (i : Int)), some (vI (j : Int)), some (vI (e : Int)), some (vI (u : Int))] [] zN zGR h4 := by
          intro zm52
          induction zm52 using Nat.strongRecOn with | _ zm52 ih52 => ?_
          intro u h4 hzm52 he3 hu hh4
          subst hzm52
          have hR4 : zMr p c h4 := zMr_fr hR (fun x _ => by rw [hh4, zpc6_o (by omega)])
          refine w_iload5 dX10_differsInY_52 (w_iload3 dX10_differsInY_54 ?_)
          refine wp_icmp_ge 105 dX10_differsInY_55 rfl ⟨by omega, by omega⟩ ⟨by omega, by omega⟩ (fun c55 => ?_) (fun c55 => ?_)
          · skip
            refine w_iinc4 dX10_differsInY_105 rfl (by decide) (wp_goto 43 dX10_differsInY_108 rfl ?_)
            refine w_forget5 ?_
            refine ih43 _ (by omega) (e + 1) _ rfl hj3 (by omega) ?_
            rw [hh4, show u = j by omega]
            refine zpc6_c (fun q hq => ?_)
            unfold zw2v
            rw [zW2_u i hi3 j hj3 e he3 q hq]
          · skip
            refine w_aload0 dX10_differsInY_58 (wp_getr 451 dX10_differsInY_59 fl_RX10_25 is_445 rfl (wp_bipush dX10_differsInY_62 (by decide) (w_iload1 dX10_differsInY_64 (wp_imul dX10_differsInY_65 (wp_bipush dX10_differsInY_66 (by decide) (w_iload5 dX10_differsInY_68 (wp_imul dX10_differsInY_70 (wp_iadd dX10_differsInY_71 (wp_bipush dX10_differsInY_72 (by decide) ?_)))))))))
            refine w_iload2 dX10_differsInY_74 (wp_imul dX10_differsInY_75 (wp_iadd dX10_differsInY_76 (wp_iconst dX10_differsInY_77 (w_iload3 dX10_differsInY_78 (wp_iconst dX10_differsInY_79 (wp_isub dX10_differsInY_80 (w_iload5 dX10_differsInY_81 (wp_isub dX10_differsInY_83 (wp_imul dX10_differsInY_84 ?_)))))))))
            refine wp_iadd dX10_differsInY_85 (w_iload4 dX10_differsInY_86 (wp_iadd dX10_differsInY_88 (w_aload0 dX10_differsInY_89 (w_iload1 dX10_differsInY_90 (w_iload2 dX10_differsInY_91 (w_iload3 dX10_differsInY_92 (w_iload4 dX10_differsInY_93 ?_)))))))
            apply v_i4 (M := mX10_differsInY) dX10_differsInY_95 lk_RX10_146 mvX10_of (by decide) meX10_differsInY is_445 (Nat.le_of_ble_eq_true rfl)
            · exact t_X10_of (k := k) (w := 9 * i + 3 * j + e) hk hk3 (by omega) (by omega) hR4
            intro x95 h95 hP95
            obtain ⟨eh95, ex95⟩ := hP95
            replace eh95 := eh95.symm
            subst eh95
            replace ex95 := ex95.symm
            subst ex95
            refine x_iast (36 * k + (18 * u + 6 * i + 3 * (j - 1 - u) + e)) dX10_differsInY_98 is_451 (by omega) (by omega) (w_iinc5 dX10_differsInY_99 rfl (by decide) (wp_goto 52 dX10_differsInY_102 rfl ?_))
            refine ih52 _ (by omega) (u + 1) _ rfl he3 (by omega) ?_
            rw [hh4, zpc6_u (by omega)]
            refine zpc6_c (fun q hq => ?_)
            have hv := zW2_v i hi3 j hj3 e he3 u (by omega)
            unfold zw2v
            rw [zW2_s i hi3 j hj3 e he3 u (by omega) q hq]
            by_cases w : q = 18 * u + 6 * i + 3 * (j - 1 - u) + e
            · rw [if_pos w, if_pos (by simp [w]), w]
              unfold zf2
              rw [if_pos hv.1, hv.2]
            · rw [if_neg w]
              simp [w]
        refine w_iload4 dX10_differsInY_43 (wp_iconst dX10_differsInY_45 ?_)
        refine wp_icmp_ge 111 dX10_differsInY_46 rfl ⟨by omega, by omega⟩ ⟨by omega, by omega⟩ (fun c46 => ?_) (fun c46 => ?_)
        · skip
          refine w_iinc3 dX10_differsInY_111 rfl (by decide) (wp_goto 35 dX10_differsInY_114 rfl ?_)
          refine w_forget4 ?_
          refine ih35 _ (by omega) (j + 1) _ rfl (by omega) (by omega) ?_
          rw [hh3, show e = 3 by omega]
          refine zpc6_c (fun q hq => ?_)
          unfold zw2v
          rw [zW2_e i hi3 j hj3 q hq]
        · skip
          refine wp_iconst dX10_differsInY_49 (w_istore5 dX10_differsInY_50 rfl (by decide) ?_)
          exact L52 _ 0 _ rfl (by omega) (Nat.zero_le _) hh3
      refine w_iload3 dX10_differsInY_35 (wp_iconst dX10_differsInY_36 ?_)
      refine wp_icmp_ge 117 dX10_differsInY_37 rfl ⟨by omega, by omega⟩ ⟨by omega, by omega⟩ (fun c37 => ?_) (fun c37 => ?_)
      · skip
        refine w_iinc2 dX10_differsInY_117 rfl (by decide) (wp_goto 28 dX10_differsInY_120 rfl ?_)
        refine w_forget3 ?_
        refine ih28 _ (by omega) (i + 1) _ rfl (by omega) ?_
        rw [hh2, show j = 3 by omega]
        refine zpc6_c (fun q hq => ?_)
        exact (zw2_j (C := c k) hi3 hq).symm
      · skip
        refine wp_iconst dX10_differsInY_40 (w_istore4 dX10_differsInY_41 rfl (by decide) ?_)
        exact L43 _ 0 _ rfl (by omega) (Nat.zero_le _) hh2
    refine w_iload2 dX10_differsInY_28 (wp_iconst dX10_differsInY_29 ?_)
    refine wp_icmp_ge 123 dX10_differsInY_30 rfl ⟨by omega, by omega⟩ ⟨by omega, by omega⟩ (fun c30 => ?_) (fun c30 => ?_)
    · skip
      refine r_v dX10_differsInY_123 rfl meX10_differsInY ?_
      rw [hh, show i = 3 by omega]
      refine zpc6_c (fun q hq => ?_)
      unfold zw2v zf2
      rw [zW2_3 q hq]
      rw [if_pos rfl]
    · skip
      refine wp_iconst dX10_differsInY_33 (w_istore3 dX10_differsInY_34 rfl (by decide) ?_)
      exact L35 _ 1 _ rfl (by omega) (by omega) hh
  have L2 : ∀ (zm2 : Nat) (q : Nat) (h' : zH), 36 - q = zm2 → (q ≤ 36) → (h' = fun b x => if b = 451 ∧ 36 * k ≤ x ∧ x < 36 * k + q then 0 else h b x) → WP mX10_differsInY (zMQ mX10_differsInY (zKV (fun h' => h' = zpc6 h 451 k (zf2 (c k))))) 2 [some (vR 445), some (vI kk), some (vI (q : Int)), none, none, none] [] zN zGR h' := by
    intro zm2
    induction zm2 using Nat.strongRecOn with | _ zm2 ih2 => ?_
    intro q h' hzm2 hq hh
    subst hzm2
    refine w_iload2 dX10_differsInY_2 (wp_bipush dX10_differsInY_3 (by decide) ?_)
    refine wp_icmp_ge 26 dX10_differsInY_5 rfl ⟨by omega, by omega⟩ ⟨by omega, by omega⟩ (fun c5 => ?_) (fun c5 => ?_)
    · skip
      refine wp_iconst dX10_differsInY_26 (w_istore2 dX10_differsInY_27 rfl (by decide) ?_)
      refine L28 _ 0 _ rfl (by omega) ?_
      rw [hh, show q = 36 by omega]
      funext b x
      unfold zpc6
      by_cases e : b = 451 ∧ 36 * k ≤ x ∧ x < 36 * k + 36
      · rw [if_pos e, if_pos e]
        unfold zw2v
        rw [zW2_0 _ (by omega), if_neg (by decide)]
      · rw [if_neg e, if_neg e]
    · skip
      refine w_aload0 dX10_differsInY_8 (wp_getr 451 dX10_differsInY_9 fl_RX10_25 is_445 rfl (wp_bipush dX10_differsInY_12 (by decide) (w_iload1 dX10_differsInY_14 (wp_imul dX10_differsInY_15 (w_iload2 dX10_differsInY_16 (wp_iadd dX10_differsInY_17 (wp_iconst dX10_differsInY_18 (x_iast (36 * k + q) dX10_differsInY_19 is_451 (by omega) (by omega) (w_iinc2 dX10_differsInY_20 rfl (by decide) ?_)))))))))
      refine wp_goto 2 dX10_differsInY_23 rfl ?_
      refine ih2 _ (by omega) (q + 1) _ rfl (by omega) ?_
      rw [hh]
      funext b x
      by_cases e : b = 451 ∧ x = 36 * k + q
      · rw [e.1, e.2, zup_s, if_pos (by omega)]
      · rw [zup_o e]
        try dsimp only
        by_cases e2 : b = 451 ∧ 36 * k ≤ x ∧ x < 36 * k + q
        · rw [if_pos e2, if_pos (by omega)]
        · rw [if_neg e2, if_neg (by omega)]
  refine wp_iconst dX10_differsInY_0 (w_istore2 dX10_differsInY_1 rfl (by decide) ?_)
  exact L2 _ 0 _ rfl (Nat.zero_le _) (by funext b x; rw [if_neg (by omega)])
set_option maxRecDepth 100000 in
set_option maxHeartbeats 4000000 in
theorem t_X10_multiplies {h : zH} {kk ll sg p : Int} {k l : Nat} (hk : kk = k) (hk3 : k < 3) (hl : ll = l) (hl3 : l < 3) (hsg : sg = 1 ∨ sg = -1) (hp : 5 ≤ p ∧ p ≤ 31) (hp0 : h 446 0 = p) {F S P : Nat → Int} (hF : ∀ q, q < 36 → h 450 (36 * k + q) = F q ∧ 0 ≤ F q ∧ F q < p) (hS : ∀ q, q < 36 → h 451 (36 * l + q) = S q ∧ 0 ≤ S q ∧ S q < p) (hP : ∀ i, i < 640 → h 452 i = P i % p) : CV yX10_multiplies mX10_multiplies [vR 445, vI kk, vI ll, vI sg] h (fun h' => h' = zfl h 452 640 (fun i => (P i + sg * zmu F S i) % p)) := by
  refine inV [some (vR 445), some (vI kk), some (vI ll), some (vI sg), none, none, none, none, none, none, none, none, none] mvX10_multiplies rfl (Nat.le_of_ble_eq_true rfl) rfl ?_
  have hpp : 0 < p := by omega
  have L3 : ∀ (zm3 : Nat) (q : Nat) (h' : zH), 36 - q = zm3 → (q ≤ 36) → (h' = zfl h 452 640 (fun i => (P i + sg * zsi (zmG F S i) q) % p)) → WP mX10_multiplies (zMQ mX10_multiplies (zKV (fun h' => h' = zfl h 452 640 (fun i => (P i + sg * zmu F S i) % p)))) 3 [some (vR 445), some (vI kk), some (vI ll), some (vI sg), some (vI (q : Int)), none, none, none, none, none, none, none, none] [] zN zGR h' := by
    intro zm3
    induction zm3 using Nat.strongRecOn with | _ zm3 ih3 => ?_
    intro q h' hzm3 hq hh
    subst hzm3
    have g1 : q < 36 → h' 450 (36 * k + q) = F q := fun w => by rw [hh, zfl_o (by omega)]; exact (hF q w).1
    have L27 : ∀ (zm27 : Nat) (r : Nat) (h2 : zH), 36 - r = zm27 → (q < 36) → (r ≤ 36) → (h2 = zfl h 452 640 (fun i => (P i + sg * (zsi (zmG F S i) q + zsi (zmT F S i q) r)) % p)) → WP mX10_multiplies (zMQ mX10_multiplies (zKV (fun h' => h' = zfl h 452 640 (fun i => (P i + sg * zmu F S i) % p)))) 27 [some (vR 445), some (vI kk), some (vI ll), some (vI sg), some (vI (q : Int)), some (vI (F q)), some (vI (r : Int)), none, none, none, none, none, none] [] zN zGR h2 := by
      intro zm27
      induction zm27 using Nat.strongRecOn with | _ zm27 ih27 => ?_
      intro r h2 hzm27 hq36 hr hh2
      subst hzm27
      have g2 : r < 36 → h2 451 (36 * l + r) = S r := fun w => by rw [hh2, zfl_o (by omega)]; exact (hS r w).1
      have k2 : h2 446 0 = p := by rw [hh2, zfl_o (by omega)]; exact hp0
      have bF := (hF q hq36).2
      have bS := fun w => (hS r w).2
      refine w_iload6 dX10_multiplies_27 (wp_bipush dX10_multiplies_29 (by decide) ?_)
      refine wp_icmp_ge 171 dX10_multiplies_31 rfl ⟨by omega, by omega⟩ ⟨by omega, by omega⟩ (fun c31 => ?_) (fun c31 => ?_)
      · skip
        refine w_iinc4 dX10_multiplies_171 rfl (by decide) (wp_goto 3 dX10_multiplies_174 rfl ?_)
        refine w_forget5 ?_
        refine w_forget6 ?_
        refine ih3 _ (by omega) (q + 1) _ rfl (by omega) ?_
        rw [hh2]
        refine zfl_congr (fun i hi => ?_)
        show _ = (P i + sg * (zsi (zmG F S i) q + zmG F S i q)) % p
        first
        | (have c9 : F q = 0 := c36
           rw [zmG_z c9, Int.add_zero, show zsi (zmT F S i q) r = 0 from zsi_z r (fun r _ => by unfold zmT; rw [c9, Int.zero_mul]; split <;> rfl), Int.add_zero])
        | (rw [show r = 36 by omega]
           rfl)
      · skip
        refine w_iload5 dX10_multiplies_34 ?_
        refine wp_if_eq 171 dX10_multiplies_36 rfl ⟨by have := (hF q (by omega)).2; omega, by have := (hF q (by omega)).2; omega⟩ (fun c36 => ?_) (fun c36 => ?_)
        · skip
          refine w_iinc4 dX10_multiplies_171 rfl (by decide) (wp_goto 3 dX10_multiplies_174 rfl ?_)
          refine w_forget5 ?_
          refine w_forget6 ?_
          refine ih3 _ (by omega) (q + 1) _ rfl (by omega) ?_
          rw [hh2]
          refine zfl_congr (fun i hi => ?_)
          show _ = (P i + sg * (zsi (zmG F S i) q + zmG F S i q)) % p
          first
          | (have c9 : F q = 0 := c36
             rw [zmG_z c9, Int.add_zero, show zsi (zmT F S i q) r = 0 from zsi_z r (fun r _ => by unfold zmT; rw [c9, Int.zero_mul]; split <;> rfl), Int.add_zero])
          | (rw [show r = 36 by omega]
             rfl)
        · skip
          refine w_aload0 dX10_multiplies_39 (wp_getr 451 dX10_multiplies_40 fl_RX10_25 is_445 rfl (wp_bipush dX10_multiplies_43 (by decide) (w_iload2 dX10_multiplies_45 (wp_imul dX10_multiplies_46 (w_iload6 dX10_multiplies_47 (wp_iadd dX10_multiplies_49 (x_iald (36 * l + r) dX10_multiplies_50 is_451 (by omega) (by omega) ?_)))))))
          rw [g2 (by omega)]
          have bS2 := bS (by omega)
          refine w_istore7 dX10_multiplies_51 rfl (by decide) (w_iload7 dX10_multiplies_53 ?_)
          refine wp_if_eq 165 dX10_multiplies_55 rfl ⟨by omega, by omega⟩ (fun c55 => ?_) (fun c55 => ?_)
          · skip
            refine w_iinc6 dX10_multiplies_165 rfl (by decide) (wp_goto 27 dX10_multiplies_168 rfl ?_)
            refine w_forget7 ?_
            refine ih27 _ (by omega) (r + 1) _ rfl hq36 (by omega) ?_
            first
            | (have c9 : S r = 0 := c55
               rw [hh2]
               refine zfl_congr (fun i hi => ?_)
               show _ = (P i + sg * (zsi (zmG F S i) q + (zsi (zmT F S i q) r + zmT F S i q r))) % p
               have e5 : zmT F S i q r = 0 := by unfold zmT; rw [c9, Int.mul_zero]; split <;> rfl
               rw [e5, Int.add_zero])
            | (rw [hh2, zfl_up (by omega)]
               refine zfl_congr (fun i hi => ?_)
               show _ = (P i + sg * (zsi (zmG F S i) q + (zsi (zmT F S i q) r + zmT F S i q r))) % p
               by_cases w : i = zix q r
               · have e5 : zmT F S i q r = F q * S r := by unfold zmT; rw [if_pos w.symm]
                 rw [if_pos w, e5, w, Int.emod_add_emod]
                 refine congrArg (fun z => z % p) ?_
                 generalize zsi (zmG F S (zix q r)) q = A
                 generalize zsi (zmT F S (zix q r) q) r = B
                 generalize P (zix q r) = D
                 grind
               · have e5 : zmT F S i q r = 0 := by unfold zmT; rw [if_neg (fun z => w z.symm)]
                 rw [if_neg w, e5, Int.add_zero])
          · skip
            refine w_iload4 dX10_multiplies_58 (wp_bipush dX10_multiplies_60 (by decide) (wp_idiv dX10_multiplies_62 (by omega) (by omega) (w_istore8 dX10_multiplies_63 rfl (by decide) (w_iload4 dX10_multiplies_65 (wp_bipush dX10_multiplies_67 (by decide) (wp_irem dX10_multiplies_69 (by omega) (by omega) (wp_bipush dX10_multiplies_70 (by decide) (wp_idiv dX10_multiplies_72 (by omega) (by omega) (w_iload6 dX10_multiplies_73 ?_)))))))))
            refine wp_bipush dX10_multiplies_75 (by decide) (wp_idiv dX10_multiplies_77 (by omega) (by omega) (wp_iadd dX10_multiplies_78 (w_istore9 dX10_multiplies_79 rfl (by decide) (w_iload4 dX10_multiplies_81 (wp_bipush dX10_multiplies_83 (by decide) (wp_irem dX10_multiplies_85 (by omega) (by omega) (wp_iconst dX10_multiplies_86 (wp_idiv dX10_multiplies_87 (by omega) (by omega) (w_iload6 dX10_multiplies_88 ?_)))))))))
            refine wp_bipush dX10_multiplies_90 (by decide) (wp_irem dX10_multiplies_92 (by omega) (by omega) (wp_bipush dX10_multiplies_93 (by decide) (wp_idiv dX10_multiplies_95 (by omega) (by omega) (wp_iadd dX10_multiplies_96 (w_istore10 dX10_multiplies_97 rfl (by decide) (w_iload6 dX10_multiplies_99 (wp_bipush dX10_multiplies_101 (by decide) (wp_irem dX10_multiplies_103 (by omega) (by omega) (wp_iconst dX10_multiplies_104 ?_)))))))))
            refine wp_idiv dX10_multiplies_105 (by omega) (by omega) (w_istore11 dX10_multiplies_106 rfl (by decide) (wp_iconst dX10_multiplies_108 (w_iload8 dX10_multiplies_109 (wp_imul dX10_multiplies_111 (w_iload9 dX10_multiplies_112 (wp_iadd dX10_multiplies_114 (wp_iconst dX10_multiplies_115 (wp_imul dX10_multiplies_116 (w_iload10 dX10_multiplies_117 ?_)))))))))
            refine wp_iadd dX10_multiplies_119 (wp_iconst dX10_multiplies_120 (wp_imul dX10_multiplies_121 (w_iload11 dX10_multiplies_122 (wp_iadd dX10_multiplies_124 (wp_iconst dX10_multiplies_125 (wp_imul dX10_multiplies_126 (w_iload4 dX10_multiplies_127 (wp_iconst dX10_multiplies_129 (wp_irem dX10_multiplies_130 (by omega) (by omega) ?_)))))))))
            refine wp_iadd dX10_multiplies_131 (w_iload6 dX10_multiplies_132 (wp_iconst dX10_multiplies_134 (wp_irem dX10_multiplies_135 (by omega) (by omega) (wp_iadd dX10_multiplies_136 (w_istore12 dX10_multiplies_137 rfl (by decide) ?_)))))
            have hix : zix q r < 320 := zix_lt hq36 (by omega)
            have hto : h2 452 (zix q r) = (P (zix q r) + sg * (zsi (zmG F S (zix q r)) q + zsi (zmT F S (zix q r) q) r)) % p := by rw [hh2, zfl_i (by omega)]
            have hmb := z_mod hpp (P (zix q r) + sg * (zsi (zmG F S (zix q r)) q + zsi (zmT F S (zix q r) q) r))
            have hmm := z_mb bF bS2 hp.2
            have hsm : sg * F q * S r = sg * (F q * S r) := Int.mul_assoc _ _ _
            have hsb := z_sg hsg (x := F q * S r) (M := 900) (by omega)
            refine w_aload0 dX10_multiplies_139 (wp_getr 452 dX10_multiplies_140 fl_RX10_28 is_445 rfl (w_iload12 dX10_multiplies_143 (w_aload0 dX10_multiplies_145 (w_aload0 dX10_multiplies_146 (wp_getr 452 dX10_multiplies_147 fl_RX10_28 is_445 rfl (w_iload12 dX10_multiplies_150 (x_iald (zix q r) dX10_multiplies_152 is_452 (zix_e q r) (by omega) ?_)))))))
            rw [hto]
            refine w_iload3 dX10_multiplies_153 (w_iload5 dX10_multiplies_154 (wp_imul dX10_multiplies_156 (w_iload7 dX10_multiplies_157 (wp_imul dX10_multiplies_159 (wp_iadd dX10_multiplies_160 ?_)))))
            apply v_i1 (M := mX10_multiplies) dX10_multiplies_161 lk_RX10_128 mvX10_mod (by decide) meX10_multiplies is_445 (Nat.le_of_ble_eq_true rfl)
            · exact t_X10_mod ⟨by omega, by omega⟩ hp k2
            intro x161 h161 hP161
            obtain ⟨eh161, ex161⟩ := hP161
            replace eh161 := eh161.symm
            subst eh161
            replace ex161 := ex161.symm
            subst ex161
            refine x_iast (zix q r) dX10_multiplies_164 is_452 (zix_e q r) (by omega) (w_iinc6 dX10_multiplies_165 rfl (by decide) (wp_goto 27 dX10_multiplies_168 rfl ?_))
            refine w_forget7 ?_
            refine w_forget8 ?_
            refine w_forget9 ?_
            refine w_forget10 ?_
            refine w_forget11 ?_
            refine w_forget12 ?_
            refine ih27 _ (by omega) (r + 1) _ rfl hq36 (by omega) ?_
            first
            | (have c9 : S r = 0 := c55
               rw [hh2]
               refine zfl_congr (fun i hi => ?_)
               show _ = (P i + sg * (zsi (zmG F S i) q + (zsi (zmT F S i q) r + zmT F S i q r))) % p
               have e5 : zmT F S i q r = 0 := by unfold zmT; rw [c9, Int.mul_zero]; split <;> rfl
               rw [e5, Int.add_zero])
            | (rw [hh2, zfl_up (by omega)]
               refine zfl_congr (fun i hi => ?_)
               show _ = (P i + sg * (zsi (zmG F S i) q + (zsi (zmT F S i q) r + zmT F S i q r))) % p
               by_cases w : i = zix q r
               · have e5 : zmT F S i q r = F q * S r := by unfold zmT; rw [if_pos w.symm]
                 rw [if_pos w, e5, w, Int.emod_add_emod]
                 refine congrArg (fun z => z % p) ?_
                 generalize zsi (zmG F S (zix q r)) q = A
                 generalize zsi (zmT F S (zix q r) q) r = B
                 generalize P (zix q r) = D
                 grind
               · have e5 : zmT F S i q r = 0 := by unfold zmT; rw [if_neg (fun z => w z.symm)]
                 rw [if_neg w, e5, Int.add_zero])
    refine w_iload4 dX10_multiplies_3 (wp_bipush dX10_multiplies_5 (by decide) ?_)
    refine wp_icmp_ge 177 dX10_multiplies_7 rfl ⟨by omega, by omega⟩ ⟨by omega, by omega⟩ (fun c7 => ?_) (fun c7 => ?_)
    · skip
      refine r_v dX10_multiplies_177 rfl meX10_multiplies ?_
      rw [hh, show q = 36 by omega]
      rfl
    · skip
      refine w_aload0 dX10_multiplies_10 (wp_getr 450 dX10_multiplies_11 fl_RX10_22 is_445 rfl (wp_bipush dX10_multiplies_14 (by decide) (w_iload1 dX10_multiplies_16 (wp_imul dX10_multiplies_17 (w_iload4 dX10_multiplies_18 (wp_iadd dX10_multiplies_20 (x_iald (36 * k + q) dX10_multiplies_21 is_450 (by omega) (by omega) ?_)))))))
      rw [g1 (by omega)]
      have bF := (hF q (by omega)).2
      refine w_istore5 dX10_multiplies_22 rfl (by decide) (wp_iconst dX10_multiplies_24 (w_istore6 dX10_multiplies_25 rfl (by decide) ?_))
      exact L27 _ 0 _ rfl (by omega) (Nat.zero_le _) (by rw [hh]; refine zfl_congr (fun i hi => ?_); show _ = (P i + sg * (zsi (zmG F S i) q + 0)) % p; rw [Int.add_zero])
  refine wp_iconst dX10_multiplies_0 (w_istore4 dX10_multiplies_1 rfl (by decide) ?_)
  exact L3 _ 0 _ rfl (Nat.zero_le _) (by refine (zfl_id (fun i hi => ?_)).symm; show (P i + sg * 0) % p = _; rw [Int.mul_zero, Int.add_zero]; exact (hP i hi).symm)
set_option maxRecDepth 100000 in
set_option maxHeartbeats 4000000 in
theorem t_X10_addsProduct {h : zH} {kk p : Int} {k : Nat} (hk : kk = k) (hk3 : k < 3) {c : Nat → Nat → Int} (hs : zSt p c) (hR : zMr p c h) {P D : Nat → Int} (hP : ∀ q, q < 320 → h 452 q = P q ∧ 0 ≤ P q ∧ P q < p) (hD : ∀ i, i < 1344 → h 453 i = D i % p) : CV yX10_addsProduct mX10_addsProduct [vR 445, vI kk] h (fun h' => h' = zfl h 453 1344 (fun i => (D i + zadp P (c k) i) % p)) := by
  refine inV [some (vR 445), some (vI kk), none, none, none, none, none, none, none, none] mvX10_addsProduct rfl (Nat.le_of_ble_eq_true rfl) rfl ?_
  have hp := hs.p
  have hpp : 0 < p := by omega
  have hp0 := hR.1
  have L2 : ∀ (zm2 : Nat) (q : Nat) (h' : zH), 320 - q = zm2 → (q ≤ 320) → (h' = zfl h 453 1344 (fun i => (D i + zsi (zaG P (c k) i) q) % p)) → WP mX10_addsProduct (zMQ mX10_addsProduct (zKV (fun h' => h' = zfl h 453 1344 (fun i => (D i + zadp P (c k) i) % p)))) 2 [some (vR 445), some (vI kk), some (vI (q : Int)), none, none, none, none, none, none, none] [] zN zGR h' := by
    intro zm2
    induction zm2 using Nat.strongRecOn with | _ zm2 ih2 => ?_
    intro q h' hzm2 hq hh
    subst hzm2
    have g1 : q < 320 → h' 452 q = P q := fun w => by rw [hh, zfl_o (by omega)]; exact (hP q w).1
    have L19 : ∀ (zm19 : Nat) (r : Nat) (h2 : zH), 27 - r = zm19 → (q < 320) → (r ≤ 27) → (h2 = zfl h 453 1344 (fun i => (D i + (zsi (zaG P (c k) i) q + zsi (zaT P (c k) i q) r)) % p)) → WP mX10_addsProduct (zMQ mX10_addsProduct (zKV (fun h' => h' = zfl h 453 1344 (fun i => (D i + zadp P (c k) i) % p)))) 19 [some (vR 445), some (vI kk), some (vI (q : Int)), some (vI (P q)), some (vI (r : Int)), none, none, none, none, none] [] zN zGR h2 := by
      intro zm19
      induction zm19 using Nat.strongRecOn with | _ zm19 ih19 => ?_
      intro r h2 hzm19 hq320 hr hh2
      subst hzm19
      have g2 : r < 27 → h2 446 (1 + 27 * k + r) = c k r := fun w => by rw [hh2, zfl_o (by omega)]; exact hR.2 k hk3 r w
      have k2 : h2 446 0 = p := by rw [hh2, zfl_o (by omega)]; exact hp0
      have bF := (hP q hq320).2
      have bS := hs.2 k r
      refine w_iload4 dX10_addsProduct_19 (wp_bipush dX10_addsProduct_21 (by decide) ?_)
      refine wp_icmp_ge 145 dX10_addsProduct_23 rfl ⟨by omega, by omega⟩ ⟨by omega, by omega⟩ (fun c23 => ?_) (fun c23 => ?_)
      · skip
        refine w_iinc2 dX10_addsProduct_145 rfl (by decide) (wp_goto 2 dX10_addsProduct_148 rfl ?_)
        refine w_forget3 ?_
        refine w_forget4 ?_
        refine ih2 _ (by omega) (q + 1) _ rfl (by omega) ?_
        rw [hh2]
        refine zfl_congr (fun i hi => ?_)
        show _ = (D i + (zsi (zaG P (c k) i) q + zaG P (c k) i q)) % p
        first
        | (have c9 : P q = 0 := c27
           rw [zaG_z c9, show zsi (zaT P (c k) i q) r = 0 from zsi_z r (fun r _ => by unfold zaT; rw [c9, Int.zero_mul]; split <;> rfl)])
        | (rw [show r = 27 by omega]
           rfl)
      · skip
        refine w_iload3 dX10_addsProduct_26 ?_
        refine wp_if_eq 145 dX10_addsProduct_27 rfl ⟨by have := (hP q (by omega)).2; omega, by have := (hP q (by omega)).2; omega⟩ (fun c27 => ?_) (fun c27 => ?_)
        · skip
          refine w_iinc2 dX10_addsProduct_145 rfl (by decide) (wp_goto 2 dX10_addsProduct_148 rfl ?_)
          refine w_forget3 ?_
          refine w_forget4 ?_
          refine ih2 _ (by omega) (q + 1) _ rfl (by omega) ?_
          rw [hh2]
          refine zfl_congr (fun i hi => ?_)
          show _ = (D i + (zsi (zaG P (c k) i) q + zaG P (c k) i q)) % p
          first
          | (have c9 : P q = 0 := c27
             rw [zaG_z c9, show zsi (zaT P (c k) i q) r = 0 from zsi_z r (fun r _ => by unfold zaT; rw [c9, Int.zero_mul]; split <;> rfl)])
          | (rw [show r = 27 by omega]
             rfl)
        · skip
          refine w_aload0 dX10_addsProduct_30 (wp_getr 446 dX10_addsProduct_31 fl_RX10_7 is_445 rfl (wp_iconst dX10_addsProduct_34 (wp_bipush dX10_addsProduct_35 (by decide) (w_iload1 dX10_addsProduct_37 (wp_imul dX10_addsProduct_38 (wp_iadd dX10_addsProduct_39 (w_iload4 dX10_addsProduct_40 (wp_iadd dX10_addsProduct_42 (x_iald (1 + 27 * k + r) dX10_addsProduct_43 is_446 (by omega) (by omega) ?_)))))))))
          rw [g2 (by omega)]
          refine w_istore5 dX10_addsProduct_44 rfl (by decide) (w_iload5 dX10_addsProduct_46 ?_)
          refine wp_if_eq 139 dX10_addsProduct_48 rfl ⟨by omega, by omega⟩ (fun c48 => ?_) (fun c48 => ?_)
          · skip
            refine w_iinc4 dX10_addsProduct_139 rfl (by decide) (wp_goto 19 dX10_addsProduct_142 rfl ?_)
            refine w_forget5 ?_
            refine ih19 _ (by omega) (r + 1) _ rfl hq320 (by omega) ?_
            first
            | (have c9 : c k r = 0 := c48
               rw [hh2]
               refine zfl_congr (fun i hi => ?_)
               show _ = (D i + (zsi (zaG P (c k) i) q + (zsi (zaT P (c k) i q) r + zaT P (c k) i q r))) % p
               have e5 : zaT P (c k) i q r = 0 := by unfold zaT; rw [c9, Int.mul_zero]; split <;> rfl
               rw [e5, Int.add_zero])
            | (rw [hh2, zfl_up (by omega)]
               refine zfl_congr (fun i hi => ?_)
               show _ = (D i + (zsi (zaG P (c k) i) q + (zsi (zaT P (c k) i q) r + zaT P (c k) i q r))) % p
               by_cases w : i = zjx q r
               · have e5 : zaT P (c k) i q r = P q * c k r := by unfold zaT; rw [if_pos w.symm]
                 rw [if_pos w, e5, w, Int.emod_add_emod]
                 refine congrArg (fun z => z % p) ?_
                 omega
               · have e5 : zaT P (c k) i q r = 0 := by unfold zaT; rw [if_neg (fun z => w z.symm)]
                 rw [if_neg w, e5, Int.add_zero])
          · skip
            refine w_iload2 dX10_addsProduct_51 (wp_bipush dX10_addsProduct_52 (by decide) (wp_idiv dX10_addsProduct_54 (by omega) (by omega) (w_istore6 dX10_addsProduct_55 rfl (by decide) (w_iload2 dX10_addsProduct_57 (wp_bipush dX10_addsProduct_58 (by decide) (wp_irem dX10_addsProduct_60 (by omega) (by omega) (wp_bipush dX10_addsProduct_61 (by decide) (wp_idiv dX10_addsProduct_63 (by omega) (by omega) (w_iload4 dX10_addsProduct_64 ?_)))))))))
            refine wp_bipush dX10_addsProduct_66 (by decide) (wp_idiv dX10_addsProduct_68 (by omega) (by omega) (wp_iadd dX10_addsProduct_69 (w_istore7 dX10_addsProduct_70 rfl (by decide) (w_iload2 dX10_addsProduct_72 (wp_bipush dX10_addsProduct_73 (by decide) (wp_irem dX10_addsProduct_75 (by omega) (by omega) (wp_iconst dX10_addsProduct_76 (wp_idiv dX10_addsProduct_77 (by omega) (by omega) (w_iload4 dX10_addsProduct_78 ?_)))))))))
            refine wp_bipush dX10_addsProduct_80 (by decide) (wp_irem dX10_addsProduct_82 (by omega) (by omega) (wp_iconst dX10_addsProduct_83 (wp_idiv dX10_addsProduct_84 (by omega) (by omega) (wp_iadd dX10_addsProduct_85 (w_istore8 dX10_addsProduct_86 rfl (by decide) (wp_bipush dX10_addsProduct_88 (by decide) (w_iload6 dX10_addsProduct_90 (wp_imul dX10_addsProduct_92 (w_iload7 dX10_addsProduct_93 ?_)))))))))
            refine wp_iadd dX10_addsProduct_95 (wp_iconst dX10_addsProduct_96 (wp_imul dX10_addsProduct_97 (w_iload8 dX10_addsProduct_98 (wp_iadd dX10_addsProduct_100 (wp_bipush dX10_addsProduct_101 (by decide) (wp_imul dX10_addsProduct_103 (w_iload2 dX10_addsProduct_104 (wp_iconst dX10_addsProduct_105 (wp_irem dX10_addsProduct_106 (by omega) (by omega) ?_)))))))))
            refine wp_iadd dX10_addsProduct_107 (w_iload4 dX10_addsProduct_108 (wp_iconst dX10_addsProduct_110 (wp_irem dX10_addsProduct_111 (by omega) (by omega) (wp_iadd dX10_addsProduct_112 (w_istore9 dX10_addsProduct_113 rfl (by decide) ?_)))))
            have hix : zjx q r < 1344 := zjx_lt hq320 (by omega)
            have hto : h2 453 (zjx q r) = (D (zjx q r) + (zsi (zaG P (c k) (zjx q r)) q + zsi (zaT P (c k) (zjx q r) q) r)) % p := by rw [hh2, zfl_i (by omega)]
            have hmb := z_mod hpp (D (zjx q r) + (zsi (zaG P (c k) (zjx q r)) q + zsi (zaT P (c k) (zjx q r) q) r))
            have hmm := z_mb bF bS hp.2
            refine w_aload0 dX10_addsProduct_115 (wp_getr 453 dX10_addsProduct_116 fl_RX10_31 is_445 rfl (w_iload9 dX10_addsProduct_119 (w_aload0 dX10_addsProduct_121 (wp_getr 453 dX10_addsProduct_122 fl_RX10_31 is_445 rfl (w_iload9 dX10_addsProduct_125 (x_iald (zjx q r) dX10_addsProduct_127 is_453 (zjx_e q r) (by omega) ?_))))))
            rw [hto]
            refine w_iload3 dX10_addsProduct_128 (w_iload5 dX10_addsProduct_129 (wp_imul dX10_addsProduct_131 (wp_iadd dX10_addsProduct_132 (w_aload0 dX10_addsProduct_133 ?_))))
            apply v_i0 (M := mX10_addsProduct) dX10_addsProduct_134 lk_RX10_76 mvX10_p (by decide) meX10_addsProduct is_445 (Nat.le_of_ble_eq_true rfl)
            · exact t_X10_p k2
            intro x134 h134 hP134
            obtain ⟨eh134, ex134⟩ := hP134
            replace eh134 := eh134.symm
            subst eh134
            replace ex134 := ex134.symm
            subst ex134
            refine wp_irem dX10_addsProduct_137 (by omega) (by omega) (x_iast (zjx q r) dX10_addsProduct_138 is_453 (zjx_e q r) (by omega) (w_iinc4 dX10_addsProduct_139 rfl (by decide) (wp_goto 19 dX10_addsProduct_142 rfl ?_)))
            refine w_forget5 ?_
            refine w_forget6 ?_
            refine w_forget7 ?_
            refine w_forget8 ?_
            refine w_forget9 ?_
            refine ih19 _ (by omega) (r + 1) _ rfl hq320 (by omega) ?_
            first
            | (have c9 : c k r = 0 := c48
               rw [hh2]
               refine zfl_congr (fun i hi => ?_)
               show _ = (D i + (zsi (zaG P (c k) i) q + (zsi (zaT P (c k) i q) r + zaT P (c k) i q r))) % p
               have e5 : zaT P (c k) i q r = 0 := by unfold zaT; rw [c9, Int.mul_zero]; split <;> rfl
               rw [e5, Int.add_zero])
            | (rw [hh2, zfl_up (by omega)]
               refine zfl_congr (fun i hi => ?_)
               show _ = (D i + (zsi (zaG P (c k) i) q + (zsi (zaT P (c k) i q) r + zaT P (c k) i q r))) % p
               by_cases w : i = zjx q r
               · have e5 : zaT P (c k) i q r = P q * c k r := by unfold zaT; rw [if_pos w.symm]
                 rw [if_pos w, e5, w, Int.emod_add_emod]
                 refine congrArg (fun z => z % p) ?_
                 omega
               · have e5 : zaT P (c k) i q r = 0 := by unfold zaT; rw [if_neg (fun z => w z.symm)]
                 rw [if_neg w, e5, Int.add_zero])
    refine w_iload2 dX10_addsProduct_2 (wp_sipush dX10_addsProduct_3 (by decide) ?_)
    refine wp_icmp_ge 151 dX10_addsProduct_6 rfl ⟨by omega, by omega⟩ ⟨by omega, by omega⟩ (fun c6 => ?_) (fun c6 => ?_)
    · skip
      refine r_v dX10_addsProduct_151 rfl meX10_addsProduct ?_
      rw [hh, show q = 320 by omega]
      rfl
    · skip
      refine w_aload0 dX10_addsProduct_9 (wp_getr 452 dX10_addsProduct_10 fl_RX10_28 is_445 rfl (w_iload2 dX10_addsProduct_13 (x_iald q dX10_addsProduct_14 is_452 rfl (by omega) ?_)))
      rw [g1 (by omega)]
      have bF := (hP q (by omega)).2
      refine w_istore3 dX10_addsProduct_15 rfl (by decide) (wp_iconst dX10_addsProduct_16 (w_istore4 dX10_addsProduct_17 rfl (by decide) ?_))
      exact L19 _ 0 _ rfl (by omega) (Nat.zero_le _) (by rw [hh]; refine zfl_congr (fun i hi => ?_); show _ = (D i + (zsi (zaG P (c k) i) q + 0)) % p; rw [Int.add_zero])
  refine wp_iconst dX10_addsProduct_0 (w_istore2 dX10_addsProduct_1 rfl (by decide) ?_)
  exact L2 _ 0 _ rfl (Nat.zero_le _) (by refine (zfl_id (fun i hi => ?_)).symm; show (D i + 0) % p = _; rw [Int.add_zero]; exact (hD i hi).symm)
