
/-- the members of a set in their order -/
noncomputable def zms (P : Nat → Prop) : Nat → Nat → Nat
  | 0 => fun _ => 0
  | n + 1 => @ite _ (P n) (Classical.propDecidable _) (zupN (zms P n) (zct P n) n) (zms P n)
theorem zms_y {P : Nat → Prop} {n : Nat} (h : P n) : zms P (n + 1) = zupN (zms P n) (zct P n) n := if_pos h
theorem zms_n {P : Nat → Prop} {n : Nat} (h : ¬ P n) : zms P (n + 1) = zms P n := if_neg h
theorem zms_lt {P : Nat → Prop} : ∀ n k, k < zct P n → zms P n k < n ∧ P (zms P n k) := by
  intro n
  induction n with
  | zero => intro k h; exact absurd h (Nat.not_lt_zero k)
  | succ n ih =>
    intro k h
    by_cases e : P n
    · rw [zct_y e] at h
      rw [zms_y e]
      unfold zupN
      split
      · exact ⟨Nat.lt_succ_self n, e⟩
      · have := ih k (by omega)
        exact ⟨by omega, this.2⟩
    · rw [zct_n e] at h
      rw [zms_n e]
      have := ih k h
      exact ⟨by omega, this.2⟩

set_option maxRecDepth 100000 in
set_option maxHeartbeats 4000000 in
theorem t_X1_forget {h : zH} : CV yX1_forget mX1_forget [vR 182] h (fun h' => h' = zup (zup h 182 10 0) 182 11 0) := by
  refine inV [some (vR 182)] mvX1_forget rfl (Nat.le_of_ble_eq_true rfl) rfl ?_
  refine w_aload0 dX1_forget_0 (wp_iconst dX1_forget_1 (wp_putz dX1_forget_2 fl_RX1_50 is_182 rfl (by first | exact Or.inl rfl | exact Or.inr rfl) (w_aload0 dX1_forget_5 (wp_iconst dX1_forget_6 (wp_putz dX1_forget_7 fl_RX1_54 is_182 rfl (by first | exact Or.inl rfl | exact Or.inr rfl) ?_)))))
  refine r_v dX1_forget_10 rfl meX1_forget ?_
  rfl
set_option maxRecDepth 100000 in
set_option maxHeartbeats 4000000 in
theorem t_X1_listMembers {h : zH} {ss : Int} {a : Nat} {P : Nat → Prop} {N : Nat} (hN : N ≤ 8) (hS : ss = (zmk P N : Int)) (ha : zIs zN a (10, 8)) : CI yX1_listMembers mX1_listMembers [vI ss, vR a] h (fun r h' => h' = zfl h a (zct P N) (fun k => (zms P N k : Int)) ∧ r = (zct P N : Int)) := by
  refine inS [some (vI ss), some (vR a), none, none] mvX1_listMembers rfl (Nat.le_of_ble_eq_true rfl) rfl ?_
  have hmb := zmk_b8 (P := P) (i := N) (by omega)
  have hc8 := zct_le (P := P) N
  subst hS
  have L4 : ∀ (zm4 : Nat) (i : Nat) (h' : zH) (vk vi : Int), 8 - i = zm4 → (i ≤ 8) → (vi = (i : Int)) → (vk = (zct P (min i N) : Int)) → (h' = zfl h a (zct P (min i N)) (fun k => (zms P (min i N) k : Int))) → WP mX1_listMembers (zMQ mX1_listMembers (zKI (fun r h' => h' = zfl h a (zct P N) (fun k => (zms P N k : Int)) ∧ r = (zct P N : Int)))) 4 [some (vI (zmk P N : Int)), some (vR a), some (vI vk), some (vI vi)] [] zN zGR h' := by
    intro zm4
    induction zm4 using Nat.strongRecOn with | _ zm4 ih4 => ?_
    intro i h' vk vi hzm4 hi hvi hvk hh
    subst hzm4
    have hci := zct_le (P := P) (min i N)
    refine w_iload3 dX1_listMembers_4 (wp_bipush dX1_listMembers_5 (by decide) ?_)
    refine wp_icmp_ge 37 dX1_listMembers_7 rfl ⟨by omega, by omega⟩ ⟨by omega, by omega⟩ (fun c7 => ?_) (fun c7 => ?_)
    · skip
      refine w_iload2 dX1_listMembers_37 ?_
      refine r_i dX1_listMembers_38 rfl meX1_listMembers ?_
      have e : min i N = N := by omega
      rw [e] at hh hvk
      exact ⟨hh, hvk⟩
    · skip
      refine w_iload0 dX1_listMembers_10 (w_iload3 dX1_listMembers_11 (wp_ishr dX1_listMembers_12 ⟨by omega, by omega⟩ (by omega) (wp_iconst dX1_listMembers_13 (wp_iand dX1_listMembers_14 (by rw [hvi]; exact z_sh i hmb) (by omega) ?_))))
      rw [hvi, z_bt]
      refine wp_if_eq 31 dX1_listMembers_15 rfl ⟨by omega, by omega⟩ (fun c15 => ?_) (fun c15 => ?_)
      · skip
        refine w_iinc3 dX1_listMembers_31 rfl (by decide) (wp_goto 4 dX1_listMembers_34 rfl ?_)
        by_cases c9 : zmk P N / 2 ^ i % 2 = 1
        · first
          | (exfalso; omega)
          | (skip
             have hiN : i < N := by
               by_cases w : i < N
               · exact w
               · exfalso
                 have h1 := zmk_lt (P := P) N
                 have h2 : 2 ^ N ≤ 2 ^ i := Nat.pow_le_pow_right (by omega) (by omega)
                 rw [Nat.div_eq_of_lt (by omega)] at c9
                 exact absurd c9 (by decide)
             have hPi := (zmk_bit (P := P) N i hiN).mp c9
             rw [show min i N = i by omega] at hh hvk
             refine ih4 _ (by omega) (i + 1) _ _ _ rfl (by omega) (by omega) ?_ ?_
             · rw [show min (i + 1) N = i + 1 by omega, zct_y hPi]
               omega
             · rw [show min (i + 1) N = i + 1 by omega, zct_y hPi, zms_y hPi, hh, show min i N = i by omega]
               rw [zfl_congr (h := h) (a := a) (n := zct P i) (F := fun k => (zms P i k : Int)) (G := fun k => (zupN (zms P i) (zct P i) i k : Int)) (fun j hj => by
                 try dsimp only
                 unfold zupN
                 rw [if_neg (by omega)])]
               exact zfl_s (by
                 try dsimp only
                 unfold zupN
                 rw [if_pos rfl]
                 try exact hvi))
        · first
          | (exfalso; omega)
          | (skip
             refine ih4 _ (by omega) (i + 1) _ _ _ rfl (by omega) (by omega) ?_ ?_
             · by_cases w : i < N
               · rw [show min (i + 1) N = i + 1 by omega, zct_n (fun q => by have := (zmk_bit (P := P) N i w).mpr q; omega), hvk, show min i N = i by omega]
               · rw [show min (i + 1) N = min i N by omega]; exact hvk
             · by_cases w : i < N
               · rw [show min (i + 1) N = i + 1 by omega, zct_n (fun q => by have := (zmk_bit (P := P) N i w).mpr q; omega), zms_n (fun q => by have := (zmk_bit (P := P) N i w).mpr q; omega), hh, show min i N = i by omega]
               · rw [show min (i + 1) N = min i N by omega]; exact hh)
      · skip
        refine w_iload2 dX1_listMembers_18 (w_aload1 dX1_listMembers_19 (wp_alen dX1_listMembers_20 ha (by decide) ?_))
        refine wp_icmp_ge 31 dX1_listMembers_21 rfl ⟨by omega, by omega⟩ ⟨by omega, by omega⟩ (fun c21 => absurd c21 (by have := zct_le (P := P) i; omega)) (fun c21 => ?_)
        refine w_aload1 dX1_listMembers_24 (w_iload2 dX1_listMembers_25 (w_iload3 dX1_listMembers_26 (x_iast (zct P (min i N)) dX1_listMembers_27 ha hvk (by omega) (w_iinc2 dX1_listMembers_28 rfl (by decide) (w_iinc3 dX1_listMembers_31 rfl (by decide) (wp_goto 4 dX1_listMembers_34 rfl ?_))))))
        by_cases c9 : zmk P N / 2 ^ i % 2 = 1
        · first
          | (exfalso; omega)
          | (skip
             have hiN : i < N := by
               by_cases w : i < N
               · exact w
               · exfalso
                 have h1 := zmk_lt (P := P) N
                 have h2 : 2 ^ N ≤ 2 ^ i := Nat.pow_le_pow_right (by omega) (by omega)
                 rw [Nat.div_eq_of_lt (by omega)] at c9
                 exact absurd c9 (by decide)
             have hPi := (zmk_bit (P := P) N i hiN).mp c9
             rw [show min i N = i by omega] at hh hvk
             refine ih4 _ (by omega) (i + 1) _ _ _ rfl (by omega) (by omega) ?_ ?_
             · rw [show min (i + 1) N = i + 1 by omega, zct_y hPi]
               omega
             · rw [show min (i + 1) N = i + 1 by omega, zct_y hPi, zms_y hPi, hh, show min i N = i by omega]
               rw [zfl_congr (h := h) (a := a) (n := zct P i) (F := fun k => (zms P i k : Int)) (G := fun k => (zupN (zms P i) (zct P i) i k : Int)) (fun j hj => by
                 try dsimp only
                 unfold zupN
                 rw [if_neg (by omega)])]
               exact zfl_s (by
                 try dsimp only
                 unfold zupN
                 rw [if_pos rfl]
                 try exact hvi))
        · first
          | (exfalso; omega)
          | (skip
             refine ih4 _ (by omega) (i + 1) _ _ _ rfl (by omega) (by omega) ?_ ?_
             · by_cases w : i < N
               · rw [show min (i + 1) N = i + 1 by omega, zct_n (fun q => by have := (zmk_bit (P := P) N i w).mpr q; omega), hvk, show min i N = i by omega]
               · rw [show min (i + 1) N = min i N by omega]; exact hvk
             · by_cases w : i < N
               · rw [show min (i + 1) N = i + 1 by omega, zct_n (fun q => by have := (zmk_bit (P := P) N i w).mpr q; omega), zms_n (fun q => by have := (zmk_bit (P := P) N i w).mpr q; omega), hh, show min i N = i by omega]
               · rw [show min (i + 1) N = min i N by omega]; exact hh)
  refine wp_iconst dX1_listMembers_0 (w_istore2 dX1_listMembers_1 rfl (by decide) (wp_iconst dX1_listMembers_2 (w_istore3 dX1_listMembers_3 rfl (by decide) ?_)))
  exact L4 _ 0 h 0 0 rfl (Nat.zero_le _) rfl (by rw [Nat.zero_min]; rfl) (by rw [Nat.zero_min]; exact zfl_0.symm)
