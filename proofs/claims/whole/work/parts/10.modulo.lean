
theorem z_tmod_neg {x y : Int} (hy : 0 < y) (h : x.tmod y < 0) : x.tmod y + y = x % y := by
  have h1 := Int.tmod_def x y
  have h2 := Int.emod_def x y
  have h3 := Int.emod_nonneg x (show y ≠ 0 by omega)
  have h4 := Int.emod_lt_of_pos x hy
  have h5 := tmod_bounds (a := x) hy
  have h6 : y * (x / y) = y * (x.tdiv y) - y := by
    have h7 : y * (x / y) - y * (x.tdiv y) = x.tmod y - x % y := by omega
    rw [← Int.mul_sub] at h7
    have h8 : x / y - x.tdiv y = -1 := by
      have h9 : -2 * y < y * (x / y - x.tdiv y) := by omega
      have h10 : y * (x / y - x.tdiv y) < 0 := by omega
      have h11 : x / y - x.tdiv y < 0 := by
        refine Int.lt_of_not_ge (fun q => ?_)
        have := Int.mul_nonneg (Int.le_of_lt hy) q
        omega
      have h12 : -2 < x / y - x.tdiv y := by
        refine Int.lt_of_not_ge (fun q => ?_)
        have := Int.mul_le_mul_of_nonneg_left q (Int.le_of_lt hy)
        omega
      omega
    have h13 : x / y = x.tdiv y - 1 := by omega
    rw [h13, Int.mul_sub, Int.mul_one]
  omega
theorem z_tmod_pos {x y : Int} (hy : 0 < y) (h : 0 ≤ x.tmod y) : x.tmod y = x % y := by
  have h1 := Int.tmod_def x y
  have h2 := Int.emod_def x y
  have h3 := Int.emod_nonneg x (show y ≠ 0 by omega)
  have h4 := Int.emod_lt_of_pos x hy
  have h5 := tmod_bounds (a := x) hy
  have h7 : y * (x / y) - y * (x.tdiv y) = x.tmod y - x % y := by omega
  rw [← Int.mul_sub] at h7
  have h8 : x / y - x.tdiv y = 0 := by
    have h11 : x / y - x.tdiv y < 1 := by
      refine Int.lt_of_not_ge (fun q => ?_)
      have := Int.mul_le_mul_of_nonneg_left q (Int.le_of_lt hy)
      omega
    have h12 : -1 < x / y - x.tdiv y := by
      refine Int.lt_of_not_ge (fun q => ?_)
      have := Int.mul_le_mul_of_nonneg_left q (Int.le_of_lt hy)
      omega
    omega
  rw [h8] at h7
  omega
theorem z_mod {p : Int} (hp : 0 < p) (x : Int) : 0 ≤ x % p ∧ x % p < p := ⟨Int.emod_nonneg x (by omega), Int.emod_lt_of_pos x hp⟩
/-- the least candidate from 1 to k whose product with x is 1, else 0 -/
def zinvS (x p : Int) : Nat → Int
  | 0 => 0
  | k + 1 => if zinvS x p k ≠ 0 then zinvS x p k else if x * ((k + 1 : Nat) : Int) % p = 1 then ((k + 1 : Nat) : Int) else 0
def zinv (x p : Int) : Int := zinvS x p (p.toNat - 1)
theorem zinvS_keep {x p : Int} {k : Nat} (h : zinvS x p k ≠ 0) : ∀ m, k ≤ m → zinvS x p m = zinvS x p k := by
  intro m hm
  induction m with
  | zero => rw [show k = 0 by omega]
  | succ m ih =>
    by_cases q : k = m + 1
    · rw [q]
    · have h1 := ih (by omega)
      show (if zinvS x p m ≠ 0 then _ else _) = _
      rw [if_pos (by rw [h1]; exact h), h1]
theorem zinvS_in (x p : Int) : ∀ k, 0 ≤ zinvS x p k ∧ zinvS x p k ≤ k := by
  intro k
  induction k with
  | zero => exact ⟨Int.le_refl 0, Int.le_refl 0⟩
  | succ k ih =>
    unfold zinvS
    split
    · omega
    · split <;> omega
/-- the value of the polynomial f 0 + f 1 * t + .. (n coefficients) -/
def zhor (t p : Int) : Nat → (Nat → Int) → Int
  | 0, _ => 0
  | n + 1, f => (zhor t p n (fun e => f (e + 1)) * t + f 0) % p
theorem zhor_in {t p : Int} (hp : 0 < p) : ∀ (n : Nat) (f : Nat → Int), 0 ≤ zhor t p n f ∧ zhor t p n f < p := by
  intro n f
  cases n with
  | zero => exact ⟨Int.le_refl 0, hp⟩
  | succ n => exact z_mod hp _
theorem zhor_congr {t p : Int} : ∀ (n : Nat) (f g : Nat → Int), (∀ e, e < n → f e = g e) → zhor t p n f = zhor t p n g := by
  intro n
  induction n with
  | zero => intro f g _; rfl
  | succ n ih =>
    intro f g h
    show (_ * t + f 0) % p = (_ * t + g 0) % p
    rw [ih _ (fun e => g (e + 1)) (fun e he => h (e + 1) (by omega)), h 0 (by omega)]
/-- a product of two numbers of the field -/
theorem z_mul {a b p : Int} (ha : 0 ≤ a ∧ a < p) (hb : 0 ≤ b ∧ b < p) (hp : p ≤ 31) : 0 ≤ a * b ∧ a * b ≤ 900 := by
  refine ⟨Int.mul_nonneg ha.1 hb.1, ?_⟩
  have h1 : a * b ≤ 30 * b := Int.mul_le_mul_of_nonneg_right (by omega) hb.1
  omega

set_option maxRecDepth 100000 in
set_option maxHeartbeats 4000000 in
theorem t_X3_residue {h : zH} {x p : Int} (hx : zin x) (hp : 0 < p ∧ p < 1000) : CI yX3_residue mX3_residue [vI x, vI p] h (fun r h' => h' = h ∧ r = x % p) := by
  refine inS [some (vI x), some (vI p), none] mvX3_residue rfl (Nat.le_of_ble_eq_true rfl) rfl ?_
  have hb := tmod_bounds (a := x) hp.1
  have hx1 := hx.1
  have hx2 := hx.2
  refine w_iload1 dX3_residue_0 (wp_iconst dX3_residue_1 ?_)
  refine wp_icmp_ge 7 dX3_residue_2 rfl ⟨by omega, by omega⟩ ⟨by omega, by omega⟩ (fun c2 => ?_) (fun c2 => absurd c2 (by omega))
  refine w_iload0 dX3_residue_7 (w_iload1 dX3_residue_8 (wp_iremT dX3_residue_9 ⟨by omega, by omega⟩ (by omega) (w_istore2 dX3_residue_10 rfl (by decide) (w_iload2 dX3_residue_11 ?_))))
  refine wp_if_ge 21 dX3_residue_12 rfl ⟨by omega, by omega⟩ (fun c12 => ?_) (fun c12 => ?_)
  · skip
    refine w_iload2 dX3_residue_21 ?_
    refine r_i dX3_residue_22 rfl meX3_residue ?_
    refine ⟨rfl, ?_⟩
    first | exact z_tmod_pos hp.1 (by omega) | exact z_tmod_neg hp.1 (by omega)
  · skip
    refine w_iload2 dX3_residue_15 (w_iload1 dX3_residue_16 (wp_iadd dX3_residue_17 (wp_goto 22 dX3_residue_18 rfl ?_)))
    refine r_i dX3_residue_22 rfl meX3_residue ?_
    refine ⟨rfl, ?_⟩
    first | exact z_tmod_pos hp.1 (by omega) | exact z_tmod_neg hp.1 (by omega)
set_option maxRecDepth 100000 in
set_option maxHeartbeats 4000000 in
theorem t_X3_inverse {h : zH} {x p : Int} (hx : 0 ≤ x ∧ x < 1000) (hp : 0 < p ∧ p < 1000) : CI yX3_inverse mX3_inverse [vI x, vI p] h (fun r h' => h' = h ∧ r = zinv x p) := by
  refine inS [some (vI x), some (vI p), none] mvX3_inverse rfl (Nat.le_of_ble_eq_true rfl) rfl ?_
  have L2 : ∀ (zm2 : Nat) (i : Nat), p.toNat - i = zm2 → (1 ≤ i ∧ (i : Int) ≤ p) → (zinvS x p (i - 1) = 0) → WP mX3_inverse (zMQ mX3_inverse (zKI (fun r h' => h' = h ∧ r = zinv x p))) 2 [some (vI x), some (vI p), some (vI (i : Int))] [] zN zGR h := by
    intro zm2
    induction zm2 using Nat.strongRecOn with | _ zm2 ih2 => ?_
    intro i hzm2 hi hz
    subst hzm2
    refine w_iload2 dX3_inverse_2 (w_iload1 dX3_inverse_3 ?_)
    refine wp_icmp_ge 24 dX3_inverse_4 rfl ⟨by omega, by omega⟩ ⟨by omega, by omega⟩ (fun c4 => ?_) (fun c4 => ?_)
    · skip
      refine wp_iconst dX3_inverse_24 ?_
      refine r_i dX3_inverse_25 rfl meX3_inverse ?_
      refine ⟨rfl, ?_⟩
      unfold zinv
      rw [show p.toNat - 1 = i - 1 by omega]
      exact hz.symm
    · skip
      refine w_iload0 dX3_inverse_7 (w_iload2 dX3_inverse_8 (wp_imul dX3_inverse_9 (w_iload1 dX3_inverse_10 ?_)))
      have hxb : 0 ≤ x * (i : Int) ∧ x * (i : Int) < 1000000 := by
        refine ⟨Int.mul_nonneg hx.1 (by omega), ?_⟩
        have h1 : x * (i : Int) ≤ 999 * (i : Int) := Int.mul_le_mul_of_nonneg_right (by omega) (by omega)
        omega
      have hxm := z_mod hp.1 (x * (i : Int))
      refine wp_irem dX3_inverse_11 (by omega) (by omega) (wp_iconst dX3_inverse_12 ?_)
      refine wp_icmp_ne 18 dX3_inverse_13 rfl ⟨by omega, by omega⟩ ⟨by omega, by omega⟩ (fun c13 => ?_) (fun c13 => ?_)
      · skip
        refine w_iinc2 dX3_inverse_18 rfl (by decide) (wp_goto 2 dX3_inverse_21 rfl ?_)
        exact ih2 _ (by omega) (i + 1) rfl ⟨by omega, by omega⟩ (by
          rw [show i + 1 - 1 = i - 1 + 1 by omega]
          show (if zinvS x p (i - 1) ≠ 0 then _ else if _ then _ else _) = _
          rw [if_neg (fun q => q hz), if_neg (by rw [show i - 1 + 1 = i by omega]; omega)])
      · skip
        refine w_iload2 dX3_inverse_16 ?_
        refine r_i dX3_inverse_17 rfl meX3_inverse ?_
        refine ⟨rfl, ?_⟩
        have h1 : zinvS x p i = (i : Int) := by
          have e : i = i - 1 + 1 := by omega
          rw [e]
          show (if zinvS x p (i - 1) ≠ 0 then _ else if _ then _ else _) = _
          rw [if_neg (fun q => q hz), if_pos (by rw [← e]; omega), ← e]
        unfold zinv
        rw [zinvS_keep (by rw [h1]; omega) _ (by omega), h1]
  refine wp_iconst dX3_inverse_0 (w_istore2 dX3_inverse_1 rfl (by decide) ?_)
  exact L2 _ 1 rfl ⟨by omega, by omega⟩ rfl
set_option maxRecDepth 100000 in
set_option maxHeartbeats 4000000 in
theorem t_X3_horner {h : zH} {a N : Nat} {t p : Int} (ha : zIs zN a (10, N)) (ht : 0 ≤ t ∧ t < p) (hp : 0 < p ∧ p ≤ 31) (hf : ∀ j, j < N → 0 ≤ h a j ∧ h a j < p) : CI yX3_horner mX3_horner [vR a, vI t, vI p] h (fun r h' => h' = h ∧ r = zhor t p N (h a)) := by
  refine inS [some (vR a), some (vI t), some (vI p), none, none] mvX3_horner rfl (Nat.le_of_ble_eq_true rfl) rfl ?_
  have hNs : N < 2147483648 := by
    have := zSH_small a
    rw [ha.1] at this
    exact this
  have L19 : ∀ (zm19 : Nat) (e : Nat) (s vi : Int), e = zm19 → (e ≤ N) → (vi = (e : Int) - 1) → (s = zhor t p (N - e) (fun j => h a (j + e))) → WP mX3_horner (zMQ mX3_horner (zKI (fun r h' => h' = h ∧ r = zhor t p N (h a)))) 19 [some (vR a), some (vI t), some (vI p), some (vI s), some (vI vi)] [] zN zGR h := by
    intro zm19
    induction zm19 using Nat.strongRecOn with | _ zm19 ih19 => ?_
    intro e s vi hzm19 he hv hs
    subst hzm19
    have hsb := zhor_in (t := t) hp.1 (N - e) (fun j => h a (j + e))
    rw [← hs] at hsb
    have hst := z_mul hsb ht hp.2
    refine w_iload4 dX3_horner_19 ?_
    refine wp_if_lt 41 dX3_horner_21 rfl ⟨by omega, by omega⟩ (fun c21 => ?_) (fun c21 => ?_)
    · skip
      refine w_iload3 dX3_horner_41 ?_
      refine r_i dX3_horner_42 rfl meX3_horner ?_
      refine ⟨rfl, ?_⟩
      rw [hs, show e = 0 by omega]
      rfl
    · skip
      have hfe := hf (e - 1) (by omega)
      refine w_iload3 dX3_horner_24 (w_iload1 dX3_horner_25 (wp_imul dX3_horner_26 (w_aload0 dX3_horner_27 (w_iload4 dX3_horner_28 (x_iald (e - 1) dX3_horner_30 ha (by omega) (by omega) (wp_iadd dX3_horner_31 (w_iload2 dX3_horner_32 (wp_irem dX3_horner_33 (by omega) (by omega) (w_istore3 dX3_horner_34 rfl (by decide) ?_)))))))))
      refine w_iinc4 dX3_horner_35 rfl (by decide) (wp_goto 19 dX3_horner_38 rfl ?_)
      refine ih19 (e - 1) (by omega) (e - 1) _ _ rfl (by omega) (by omega) ?_
      rw [show N - (e - 1) = N - e + 1 by omega]
      show _ = (zhor t p (N - e) (fun j => h a (j + 1 + (e - 1))) * t + h a (0 + (e - 1))) % p
      rw [zhor_congr (N - e) (fun j => h a (j + 1 + (e - 1))) (fun j => h a (j + e)) (fun j _ => by rw [show j + 1 + (e - 1) = j + e by omega]), ← hs, Nat.zero_add]
  refine w_aload0 dX3_horner_0 (wp_ifnull dX3_horner_1 (by have := (ha).2.1; omega) (w_iload2 dX3_horner_4 (wp_iconst dX3_horner_5 ?_)))
  refine wp_icmp_ge 11 dX3_horner_6 rfl ⟨by omega, by omega⟩ ⟨by omega, by omega⟩ (fun c6 => ?_) (fun c6 => absurd c6 (by omega))
  refine wp_iconst dX3_horner_11 (w_istore3 dX3_horner_12 rfl (by decide) (w_aload0 dX3_horner_13 (wp_alen dX3_horner_14 ha (by decide) (wp_iconst dX3_horner_15 (wp_isub dX3_horner_16 (w_istore4 dX3_horner_17 rfl (by decide) ?_))))))
  exact L19 _ N 0 _ rfl (Nat.le_refl N) rfl (by rw [Nat.sub_self]; rfl)
