
/-- the polynomials: their numbers -/
def zPoL : List Nat := [2, 98, 103, 108, 113, 118, 123, 128, 133]
def zPo (a : Nat) : Prop := a ∈ zPoL
theorem zPo_is {a : Nat} (h : zPo a) : zIs zN a (3, 2) := by
  have q : ∀ a ∈ zPoL, zSH a = (3, 2) ∧ 0 < a ∧ a ≤ zN := by decide +kernel
  exact q a h
theorem zPo_t {a : Nat} (h : zPo a) : zIs zN (a + 1) (11, 3) := by
  have q : ∀ a ∈ zPoL, zSH (a + 1) = (11, 3) ∧ 0 < a + 1 ∧ a + 1 ≤ zN := by decide +kernel
  exact q a h
theorem zPo_g {a : Nat} (h : zPo a) : zGR a 1 = a + 1 := by
  have q : ∀ a ∈ zPoL, zGR a 1 = a + 1 := by decide +kernel
  exact q a h
theorem zPo_r {a : Nat} (h : zPo a) {k : Nat} (hk : k < 3) : zIs zN (a + 2 + k) (10, 27) := by
  have q : ∀ a ∈ zPoL, ∀ k, k < 3 → zSH (a + 2 + k) = (10, 27) ∧ 0 < a + 2 + k ∧ a + 2 + k ≤ zN := by decide +kernel
  exact q a h k hk
theorem zPo_q {a : Nat} (h : zPo a) {k : Nat} (hk : k < 3) : zGR (a + 1) k = a + 2 + k := by
  have q : ∀ a ∈ zPoL, ∀ k, k < 3 → zGR (a + 1) k = a + 2 + k := by decide +kernel
  exact q a h k hk
/-- p and the coefficients are numbers of a field -/
def zSt (p : Int) (c : Nat → Nat → Int) : Prop := (p = 5 ∨ p = 7 ∨ p = 11 ∨ p = 13 ∨ p = 17 ∨ p = 19 ∨ p = 23 ∨ p = 29 ∨ p = 31) ∧ ∀ k j, 0 ≤ c k j ∧ c k j < p
theorem zSt.p {p : Int} {c : Nat → Nat → Int} (h : zSt p c) : 5 ≤ p ∧ p ≤ 31 := by
  have := h.1
  omega
/-- the polynomials object a holds p and c -/
def zPol (p : Int) (c : Nat → Nat → Int) (a : Nat) (h : zH) : Prop := h a 0 = p ∧ ∀ k, k < 3 → ∀ j, j < 27 → h (a + 2 + k) j = c k j
/-- an array of k places written anew -/
def zfl (h : zH) (a n : Nat) (F : Nat → Int) : zH := fun a' j => if a' = a ∧ j < n then F j else h a' j
theorem zfl_0 {h : zH} {a : Nat} {F : Nat → Int} : zfl h a 0 F = h := by
  funext a' j
  unfold zfl
  rw [if_neg (by omega)]
theorem zfl_s {h : zH} {a n : Nat} {F : Nat → Int} {v : Int} (hv : v = F n) : zup (zfl h a n F) a n v = zfl h a (n + 1) F := by
  funext a' j
  unfold zup zfl
  by_cases e : a' = a
  · subst e
    by_cases e2 : j = n
    · subst e2
      rw [if_pos ⟨rfl, rfl⟩, if_pos ⟨rfl, by omega⟩, hv]
    · rw [if_neg (by omega)]
      by_cases e3 : j < n
      · rw [if_pos ⟨rfl, e3⟩, if_pos ⟨rfl, by omega⟩]
      · rw [if_neg (by omega), if_neg (by omega)]
  · rw [if_neg (by omega), if_neg (by omega), if_neg (by omega)]
theorem zfl_o {h : zH} {a n : Nat} {F : Nat → Int} {b j : Nat} (e : ¬ (b = a ∧ j < n)) : zfl h a n F b j = h b j := if_neg e
theorem zfl_i {h : zH} {a n : Nat} {F : Nat → Int} {j : Nat} (e : j < n) : zfl h a n F a j = F j := if_pos ⟨rfl, e⟩
theorem zfl_a {h : zH} {a n : Nat} {F : Nat → Int} {b : Nat} (e : b ≠ a) : zfl h a n F b = h b := funext fun _ => if_neg fun q => e q.1
/-- how many of n numbers aren't 0 -/
def zcnt (f : Nat → Int) : Nat → Int
  | 0 => 0
  | n + 1 => zcnt f n + (if f n = 0 then 0 else 1)
theorem zcnt_in (f : Nat → Int) : ∀ n, 0 ≤ zcnt f n ∧ zcnt f n ≤ n := by
  intro n
  induction n with
  | zero => exact ⟨Int.le_refl 0, Int.le_refl 0⟩
  | succ n ih =>
    unfold zcnt
    split <;> omega
theorem zcnt_congr {f g : Nat → Int} : ∀ n, (∀ j, j < n → f j = g j) → zcnt f n = zcnt g n := by
  intro n
  induction n with
  | zero => intro _; rfl
  | succ n ih =>
    intro h
    unfold zcnt
    rw [ih (fun j hj => h j (by omega)), h n (by omega)]
def zexp (v pl : Nat) : Nat := if v = 0 then pl / 9 else if v = 1 then pl / 3 % 3 else pl % 3
def zdeg (f : Nat → Int) (v : Nat) : Nat → Nat
  | 0 => 0
  | n + 1 => if f n = 0 then zdeg f v n else max (zdeg f v n) (zexp v n)
theorem zexp_le {v pl : Nat} (h : pl < 27) : zexp v pl ≤ 2 := by
  unfold zexp
  split
  · omega
  · split <;> omega
theorem zdeg_le {f : Nat → Int} {v : Nat} : ∀ n, n ≤ 27 → zdeg f v n ≤ 2 := by
  intro n
  induction n with
  | zero => intro _; exact Nat.zero_le 2
  | succ n ih =>
    intro h
    unfold zdeg
    have := zexp_le (v := v) (pl := n) (by omega)
    split
    · exact ih (by omega)
    · exact Nat.max_le.mpr ⟨ih (by omega), this⟩
theorem zdeg_congr {f g : Nat → Int} {v : Nat} : ∀ n, (∀ j, j < n → f j = g j) → zdeg f v n = zdeg g v n := by
  intro n
  induction n with
  | zero => intro _; rfl
  | succ n ih =>
    intro h
    unfold zdeg
    rw [ih (fun j hj => h j (by omega)), h n (by omega)]
def zcut (p : Int) (c : Nat → Nat → Int) (k w : Nat) (t : Int) : Int := (c k (3 * w) + t * (c k (3 * w + 1) + t * c k (3 * w + 2))) % p
def zdgA (p : Int) (c : Nat → Nat → Int) (k v : Nat) (t : Int) : Nat → Nat
  | 0 => 0
  | w + 1 => if zcut p c k w t = 0 then zdgA p c k v t w else max (zdgA p c k v t w) (if v = 0 then w / 3 else w % 3)
theorem zdgA_le {p : Int} {c : Nat → Nat → Int} {k v : Nat} {t : Int} : ∀ n, n ≤ 9 → zdgA p c k v t n ≤ 2 := by
  intro n
  induction n with
  | zero => intro _; exact Nat.zero_le 2
  | succ n ih =>
    intro h
    unfold zdgA
    split
    · exact ih (by omega)
    · refine Nat.max_le.mpr ⟨ih (by omega), ?_⟩
      split <;> omega
def ztot (c : Nat → Nat → Int) : Int := zcnt (c 0) 27 + zcnt (c 1) 27 + zcnt (c 2) 27
def zval (p : Int) (c : Nat → Nat → Int) (k : Nat) (x y t : Int) : Int := zhor x p 3 (fun i => zhor y p 3 (fun j => zcut p c k (3 * i + j) t))
def zgd (c : Nat → Nat → Int) (v : Nat) : Nat := max (zdeg (c 0) v 27) (max (zdeg (c 1) v 27) (zdeg (c 2) v 27))
theorem zgd_le (c : Nat → Nat → Int) (v : Nat) : zgd c v ≤ 2 := by
  have h0 := zdeg_le (f := c 0) (v := v) 27 (Nat.le_refl _)
  have h1 := zdeg_le (f := c 1) (v := v) 27 (Nat.le_refl _)
  have h2 := zdeg_le (f := c 2) (v := v) 27 (Nat.le_refl _)
  unfold zgd
  omega
def zdr1 (p : Int) (c : Nat → Nat → Int) (t : Int) (k : Nat) : Prop := zdgA p c k 0 t 9 < zdeg (c k) 0 27 ∨ zdgA p c k 1 t 9 < zdeg (c k) 1 27
def zdrop (p : Int) (c : Nat → Nat → Int) (t : Int) : Prop := ∃ k, k < 3 ∧ zdr1 p c t k
/-- products of numbers of the field, with slack -/
theorem z_b1 {p a b : Int} (hp : 5 ≤ p ∧ p ≤ 31) (ha : 0 ≤ a ∧ a < p) (hb : 0 ≤ b ∧ b < p) : 0 ≤ a * b ∧ a * b ≤ 900 := z_mul ha hb hp.2
theorem z_b2 {a b M N : Int} (ha : 0 ≤ a ∧ a ≤ M) (hb : 0 ≤ b ∧ b ≤ N) : 0 ≤ a * b ∧ a * b ≤ M * N := by
  refine ⟨Int.mul_nonneg ha.1 hb.1, ?_⟩
  have h1 : a * b ≤ M * b := Int.mul_le_mul_of_nonneg_right ha.2 hb.1
  have h2 : M * b ≤ M * N := Int.mul_le_mul_of_nonneg_left hb.2 (by omega)
  omega
theorem z_cut3 {p : Int} {c : Nat → Nat → Int} (hs : zSt p c) {t : Int} (ht : 0 ≤ t ∧ t < p) (k i j e : Nat) : 0 ≤ c k i + t * (c k j + t * c k e) ∧ c k i + t * (c k j + t * c k e) ≤ 30000 := by
  have hp := hs.p
  have h1 := hs.2 k i
  have h2 := hs.2 k j
  have h3 := z_b1 hp ht (hs.2 k e)
  have h4 : 0 ≤ c k j + t * c k e ∧ c k j + t * c k e ≤ 930 := by omega
  have h5 := z_b2 (a := t) (b := c k j + t * c k e) (M := 30) (N := 930) (by omega) h4
  omega
theorem zcut_in {p : Int} {c : Nat → Nat → Int} (hs : zSt p c) (k w : Nat) (t : Int) : 0 ≤ zcut p c k w t ∧ zcut p c k w t < p := z_mod (by have := hs.p; omega) _

set_option maxRecDepth 100000 in
set_option maxHeartbeats 4000000 in
theorem t_J7_fill_53178 {h : zH} {a N : Nat} {v : Int} (ha : zIs zN a (10, N)) : CV yJ7_fill_53178 mJ7_fill_53178 [vR a, vI v] h (fun h' => h' = zfl h a N (fun _ => v)) := by
  refine inS [some (vR a), some (vI v), none, none] mvJ7_fill_53178 rfl (Nat.le_of_ble_eq_true rfl) rfl ?_
  have hNs : N < 2147483648 := by
    have := zSH_small a
    rw [ha.1] at this
    exact this
  have L5 : ∀ (zm5 : Nat) (i : Nat) (h' : zH) (vi : Int), N - i = zm5 → (i ≤ N) → (vi = (i : Int)) → (h' = zfl h a i (fun _ => v)) → WP mJ7_fill_53178 (zMQ mJ7_fill_53178 (zKV (fun h' => h' = zfl h a N (fun _ => v)))) 5 [some (vR a), some (vI v), some (vI vi), some (vI (N : Int))] [] zN zGR h' := by
    intro zm5
    induction zm5 using Nat.strongRecOn with | _ zm5 ih5 => ?_
    intro i h' vi hzm5 hi hv hh
    subst hzm5
    subst hh
    refine w_iload2 dJ7_fill_53178_5 (w_iload3 dJ7_fill_53178_6 ?_)
    refine wp_icmp_ge 20 dJ7_fill_53178_7 rfl ⟨by omega, by omega⟩ ⟨by omega, by omega⟩ (fun c7 => ?_) (fun c7 => ?_)
    · skip
      refine r_v dJ7_fill_53178_20 rfl meJ7_fill_53178 ?_
      rw [show i = N by omega]
    · skip
      refine w_aload0 dJ7_fill_53178_10 (w_iload2 dJ7_fill_53178_11 (w_iload1 dJ7_fill_53178_12 (x_iast i dJ7_fill_53178_13 ha hv (by omega) (w_iinc2 dJ7_fill_53178_14 rfl (by decide) (wp_goto 5 dJ7_fill_53178_17 rfl ?_)))))
      exact ih5 _ (by omega) (i + 1) _ _ rfl (by omega) (by omega) (zfl_s rfl)
  refine wp_iconst dJ7_fill_53178_0 (w_istore2 dJ7_fill_53178_1 rfl (by decide) (w_aload0 dJ7_fill_53178_2 (wp_alen dJ7_fill_53178_3 ha (by decide) (w_istore3 dJ7_fill_53178_4 rfl (by decide) ?_))))
  exact L5 _ 0 h 0 rfl (Nat.zero_le N) rfl zfl_0.symm
set_option maxRecDepth 100000 in
set_option maxHeartbeats 4000000 in
theorem t_X4_termsOf {h : zH} {a : Nat} (ha : zPo a) {kk : Int} {k : Nat} (hk : kk = k) (hk3 : k < 3) : CR yX4_termsOf mX4_termsOf [vR a, vI kk] h (fun r h' => h' = h ∧ r = a + 2 + k) := by
  refine inV [some (vR a), some (vI kk)] mvX4_termsOf rfl (Nat.le_of_ble_eq_true rfl) rfl ?_
  refine w_iload1 dX4_termsOf_0 (wp_iconst dX4_termsOf_1 ?_)
  refine wp_icmp_ge 14 dX4_termsOf_2 rfl ⟨by omega, by omega⟩ ⟨by omega, by omega⟩ (fun c2 => ?_) (fun c2 => ?_)
  · skip
    refine w_iload1 dX4_termsOf_14 (wp_iconst dX4_termsOf_15 ?_)
    refine wp_icmp_ge 28 dX4_termsOf_16 rfl ⟨by omega, by omega⟩ ⟨by omega, by omega⟩ (fun c16 => ?_) (fun c16 => ?_)
    · skip
      refine w_aload0 dX4_termsOf_28 (wp_getr (a + 1) dX4_termsOf_29 fl_RX4_17 (zPo_is ha) (zPo_g ha) (wp_iconst dX4_termsOf_32 (x_aald 2 (a + 2 + 2) dX4_termsOf_33 (zPo_t ha) (Or.inl rfl) rfl (by decide) (zPo_q ha (by decide)) ?_)))
      refine r_a dX4_termsOf_34 rfl meX4_termsOf ?_
      exact ⟨rfl, by omega⟩
    · skip
      refine w_aload0 dX4_termsOf_19 (wp_getr (a + 1) dX4_termsOf_20 fl_RX4_17 (zPo_is ha) (zPo_g ha) (wp_iconst dX4_termsOf_23 (x_aald 1 (a + 2 + 1) dX4_termsOf_24 (zPo_t ha) (Or.inl rfl) rfl (by decide) (zPo_q ha (by decide)) (wp_goto 34 dX4_termsOf_25 rfl ?_))))
      refine r_a dX4_termsOf_34 rfl meX4_termsOf ?_
      exact ⟨rfl, by omega⟩
  · skip
    refine w_aload0 dX4_termsOf_5 (wp_getr (a + 1) dX4_termsOf_6 fl_RX4_17 (zPo_is ha) (zPo_g ha) (wp_iconst dX4_termsOf_9 (x_aald 0 (a + 2 + 0) dX4_termsOf_10 (zPo_t ha) (Or.inl rfl) rfl (by decide) (zPo_q ha (by decide)) (wp_goto 34 dX4_termsOf_11 rfl ?_))))
    refine r_a dX4_termsOf_34 rfl meX4_termsOf ?_
    exact ⟨rfl, by omega⟩
set_option maxRecDepth 100000 in
set_option maxHeartbeats 4000000 in
theorem t_X4_term {h : zH} {a : Nat} (ha : zPo a) {kk : Int} {k : Nat} (hk : kk = k) (hk3 : k < 3) {jj : Int} {j : Nat} (hj : jj = j) (hj3 : j < 27) : CI yX4_term mX4_term [vR a, vI kk, vI jj] h (fun r h' => h' = h ∧ r = h (a + 2 + k) j) := by
  refine inV [some (vR a), some (vI kk), some (vI jj)] mvX4_term rfl (Nat.le_of_ble_eq_true rfl) rfl ?_
  refine w_iload2 dX4_term_0 ?_
  refine wp_if_lt 20 dX4_term_1 rfl ⟨by omega, by omega⟩ (fun c1 => absurd c1 (by omega)) (fun c1 => ?_)
  refine w_iload2 dX4_term_4 (wp_bipush dX4_term_5 (by decide) ?_)
  refine wp_icmp_ge 20 dX4_term_7 rfl ⟨by omega, by omega⟩ ⟨by omega, by omega⟩ (fun c7 => absurd c7 (by omega)) (fun c7 => ?_)
  refine w_aload0 dX4_term_10 (w_iload1 dX4_term_11 ?_)
  apply v_r1 (M := mX4_term) dX4_term_12 lk_RX4_20 mvX4_termsOf (by decide) meX4_term (zPo_is ha) (Nat.le_of_ble_eq_true rfl)
  · exact t_X4_termsOf ha hk hk3
  intro x12 h12 hP12
  obtain ⟨eh12, ex12⟩ := hP12
  replace eh12 := eh12.symm
  subst eh12
  replace ex12 := ex12.symm
  subst ex12
  refine w_iload2 dX4_term_15 (x_iald j dX4_term_16 (zPo_r ha hk3) hj hj3 (wp_goto 21 dX4_term_17 rfl ?_))
  refine r_i dX4_term_21 rfl meX4_term ?_
  exact ⟨rfl, rfl⟩
set_option maxRecDepth 100000 in
set_option maxHeartbeats 4000000 in
theorem t_X4_setTerm {h : zH} {a : Nat} (ha : zPo a) {kk : Int} {k : Nat} (hk : kk = k) (hk3 : k < 3) {jj v : Int} {j : Nat} (hj : jj = j) (hj3 : j < 27) : CV yX4_setTerm mX4_setTerm [vR a, vI kk, vI jj, vI v] h (fun h' => h' = zup h (a + 2 + k) j v) := by
  refine inV [some (vR a), some (vI kk), some (vI jj), some (vI v)] mvX4_setTerm rfl (Nat.le_of_ble_eq_true rfl) rfl ?_
  refine w_iload2 dX4_setTerm_0 ?_
  refine wp_if_lt 18 dX4_setTerm_1 rfl ⟨by omega, by omega⟩ (fun c1 => absurd c1 (by omega)) (fun c1 => ?_)
  refine w_iload2 dX4_setTerm_4 (wp_bipush dX4_setTerm_5 (by decide) ?_)
  refine wp_icmp_ge 18 dX4_setTerm_7 rfl ⟨by omega, by omega⟩ ⟨by omega, by omega⟩ (fun c7 => absurd c7 (by omega)) (fun c7 => ?_)
  refine w_aload0 dX4_setTerm_10 (w_iload1 dX4_setTerm_11 ?_)
  apply v_r1 (M := mX4_setTerm) dX4_setTerm_12 lk_RX4_20 mvX4_termsOf (by decide) meX4_setTerm (zPo_is ha) (Nat.le_of_ble_eq_true rfl)
  · exact t_X4_termsOf ha hk hk3
  intro x12 h12 hP12
  obtain ⟨eh12, ex12⟩ := hP12
  replace eh12 := eh12.symm
  subst eh12
  replace ex12 := ex12.symm
  subst ex12
  refine w_iload2 dX4_setTerm_15 (w_iload3 dX4_setTerm_16 (x_iast j dX4_setTerm_17 (zPo_r ha hk3) hj hj3 ?_))
  refine r_v dX4_setTerm_18 rfl meX4_setTerm ?_
  rfl
set_option maxRecDepth 100000 in
set_option maxHeartbeats 4000000 in
theorem t_X4_erase {h : zH} {a : Nat} (ha : zPo a) : CV yX4_erase mX4_erase [vR a] h (fun h' => h' = fun b j => if (a + 2 ≤ b ∧ b < a + 2 + 3) ∧ j < 27 then 0 else h b j) := by
  refine inV [some (vR a), none] mvX4_erase rfl (Nat.le_of_ble_eq_true rfl) rfl ?_
  have L2 : ∀ (zm2 : Nat) (i : Nat) (h' : zH) (vi : Int), 3 - i = zm2 → (i ≤ 3) → (vi = (i : Int)) → (h' = fun b j => if (a + 2 ≤ b ∧ b < a + 2 + i) ∧ j < 27 then 0 else h b j) → WP mX4_erase (zMQ mX4_erase (zKV (fun h' => h' = fun b j => if (a + 2 ≤ b ∧ b < a + 2 + 3) ∧ j < 27 then 0 else h b j))) 2 [some (vR a), some (vI vi)] [] zN zGR h' := by
    intro zm2
    induction zm2 using Nat.strongRecOn with | _ zm2 ih2 => ?_
    intro i h' vi hzm2 hi hv hh
    subst hzm2
    refine w_iload1 dX4_erase_2 (wp_iconst dX4_erase_3 ?_)
    refine wp_icmp_ge 23 dX4_erase_4 rfl ⟨by omega, by omega⟩ ⟨by omega, by omega⟩ (fun c4 => ?_) (fun c4 => ?_)
    · skip
      refine r_v dX4_erase_23 rfl meX4_erase ?_
      rw [hh, show i = 3 by omega]
    · skip
      refine w_aload0 dX4_erase_7 (wp_getr (a + 1) dX4_erase_8 fl_RX4_17 (zPo_is ha) (zPo_g ha) (w_iload1 dX4_erase_11 (x_aald i (a + 2 + i) dX4_erase_12 (zPo_t ha) (Or.inl rfl) hv (by omega) (zPo_q ha (by omega)) (wp_iconst dX4_erase_13 ?_))))
      apply s_v2 (M := mX4_erase) dX4_erase_14 lk_RX4_24 mvJ7_fill_53178 (by decide) meX4_erase (Nat.le_of_ble_eq_true rfl)
      · exact t_J7_fill_53178 (zPo_r ha (by omega))
      intro h14 hP14
      replace hP14 := hP14.symm
      subst hP14
      refine w_iinc1 dX4_erase_17 rfl (by decide) (wp_goto 2 dX4_erase_20 rfl ?_)
      refine ih2 _ (by omega) (i + 1) _ _ rfl (by omega) (by omega) ?_
      subst hh
      funext b j
      unfold zfl
      dsimp only
      by_cases e : b = a + 2 + i ∧ j < 27
      · rw [if_pos e, if_pos (by omega)]
      · rw [if_neg e]
        by_cases e2 : (a + 2 ≤ b ∧ b < a + 2 + i) ∧ j < 27
        · rw [if_pos e2, if_pos (by omega)]
        · rw [if_neg e2, if_neg (by omega)]
  refine wp_iconst dX4_erase_0 (w_istore1 dX4_erase_1 rfl (by decide) ?_)
  exact L2 _ 0 h 0 rfl (Nat.zero_le 3) rfl (by funext b j; rw [if_neg (by omega)])
set_option maxRecDepth 100000 in
set_option maxHeartbeats 4000000 in
theorem t_X4_replace {h : zH} {a b : Nat} (ha : zPo a) {kk : Int} {k : Nat} (hk : kk = k) (hk3 : k < 3) (hb : zIs zN b (10, 27)) (hne : b ≠ a + 2 + k) : CV yX4_replace mX4_replace [vR a, vI kk, vR b] h (fun h' => h' = zfl h (a + 2 + k) 27 (h b)) := by
  refine inV [some (vR a), some (vI kk), some (vR b), none, none] mvX4_replace rfl (Nat.le_of_ble_eq_true rfl) rfl ?_
  have L9 : ∀ (zm9 : Nat) (i : Nat) (h' : zH) (vi : Int), 27 - i = zm9 → (i ≤ 27) → (vi = (i : Int)) → (h' = zfl h (a + 2 + k) i (h b)) → WP mX4_replace (zMQ mX4_replace (zKV (fun h' => h' = zfl h (a + 2 + k) 27 (h b)))) 9 [some (vR a), some (vI kk), some (vR b), some (vR (a + 2 + k)), some (vI vi)] [] zN zGR h' := by
    intro zm9
    induction zm9 using Nat.strongRecOn with | _ zm9 ih9 => ?_
    intro i h' vi hzm9 hi hv hh
    subst hzm9
    refine w_aload2 dX4_replace_9 (wp_ifnull dX4_replace_10 (by have := (hb).2.1; omega) (w_iload4 dX4_replace_13 (w_aload3 dX4_replace_15 (wp_alen dX4_replace_16 (zPo_r ha hk3) (by decide) ?_))))
    refine wp_icmp_ge 41 dX4_replace_17 rfl ⟨by omega, by omega⟩ ⟨by omega, by omega⟩ (fun c17 => ?_) (fun c17 => ?_)
    · skip
      refine r_v dX4_replace_41 rfl meX4_replace ?_
      rw [hh, show i = 27 by omega]
    · skip
      refine w_iload4 dX4_replace_20 (w_aload2 dX4_replace_22 (wp_alen dX4_replace_23 hb (by decide) ?_))
      refine wp_icmp_ge 41 dX4_replace_24 rfl ⟨by omega, by omega⟩ ⟨by omega, by omega⟩ (fun c24 => absurd c24 (by omega)) (fun c24 => ?_)
      refine w_aload3 dX4_replace_27 (w_iload4 dX4_replace_28 (w_aload2 dX4_replace_30 (w_iload4 dX4_replace_31 (x_iald i dX4_replace_33 hb hv (by omega) (x_iast i dX4_replace_34 (zPo_r ha hk3) hv (by omega) (w_iinc4 dX4_replace_35 rfl (by decide) (wp_goto 9 dX4_replace_38 rfl ?_)))))))
      exact ih9 _ (by omega) (i + 1) _ _ rfl (by omega) (by omega) (by rw [hh]; exact zfl_s (by rw [zfl_a hne]))
  refine w_aload0 dX4_replace_0 (w_iload1 dX4_replace_1 ?_)
  apply v_r1 (M := mX4_replace) dX4_replace_2 lk_RX4_20 mvX4_termsOf (by decide) meX4_replace (zPo_is ha) (Nat.le_of_ble_eq_true rfl)
  · exact t_X4_termsOf ha hk hk3
  intro x2 h2 hP2
  obtain ⟨eh2, ex2⟩ := hP2
  replace eh2 := eh2.symm
  subst eh2
  replace ex2 := ex2.symm
  subst ex2
  refine w_astore3 dX4_replace_5 rfl (by decide) (wp_iconst dX4_replace_6 (w_istore4 dX4_replace_7 rfl (by decide) ?_))
  exact L9 _ 0 h 0 rfl (Nat.zero_le 27) rfl zfl_0.symm
set_option maxRecDepth 100000 in
set_option maxHeartbeats 4000000 in
theorem t_X4_copyFrom {h : zH} {a b : Nat} (ha : zPo a) (hb : zPo b) (hne : b ≠ a) : CV yX4_copyFrom mX4_copyFrom [vR a, vR b] h (fun h' => h' = fun q j => if q = a ∧ j = 0 then h b 0 else if (a + 2 ≤ q ∧ q < a + 2 + 3) ∧ j < 27 then h (b + (q - a)) j else h q j) := by
  refine inV [some (vR a), some (vR b), none] mvX4_copyFrom rfl (Nat.le_of_ble_eq_true rfl) rfl ?_
  have hfar : ∀ i, i < 3 → ∀ j, j < 3 → b + 2 + i ≠ a + 2 + j := by
    have q : ∀ a ∈ zPoL, ∀ b ∈ zPoL, b ≠ a → ∀ i, i < 3 → ∀ j, j < 3 → b + 2 + i ≠ a + 2 + j := by decide +kernel
    exact q a ha b hb hne
  have hfar2 : ∀ i, i < 3 → b + 2 + i ≠ a := by
    have q : ∀ a ∈ zPoL, ∀ b ∈ zPoL, b ≠ a → ∀ i, i < 3 → b + 2 + i ≠ a := by decide +kernel
    exact q a ha b hb hne
  have L10 : ∀ (zm10 : Nat) (i : Nat) (h' : zH) (vi : Int), 3 - i = zm10 → (i ≤ 3) → (vi = (i : Int)) → (h' = fun q j => if q = a ∧ j = 0 then h b 0 else if (a + 2 ≤ q ∧ q < a + 2 + i) ∧ j < 27 then h (b + (q - a)) j else h q j) → WP mX4_copyFrom (zMQ mX4_copyFrom (zKV (fun h' => h' = fun q j => if q = a ∧ j = 0 then h b 0 else if (a + 2 ≤ q ∧ q < a + 2 + 3) ∧ j < 27 then h (b + (q - a)) j else h q j))) 10 [some (vR a), some (vR b), some (vI vi)] [] zN zGR h' := by
    intro zm10
    induction zm10 using Nat.strongRecOn with | _ zm10 ih10 => ?_
    intro i h' vi hzm10 hi hv hh
    subst hzm10
    refine w_iload2 dX4_copyFrom_10 (wp_iconst dX4_copyFrom_11 ?_)
    refine wp_icmp_ge 31 dX4_copyFrom_12 rfl ⟨by omega, by omega⟩ ⟨by omega, by omega⟩ (fun c12 => ?_) (fun c12 => ?_)
    · skip
      refine r_v dX4_copyFrom_31 rfl meX4_copyFrom ?_
      rw [hh, show i = 3 by omega]
    · skip
      refine w_aload0 dX4_copyFrom_15 (w_iload2 dX4_copyFrom_16 (w_aload1 dX4_copyFrom_17 (w_iload2 dX4_copyFrom_18 ?_)))
      apply v_r1 (M := mX4_copyFrom) dX4_copyFrom_19 lk_RX4_20 mvX4_termsOf (by decide) meX4_copyFrom (zPo_is hb) (Nat.le_of_ble_eq_true rfl)
      · exact t_X4_termsOf hb hv (by omega)
      intro x19 h19 hP19
      obtain ⟨eh19, ex19⟩ := hP19
      replace eh19 := eh19.symm
      subst eh19
      replace ex19 := ex19.symm
      subst ex19
      apply v_v2 (M := mX4_copyFrom) dX4_copyFrom_22 lk_RX4_30 mvX4_replace (by decide) meX4_copyFrom (zPo_is ha) (Nat.le_of_ble_eq_true rfl)
      · exact t_X4_replace ha hv (by omega) (zPo_r hb (by omega)) (hfar i (by omega) i (by omega))
      intro h22 hP22
      replace hP22 := hP22.symm
      subst hP22
      refine w_iinc2 dX4_copyFrom_25 rfl (by decide) (wp_goto 10 dX4_copyFrom_28 rfl ?_)
      refine ih10 _ (by omega) (i + 1) _ _ rfl (by omega) (by omega) ?_
      subst hh
      funext q j
      unfold zfl
      dsimp only
      by_cases e : q = a + 2 + i ∧ j < 27
      · have f0 := hfar i (by omega) 0 (by omega)
        have f1 := hfar i (by omega) 1 (by omega)
        have f2 := hfar i (by omega) 2 (by omega)
        have f3 := hfar2 i (by omega)
        rw [if_pos e, if_neg (by omega), if_neg (by omega), if_neg (by omega), if_pos (by omega), show b + 2 + i = b + (q - a) by omega]
      · rw [if_neg e]
        by_cases e0 : q = a ∧ j = 0
        · rw [if_pos e0, if_pos e0]
        · rw [if_neg e0, if_neg e0]
          by_cases e2 : (a + 2 ≤ q ∧ q < a + 2 + i) ∧ j < 27
          · rw [if_pos e2, if_pos (by omega)]
          · rw [if_neg e2, if_neg (by omega)]
  refine w_aload0 dX4_copyFrom_0 (w_aload1 dX4_copyFrom_1 (wp_geti dX4_copyFrom_2 fl_RX4_9 (zPo_is hb) (wp_puti dX4_copyFrom_5 fl_RX4_9 (zPo_is ha) rfl (wp_iconst dX4_copyFrom_8 (w_istore2 dX4_copyFrom_9 rfl (by decide) ?_)))))
  refine L10 _ 0 _ 0 rfl (Nat.zero_le 3) rfl ?_
  funext q j
  unfold zup
  by_cases e : q = a ∧ j = 0
  · rw [if_pos e, if_pos e]
  · rw [if_neg e, if_neg e, if_neg (by omega)]
set_option maxRecDepth 100000 in
set_option maxHeartbeats 4000000 in
theorem t_X4_termCount {h : zH} {a : Nat} (ha : zPo a) {kk : Int} {k : Nat} (hk : kk = k) (hk3 : k < 3) {f : Nat → Int} (hf : ∀ j, j < 27 → h (a + 2 + k) j = f j ∧ 0 ≤ f j ∧ f j < 31) : CI yX4_termCount mX4_termCount [vR a, vI kk] h (fun r h' => h' = h ∧ r = zcnt f 27) := by
  refine inV [some (vR a), some (vI kk), none, none, none] mvX4_termCount rfl (Nat.le_of_ble_eq_true rfl) rfl ?_
  have L11 : ∀ (zm11 : Nat) (i : Nat) (s vi : Int), 27 - i = zm11 → (i ≤ 27) → (vi = (i : Int)) → (s = zcnt f i) → WP mX4_termCount (zMQ mX4_termCount (zKI (fun r h' => h' = h ∧ r = zcnt f 27))) 11 [some (vR a), some (vI kk), some (vR (a + 2 + k)), some (vI s), some (vI vi)] [] zN zGR h := by
    intro zm11
    induction zm11 using Nat.strongRecOn with | _ zm11 ih11 => ?_
    intro i s vi hzm11 hi hv hs
    subst hzm11
    refine w_iload4 dX4_termCount_11 (w_aload2 dX4_termCount_13 (wp_alen dX4_termCount_14 (zPo_r ha hk3) (by decide) ?_))
    refine wp_icmp_ge 34 dX4_termCount_15 rfl ⟨by omega, by omega⟩ ⟨by omega, by omega⟩ (fun c15 => ?_) (fun c15 => ?_)
    · skip
      refine w_iload3 dX4_termCount_34 ?_
      refine r_i dX4_termCount_35 rfl meX4_termCount ?_
      exact ⟨rfl, by rw [hs, show i = 27 by omega]⟩
    · skip
      obtain ⟨hfi, hf0, hf1⟩ := hf i (by omega)
      refine w_aload2 dX4_termCount_18 (w_iload4 dX4_termCount_19 (x_iald i dX4_termCount_21 (zPo_r ha hk3) hv (by omega) ?_))
      refine wp_if_eq 28 dX4_termCount_22 rfl ⟨by omega, by omega⟩ (fun c22 => ?_) (fun c22 => ?_)
      · skip
        refine w_iinc4 dX4_termCount_28 rfl (by decide) (wp_goto 11 dX4_termCount_31 rfl ?_)
        refine ih11 _ (by omega) (i + 1) _ _ rfl (by omega) (by omega) ?_
        show _ = zcnt f i + (if f i = 0 then 0 else 1)
        split <;> omega
      · skip
        refine w_iinc3 dX4_termCount_25 rfl (by decide) (w_iinc4 dX4_termCount_28 rfl (by decide) (wp_goto 11 dX4_termCount_31 rfl ?_))
        refine ih11 _ (by omega) (i + 1) _ _ rfl (by omega) (by omega) ?_
        show _ = zcnt f i + (if f i = 0 then 0 else 1)
        split <;> omega
  refine w_aload0 dX4_termCount_0 (w_iload1 dX4_termCount_1 ?_)
  apply v_r1 (M := mX4_termCount) dX4_termCount_2 lk_RX4_20 mvX4_termsOf (by decide) meX4_termCount (zPo_is ha) (Nat.le_of_ble_eq_true rfl)
  · exact t_X4_termsOf ha hk hk3
  intro x2 h2 hP2
  obtain ⟨eh2, ex2⟩ := hP2
  replace eh2 := eh2.symm
  subst eh2
  replace ex2 := ex2.symm
  subst ex2
  refine w_astore2 dX4_termCount_5 rfl (by decide) (wp_iconst dX4_termCount_6 (w_istore3 dX4_termCount_7 rfl (by decide) (wp_iconst dX4_termCount_8 (w_istore4 dX4_termCount_9 rfl (by decide) ?_))))
  exact L11 _ 0 0 0 rfl (Nat.zero_le _) rfl rfl
set_option maxRecDepth 100000 in
set_option maxHeartbeats 4000000 in
theorem t_X4_termCountOfAll {h : zH} {a : Nat} (ha : zPo a) {p : Int} {c : Nat → Nat → Int} (hs : zSt p c) (hP : zPol p c a h) : CI yX4_termCountOfAll mX4_termCountOfAll [vR a] h (fun r h' => h' = h ∧ r = ztot c) := by
  refine inV [some (vR a)] mvX4_termCountOfAll rfl (Nat.le_of_ble_eq_true rfl) rfl ?_
  have hf : ∀ k, k < 3 → ∀ j, j < 27 → h (a + 2 + k) j = c k j ∧ 0 ≤ c k j ∧ c k j < 31 := fun k hk j hj => ⟨hP.2 k hk j hj, (hs.2 k j).1, by have := (hs.2 k j).2; have := hs.p; omega⟩
  refine w_aload0 dX4_termCountOfAll_0 (wp_iconst dX4_termCountOfAll_1 ?_)
  apply v_i1 (M := mX4_termCountOfAll) dX4_termCountOfAll_2 lk_RX4_34 mvX4_termCount (by decide) meX4_termCountOfAll (zPo_is ha) (Nat.le_of_ble_eq_true rfl)
  · exact t_X4_termCount ha rfl (by decide) (hf 0 (by decide))
  intro x2 h2 hP2
  obtain ⟨eh2, ex2⟩ := hP2
  replace eh2 := eh2.symm
  subst eh2
  replace ex2 := ex2.symm
  subst ex2
  refine w_aload0 dX4_termCountOfAll_5 (wp_iconst dX4_termCountOfAll_6 ?_)
  apply v_i1 (M := mX4_termCountOfAll) dX4_termCountOfAll_7 lk_RX4_34 mvX4_termCount (by decide) meX4_termCountOfAll (zPo_is ha) (Nat.le_of_ble_eq_true rfl)
  · exact t_X4_termCount ha rfl (by decide) (hf 1 (by decide))
  intro x7 h7 hP7
  obtain ⟨eh7, ex7⟩ := hP7
  replace eh7 := eh7.symm
  subst eh7
  replace ex7 := ex7.symm
  subst ex7
  refine wp_iadd dX4_termCountOfAll_10 (w_aload0 dX4_termCountOfAll_11 (wp_iconst dX4_termCountOfAll_12 ?_))
  apply v_i1 (M := mX4_termCountOfAll) dX4_termCountOfAll_13 lk_RX4_34 mvX4_termCount (by decide) meX4_termCountOfAll (zPo_is ha) (Nat.le_of_ble_eq_true rfl)
  · exact t_X4_termCount ha rfl (by decide) (hf 2 (by decide))
  intro x13 h13 hP13
  obtain ⟨eh13, ex13⟩ := hP13
  replace eh13 := eh13.symm
  subst eh13
  replace ex13 := ex13.symm
  subst ex13
  refine wp_iadd dX4_termCountOfAll_16 ?_
  refine r_i dX4_termCountOfAll_17 rfl meX4_termCountOfAll ?_
  exact ⟨rfl, rfl⟩
set_option maxRecDepth 100000 in
set_option maxHeartbeats 4000000 in
theorem t_X4_factorAt {h : zH} {a : Nat} (ha : zPo a) {kk : Int} {k : Nat} (hk : kk = k) (hk3 : k < 3) {ww t : Int} {w : Nat} (hw : ww = w) (hw9 : w < 9) {p : Int} {c : Nat → Nat → Int} (hs : zSt p c) (hP : zPol p c a h) (ht : 0 ≤ t ∧ t < p) : CI yX4_factorAt mX4_factorAt [vR a, vI kk, vI ww, vI t] h (fun r h' => h' = h ∧ r = zcut p c k w t) := by
  refine inV [some (vR a), some (vI kk), some (vI ww), some (vI t), none, none] mvX4_factorAt rfl (Nat.le_of_ble_eq_true rfl) rfl ?_
  have hp := hs.p
  refine w_aload0 dX4_factorAt_0 (w_iload1 dX4_factorAt_1 ?_)
  apply v_r1 (M := mX4_factorAt) dX4_factorAt_2 lk_RX4_20 mvX4_termsOf (by decide) meX4_factorAt (zPo_is ha) (Nat.le_of_ble_eq_true rfl)
  · exact t_X4_termsOf ha hk hk3
  intro x2 h2 hP2
  obtain ⟨eh2, ex2⟩ := hP2
  replace eh2 := eh2.symm
  subst eh2
  replace ex2 := ex2.symm
  subst ex2
  refine w_astore4 dX4_factorAt_5 rfl (by decide) (wp_iconst dX4_factorAt_7 (w_iload2 dX4_factorAt_8 (wp_imul dX4_factorAt_9 (w_istore5 dX4_factorAt_10 rfl (by decide) (w_iload5 dX4_factorAt_12 ?_)))))
  refine wp_if_lt 27 dX4_factorAt_14 rfl ⟨by omega, by omega⟩ (fun c14 => absurd c14 (by omega)) (fun c14 => ?_)
  refine w_iload5 dX4_factorAt_17 (wp_iconst dX4_factorAt_19 (wp_iadd dX4_factorAt_20 (w_aload4 dX4_factorAt_21 (wp_alen dX4_factorAt_23 (zPo_r ha hk3) (by decide) ?_))))
  refine wp_icmp_lt 29 dX4_factorAt_24 rfl ⟨by omega, by omega⟩ ⟨by omega, by omega⟩ (fun c24 => ?_) (fun c24 => absurd c24 (by omega))
  have h1 := hP.2 k hk3 (3 * w) (by omega)
  have h2 := hP.2 k hk3 (3 * w + 1) (by omega)
  have h3 := hP.2 k hk3 (3 * w + 2) (by omega)
  have h4 := hP.1
  have h5 := z_cut3 hs ht k (3 * w) (3 * w + 1) (3 * w + 2)
  refine w_aload4 dX4_factorAt_29 (w_iload5 dX4_factorAt_31 (x_iald (3 * w) dX4_factorAt_33 (zPo_r ha hk3) (by omega) (by omega) (w_iload3 dX4_factorAt_34 (w_aload4 dX4_factorAt_35 (w_iload5 dX4_factorAt_37 (wp_iconst dX4_factorAt_39 (wp_iadd dX4_factorAt_40 (x_iald (3 * w + 1) dX4_factorAt_41 (zPo_r ha hk3) (by omega) (by omega) (w_iload3 dX4_factorAt_42 ?_)))))))))
  refine w_aload4 dX4_factorAt_43 (w_iload5 dX4_factorAt_45 (wp_iconst dX4_factorAt_47 (wp_iadd dX4_factorAt_48 (x_iald (3 * w + 2) dX4_factorAt_49 (zPo_r ha hk3) (by omega) (by omega) (wp_imul dX4_factorAt_50 (wp_iadd dX4_factorAt_51 ?_))))))
  rw [h1, h2, h3]
  refine wp_imul dX4_factorAt_52 (wp_iadd dX4_factorAt_53 (w_aload0 dX4_factorAt_54 (wp_geti dX4_factorAt_55 fl_RX4_9 (zPo_is ha) ?_)))
  rw [h4]
  apply s_i2 (M := mX4_factorAt) dX4_factorAt_58 lk_RX4_39 mvX3_residue (by decide) meX4_factorAt (Nat.le_of_ble_eq_true rfl)
  · exact t_X3_residue ⟨by omega, by omega⟩ (by omega)
  intro x58 h58 hP58
  obtain ⟨eh58, ex58⟩ := hP58
  replace eh58 := eh58.symm
  subst eh58
  replace ex58 := ex58.symm
  subst ex58
  refine r_i dX4_factorAt_61 rfl meX4_factorAt ?_
  exact ⟨rfl, rfl⟩
set_option maxRecDepth 100000 in
set_option maxHeartbeats 4000000 in
theorem t_X4_valueOf {h : zH} {a : Nat} (ha : zPo a) {kk : Int} {k : Nat} (hk : kk = k) (hk3 : k < 3) {x y t : Int} {p : Int} {c : Nat → Nat → Int} (hs : zSt p c) (hP : zPol p c a h) (hx : 0 ≤ x ∧ x < p) (hy : 0 ≤ y ∧ y < p) (ht : 0 ≤ t ∧ t < p) : CI yX4_valueOf mX4_valueOf [vR a, vI kk, vI x, vI y, vI t] h (fun r h' => h' = h ∧ r = zval p c k x y t) := by
  refine inV [some (vR a), some (vI kk), some (vI x), some (vI y), some (vI t), none, none, none, none] mvX4_valueOf rfl (Nat.le_of_ble_eq_true rfl) rfl ?_
  have hp := hs.p
  have h4 := hP.1
  have hp0 : 0 < p := by omega
  have L6 : ∀ (zm6 : Nat) (e : Nat) (s vi : Int), e = zm6 → (e ≤ 3) → (vi = (e : Int) - 1) → (s = zhor x p (3 - e) (fun i => zhor y p 3 (fun j => zcut p c k (3 * (i + e) + j) t))) → WP mX4_valueOf (zMQ mX4_valueOf (zKI (fun r h' => h' = h ∧ r = zval p c k x y t))) 6 [some (vR a), some (vI kk), some (vI x), some (vI y), some (vI t), some (vI s), some (vI vi), none, none] [] zN zGR h := by
    intro zm6
    induction zm6 using Nat.strongRecOn with | _ zm6 ih6 => ?_
    intro e s vi hzm6 he hv hss
    subst hzm6
    have hsb := zhor_in (t := x) hp0 (3 - e) (fun i => zhor y p 3 (fun j => zcut p c k (3 * (i + e) + j) t))
    rw [← hss] at hsb
    have hsx := z_mul hsb hx hp.2
    have L17 : ∀ (zm17 : Nat) (f : Nat) (u vj : Int), f = zm17 → (f ≤ 3) → (vj = (f : Int) - 1) → (1 ≤ e) → (u = zhor y p (3 - f) (fun j => zcut p c k (3 * (e - 1) + (j + f)) t)) → WP mX4_valueOf (zMQ mX4_valueOf (zKI (fun r h' => h' = h ∧ r = zval p c k x y t))) 17 [some (vR a), some (vI kk), some (vI x), some (vI y), some (vI t), some (vI s), some (vI vi), some (vI u), some (vI vj)] [] zN zGR h := by
      intro zm17
      induction zm17 using Nat.strongRecOn with | _ zm17 ih17 => ?_
      intro f u vj hzm17 hf hvj he1 hu
      subst hzm17
      have hub := zhor_in (t := y) hp0 (3 - f) (fun j => zcut p c k (3 * (e - 1) + (j + f)) t)
      rw [← hu] at hub
      have huy := z_mul hub hy hp.2
      refine w_iload8 dX4_valueOf_17 ?_
      refine wp_if_lt 56 dX4_valueOf_19 rfl ⟨by omega, by omega⟩ (fun c19 => ?_) (fun c19 => ?_)
      · skip
        refine w_iload5 dX4_valueOf_56 (w_iload2 dX4_valueOf_58 (wp_imul dX4_valueOf_59 (w_iload7 dX4_valueOf_60 (wp_iadd dX4_valueOf_62 (w_aload0 dX4_valueOf_63 (wp_geti dX4_valueOf_64 fl_RX4_9 (zPo_is ha) ?_))))))
        rw [h4]
        apply s_i2 (M := mX4_valueOf) dX4_valueOf_67 lk_RX4_39 mvX3_residue (by decide) meX4_valueOf (Nat.le_of_ble_eq_true rfl)
        · exact t_X3_residue ⟨by omega, by omega⟩ (by omega)
        intro x67 h67 hP67
        obtain ⟨eh67, ex67⟩ := hP67
        replace eh67 := eh67.symm
        subst eh67
        replace ex67 := ex67.symm
        subst ex67
        refine w_istore5 dX4_valueOf_70 rfl (by decide) (w_iinc6 dX4_valueOf_72 rfl (by decide) (wp_goto 6 dX4_valueOf_75 rfl ?_))
        refine w_forget7 ?_
        refine w_forget8 ?_
        refine ih6 _ (by omega) (e - 1) _ _ rfl (by omega) (by omega) ?_
        rw [show 3 - (e - 1) = 3 - e + 1 by omega]
        show _ = (zhor x p (3 - e) (fun i => zhor y p 3 (fun j => zcut p c k (3 * (i + 1 + (e - 1)) + j) t)) * x + zhor y p 3 (fun j => zcut p c k (3 * (0 + (e - 1)) + j) t)) % p
        rw [zhor_congr (3 - e) (fun i => zhor y p 3 (fun j => zcut p c k (3 * (i + 1 + (e - 1)) + j) t)) (fun i => zhor y p 3 (fun j => zcut p c k (3 * (i + e) + j) t)) (fun i _ => by rw [show i + 1 + (e - 1) = i + e by omega]), ← hss, Nat.zero_add, hu, show f = 0 by omega]
        rfl
      · skip
        refine w_iload7 dX4_valueOf_22 (w_iload3 dX4_valueOf_24 (wp_imul dX4_valueOf_25 (w_aload0 dX4_valueOf_26 (w_iload1 dX4_valueOf_27 (wp_iconst dX4_valueOf_28 (w_iload6 dX4_valueOf_29 (wp_imul dX4_valueOf_31 (w_iload8 dX4_valueOf_32 (wp_iadd dX4_valueOf_34 ?_)))))))))
        refine w_iload4 dX4_valueOf_35 ?_
        have hw37 : 3 * vi + vj = ((3 * (e - 1) + (f - 1) : Nat) : Int) := by omega
        apply v_i3 (M := mX4_valueOf) dX4_valueOf_37 lk_RX4_45 mvX4_factorAt (by decide) meX4_valueOf (zPo_is ha) (Nat.le_of_ble_eq_true rfl)
        · exact t_X4_factorAt ha hk hk3 hw37 (by omega) hs hP ht
        intro x37 h37 hP37
        obtain ⟨eh37, ex37⟩ := hP37
        replace eh37 := eh37.symm
        subst eh37
        replace ex37 := ex37.symm
        subst ex37
        refine wp_iadd dX4_valueOf_40 (w_aload0 dX4_valueOf_41 ?_)
        have hcb := zcut_in hs k (3 * (e - 1) + (f - 1)) t
        refine wp_geti dX4_valueOf_42 fl_RX4_9 (zPo_is ha) ?_
        rw [h4]
        apply s_i2 (M := mX4_valueOf) dX4_valueOf_45 lk_RX4_39 mvX3_residue (by decide) meX4_valueOf (Nat.le_of_ble_eq_true rfl)
        · exact t_X3_residue ⟨by omega, by omega⟩ (by omega)
        intro x45 h45 hP45
        obtain ⟨eh45, ex45⟩ := hP45
        replace eh45 := eh45.symm
        subst eh45
        replace ex45 := ex45.symm
        subst ex45
        refine w_istore7 dX4_valueOf_48 rfl (by decide) (w_iinc8 dX4_valueOf_50 rfl (by decide) (wp_goto 17 dX4_valueOf_53 rfl ?_))
        refine ih17 _ (by omega) (f - 1) _ _ rfl (by omega) (by omega) (by omega) ?_
        rw [show 3 - (f - 1) = 3 - f + 1 by omega]
        show _ = (zhor y p (3 - f) (fun j => zcut p c k (3 * (e - 1) + (j + 1 + (f - 1))) t) * y + zcut p c k (3 * (e - 1) + (0 + (f - 1))) t) % p
        rw [zhor_congr (3 - f) (fun j => zcut p c k (3 * (e - 1) + (j + 1 + (f - 1))) t) (fun j => zcut p c k (3 * (e - 1) + (j + f)) t) (fun j _ => by rw [show j + 1 + (f - 1) = j + f by omega]), ← hu, Nat.zero_add]
    refine w_iload6 dX4_valueOf_6 ?_
    refine wp_if_lt 78 dX4_valueOf_8 rfl ⟨by omega, by omega⟩ (fun c8 => ?_) (fun c8 => ?_)
    · skip
      refine w_iload5 dX4_valueOf_78 ?_
      refine r_i dX4_valueOf_80 rfl meX4_valueOf ?_
      exact ⟨rfl, by rw [hss, show e = 0 by omega]; rfl⟩
    · skip
      refine wp_iconst dX4_valueOf_11 (w_istore7 dX4_valueOf_12 rfl (by decide) (wp_iconst dX4_valueOf_14 (w_istore8 dX4_valueOf_15 rfl (by decide) ?_)))
      exact L17 _ 3 0 _ rfl (Nat.le_refl 3) rfl (by omega) rfl
  refine wp_iconst dX4_valueOf_0 (w_istore5 dX4_valueOf_1 rfl (by decide) (wp_iconst dX4_valueOf_3 (w_istore6 dX4_valueOf_4 rfl (by decide) ?_)))
  exact L6 _ 3 0 _ rfl (Nat.le_refl 3) rfl rfl
set_option maxRecDepth 100000 in
set_option maxHeartbeats 4000000 in
theorem t_X4_degreeIn {h : zH} {a : Nat} (ha : zPo a) {kk : Int} {k : Nat} (hk : kk = k) (hk3 : k < 3) {vv : Int} {v : Nat} (hv : vv = v) (hv3 : v < 3) {f : Nat → Int} (hf : ∀ j, j < 27 → h (a + 2 + k) j = f j ∧ 0 ≤ f j ∧ f j < 31) : CI yX4_degreeIn mX4_degreeIn [vR a, vI kk, vI vv] h (fun r h' => h' = h ∧ r = (zdeg f v 27 : Int)) := by
  refine inV [some (vR a), some (vI kk), some (vI vv), none, none, none, none] mvX4_degreeIn rfl (Nat.le_of_ble_eq_true rfl) rfl ?_
  have L12 : ∀ (zm12 : Nat) (i : Nat) (s vi : Int), 27 - i = zm12 → (i ≤ 27) → (vi = (i : Int)) → (s = (zdeg f v i : Int)) → WP mX4_degreeIn (zMQ mX4_degreeIn (zKI (fun r h' => h' = h ∧ r = (zdeg f v 27 : Int)))) 12 [some (vR a), some (vI kk), some (vI vv), some (vR (a + 2 + k)), some (vI s), some (vI vi), none] [] zN zGR h := by
    intro zm12
    induction zm12 using Nat.strongRecOn with | _ zm12 ih12 => ?_
    intro i s vi hzm12 hi hvi hs
    subst hzm12
    have L56 : ∀ (u : Int), (i < 27) → (f i ≠ 0) → (u = (zexp v i : Int)) → WP mX4_degreeIn (zMQ mX4_degreeIn (zKI (fun r h' => h' = h ∧ r = (zdeg f v 27 : Int)))) 56 [some (vR a), some (vI kk), some (vI vv), some (vR (a + 2 + k)), some (vI s), some (vI vi), none] [vI u] zN zGR h := by
      intro u hi27 hfi hu
      have hdl := zdeg_le (f := f) (v := v) i hi
      have hxl := zexp_le (v := v) hi27
      refine w_istore6 dX4_degreeIn_56 rfl (by decide) (w_iload4 dX4_degreeIn_58 (w_iload6 dX4_degreeIn_60 (x_mmax dX4_degreeIn_62 lk_RX4_49 ⟨by omega, by omega⟩ ⟨by omega, by omega⟩ (by decide) (Nat.le_of_ble_eq_true rfl) meX4_degreeIn (w_istore4 dX4_degreeIn_65 rfl (by decide) (w_iinc5 dX4_degreeIn_67 rfl (by decide) (wp_goto 12 dX4_degreeIn_70 rfl ?_))))))
      refine w_forget6 ?_
      refine ih12 _ (by omega) (i + 1) _ _ rfl (by omega) (by omega) ?_
      unfold zdeg
      rw [if_neg (by omega)]
      omega
    refine w_iload5 dX4_degreeIn_12 (w_aload3 dX4_degreeIn_14 (wp_alen dX4_degreeIn_15 (zPo_r ha hk3) (by decide) ?_))
    refine wp_icmp_ge 73 dX4_degreeIn_16 rfl ⟨by omega, by omega⟩ ⟨by omega, by omega⟩ (fun c16 => ?_) (fun c16 => ?_)
    · skip
      refine w_iload4 dX4_degreeIn_73 ?_
      refine r_i dX4_degreeIn_75 rfl meX4_degreeIn ?_
      exact ⟨rfl, by rw [hs, show i = 27 by omega]⟩
    · skip
      obtain ⟨hfi, hf0, hf1⟩ := hf i (by omega)
      refine w_aload3 dX4_degreeIn_19 (w_iload5 dX4_degreeIn_20 (x_iald i dX4_degreeIn_22 (zPo_r ha hk3) hvi (by omega) ?_))
      refine wp_if_eq 67 dX4_degreeIn_23 rfl ⟨by omega, by omega⟩ (fun c23 => ?_) (fun c23 => ?_)
      · skip
        refine w_iinc5 dX4_degreeIn_67 rfl (by decide) (wp_goto 12 dX4_degreeIn_70 rfl ?_)
        refine ih12 _ (by omega) (i + 1) _ _ rfl (by omega) (by omega) ?_
        unfold zdeg
        rw [if_pos (by omega)]
        exact hs
      · skip
        refine w_iload2 dX4_degreeIn_26 ?_
        refine wp_if_ne 38 dX4_degreeIn_27 rfl ⟨by omega, by omega⟩ (fun c27 => ?_) (fun c27 => ?_)
        · skip
          refine w_iload2 dX4_degreeIn_38 (wp_iconst dX4_degreeIn_39 ?_)
          refine wp_icmp_ne 52 dX4_degreeIn_40 rfl ⟨by omega, by omega⟩ ⟨by omega, by omega⟩ (fun c40 => ?_) (fun c40 => ?_)
          · skip
            refine w_iload5 dX4_degreeIn_52 (wp_iconst dX4_degreeIn_54 (wp_irem dX4_degreeIn_55 (by omega) (by omega) ?_))
            refine L56 _ (by omega) (by omega) ?_
            unfold zexp
            first | (rw [if_pos (by omega)]; omega) | (rw [if_neg (by omega), if_pos (by omega)]; omega) | (rw [if_neg (by omega), if_neg (by omega)]; omega)
          · skip
            refine w_iload5 dX4_degreeIn_43 (wp_iconst dX4_degreeIn_45 (wp_idiv dX4_degreeIn_46 (by omega) (by omega) (wp_iconst dX4_degreeIn_47 (wp_irem dX4_degreeIn_48 (by omega) (by omega) (wp_goto 56 dX4_degreeIn_49 rfl ?_)))))
            refine L56 _ (by omega) (by omega) ?_
            unfold zexp
            first | (rw [if_pos (by omega)]; omega) | (rw [if_neg (by omega), if_pos (by omega)]; omega) | (rw [if_neg (by omega), if_neg (by omega)]; omega)
        · skip
          refine w_iload5 dX4_degreeIn_30 (wp_bipush dX4_degreeIn_32 (by decide) (wp_idiv dX4_degreeIn_34 (by omega) (by omega) (wp_goto 56 dX4_degreeIn_35 rfl ?_)))
          refine L56 _ (by omega) (by omega) ?_
          unfold zexp
          first | (rw [if_pos (by omega)]; omega) | (rw [if_neg (by omega), if_pos (by omega)]; omega) | (rw [if_neg (by omega), if_neg (by omega)]; omega)
  refine w_aload0 dX4_degreeIn_0 (w_iload1 dX4_degreeIn_1 ?_)
  apply v_r1 (M := mX4_degreeIn) dX4_degreeIn_2 lk_RX4_20 mvX4_termsOf (by decide) meX4_degreeIn (zPo_is ha) (Nat.le_of_ble_eq_true rfl)
  · exact t_X4_termsOf ha hk hk3
  intro x2 h2 hP2
  obtain ⟨eh2, ex2⟩ := hP2
  replace eh2 := eh2.symm
  subst eh2
  replace ex2 := ex2.symm
  subst ex2
  refine w_astore3 dX4_degreeIn_5 rfl (by decide) (wp_iconst dX4_degreeIn_6 (w_istore4 dX4_degreeIn_7 rfl (by decide) (wp_iconst dX4_degreeIn_9 (w_istore5 dX4_degreeIn_10 rfl (by decide) ?_))))
  exact L12 _ 0 0 0 rfl (Nat.zero_le _) rfl rfl
set_option maxRecDepth 100000 in
set_option maxHeartbeats 4000000 in
theorem t_X4_degreeInAt {h : zH} {a : Nat} (ha : zPo a) {kk : Int} {k : Nat} (hk : kk = k) (hk3 : k < 3) {vv t : Int} {v : Nat} (hv : vv = v) (hv2 : v < 2) {p : Int} {c : Nat → Nat → Int} (hs : zSt p c) (hP : zPol p c a h) (ht : 0 ≤ t ∧ t < p) : CI yX4_degreeInAt mX4_degreeInAt [vR a, vI kk, vI vv, vI t] h (fun r h' => h' = h ∧ r = (zdgA p c k v t 9 : Int)) := by
  refine inV [some (vR a), some (vI kk), some (vI vv), some (vI t), none, none] mvX4_degreeInAt rfl (Nat.le_of_ble_eq_true rfl) rfl ?_
  have hp := hs.p
  have L6 : ∀ (zm6 : Nat) (i : Nat) (s vi : Int), 9 - i = zm6 → (i ≤ 9) → (vi = (i : Int)) → (s = (zdgA p c k v t i : Int)) → WP mX4_degreeInAt (zMQ mX4_degreeInAt (zKI (fun r h' => h' = h ∧ r = (zdgA p c k v t 9 : Int)))) 6 [some (vR a), some (vI kk), some (vI vv), some (vI t), some (vI s), some (vI vi)] [] zN zGR h := by
    intro zm6
    induction zm6 using Nat.strongRecOn with | _ zm6 ih6 => ?_
    intro i s vi hzm6 hi hvi hss
    subst hzm6
    have hdl := zdgA_le (p := p) (c := c) (k := k) (v := v) (t := t) i hi
    refine w_iload5 dX4_degreeInAt_6 (wp_bipush dX4_degreeInAt_8 (by decide) ?_)
    refine wp_icmp_ge 52 dX4_degreeInAt_10 rfl ⟨by omega, by omega⟩ ⟨by omega, by omega⟩ (fun c10 => ?_) (fun c10 => ?_)
    · skip
      refine w_iload4 dX4_degreeInAt_52 ?_
      refine r_i dX4_degreeInAt_54 rfl meX4_degreeInAt ?_
      exact ⟨rfl, by rw [hss, show i = 9 by omega]⟩
    · skip
      refine w_aload0 dX4_degreeInAt_13 (w_iload1 dX4_degreeInAt_14 (w_iload5 dX4_degreeInAt_15 (w_iload3 dX4_degreeInAt_17 ?_)))
      apply v_i3 (M := mX4_degreeInAt) dX4_degreeInAt_18 lk_RX4_45 mvX4_factorAt (by decide) meX4_degreeInAt (zPo_is ha) (Nat.le_of_ble_eq_true rfl)
      · exact t_X4_factorAt ha hk hk3 hvi (by omega) hs hP ht
      intro x18 h18 hP18
      obtain ⟨eh18, ex18⟩ := hP18
      replace eh18 := eh18.symm
      subst eh18
      replace ex18 := ex18.symm
      subst ex18
      have hcb := zcut_in hs k i t
      refine wp_if_eq 46 dX4_degreeInAt_21 rfl ⟨by omega, by omega⟩ (fun c21 => ?_) (fun c21 => ?_)
      · skip
        refine w_iinc5 dX4_degreeInAt_46 rfl (by decide) (wp_goto 6 dX4_degreeInAt_49 rfl ?_)
        refine ih6 _ (by omega) (i + 1) _ _ rfl (by omega) (by omega) ?_
        unfold zdgA
        first | (rw [if_pos (by omega)]; exact hss) | (rw [if_neg (by omega), if_pos (by omega)]; omega) | (rw [if_neg (by omega), if_neg (by omega)]; omega)
      · skip
        refine w_iload4 dX4_degreeInAt_24 (w_iload2 dX4_degreeInAt_26 ?_)
        refine wp_if_ne 37 dX4_degreeInAt_27 rfl ⟨by omega, by omega⟩ (fun c27 => ?_) (fun c27 => ?_)
        · skip
          refine w_iload5 dX4_degreeInAt_37 (wp_iconst dX4_degreeInAt_39 (wp_irem dX4_degreeInAt_40 (by omega) (by omega) (x_mmax dX4_degreeInAt_41 lk_RX4_49 ⟨by omega, by omega⟩ ⟨by omega, by omega⟩ (by decide) (Nat.le_of_ble_eq_true rfl) meX4_degreeInAt (w_istore4 dX4_degreeInAt_44 rfl (by decide) (w_iinc5 dX4_degreeInAt_46 rfl (by decide) (wp_goto 6 dX4_degreeInAt_49 rfl ?_))))))
          refine ih6 _ (by omega) (i + 1) _ _ rfl (by omega) (by omega) ?_
          unfold zdgA
          first | (rw [if_pos (by omega)]; exact hss) | (rw [if_neg (by omega), if_pos (by omega)]; omega) | (rw [if_neg (by omega), if_neg (by omega)]; omega)
        · skip
          refine w_iload5 dX4_degreeInAt_30 (wp_iconst dX4_degreeInAt_32 (wp_idiv dX4_degreeInAt_33 (by omega) (by omega) (wp_goto 41 dX4_degreeInAt_34 rfl (x_mmax dX4_degreeInAt_41 lk_RX4_49 ⟨by omega, by omega⟩ ⟨by omega, by omega⟩ (by decide) (Nat.le_of_ble_eq_true rfl) meX4_degreeInAt (w_istore4 dX4_degreeInAt_44 rfl (by decide) (w_iinc5 dX4_degreeInAt_46 rfl (by decide) (wp_goto 6 dX4_degreeInAt_49 rfl ?_)))))))
          refine ih6 _ (by omega) (i + 1) _ _ rfl (by omega) (by omega) ?_
          unfold zdgA
          first | (rw [if_pos (by omega)]; exact hss) | (rw [if_neg (by omega), if_pos (by omega)]; omega) | (rw [if_neg (by omega), if_neg (by omega)]; omega)
  refine wp_iconst dX4_degreeInAt_0 (w_istore4 dX4_degreeInAt_1 rfl (by decide) (wp_iconst dX4_degreeInAt_3 (w_istore5 dX4_degreeInAt_4 rfl (by decide) ?_)))
  exact L6 _ 0 0 0 rfl (Nat.zero_le _) rfl rfl
set_option maxRecDepth 100000 in
set_option maxHeartbeats 4000000 in
theorem t_X4_greatestDegree {h : zH} {a : Nat} (ha : zPo a) {vv : Int} {v : Nat} (hv : vv = v) (hv3 : v < 3) {p : Int} {c : Nat → Nat → Int} (hs : zSt p c) (hP : zPol p c a h) : CI yX4_greatestDegree mX4_greatestDegree [vR a, vI vv] h (fun r h' => h' = h ∧ r = (zgd c v : Int)) := by
  refine inV [some (vR a), some (vI vv)] mvX4_greatestDegree rfl (Nat.le_of_ble_eq_true rfl) rfl ?_
  have hf : ∀ k, k < 3 → ∀ j, j < 27 → h (a + 2 + k) j = c k j ∧ 0 ≤ c k j ∧ c k j < 31 := fun k hk j hj => ⟨hP.2 k hk j hj, (hs.2 k j).1, by have := (hs.2 k j).2; have := hs.p; omega⟩
  have d0 := zdeg_le (f := c 0) (v := v) 27 (Nat.le_refl _)
  have d1 := zdeg_le (f := c 1) (v := v) 27 (Nat.le_refl _)
  have d2 := zdeg_le (f := c 2) (v := v) 27 (Nat.le_refl _)
  refine w_aload0 dX4_greatestDegree_0 (wp_iconst dX4_greatestDegree_1 (w_iload1 dX4_greatestDegree_2 ?_))
  apply v_i2 (M := mX4_greatestDegree) dX4_greatestDegree_3 lk_RX4_54 mvX4_degreeIn (by decide) meX4_greatestDegree (zPo_is ha) (Nat.le_of_ble_eq_true rfl)
  · exact t_X4_degreeIn ha rfl (by decide) hv hv3 (hf 0 (by decide))
  intro x3 h3 hP3
  obtain ⟨eh3, ex3⟩ := hP3
  replace eh3 := eh3.symm
  subst eh3
  replace ex3 := ex3.symm
  subst ex3
  refine w_aload0 dX4_greatestDegree_6 (wp_iconst dX4_greatestDegree_7 (w_iload1 dX4_greatestDegree_8 ?_))
  apply v_i2 (M := mX4_greatestDegree) dX4_greatestDegree_9 lk_RX4_54 mvX4_degreeIn (by decide) meX4_greatestDegree (zPo_is ha) (Nat.le_of_ble_eq_true rfl)
  · exact t_X4_degreeIn ha rfl (by decide) hv hv3 (hf 1 (by decide))
  intro x9 h9 hP9
  obtain ⟨eh9, ex9⟩ := hP9
  replace eh9 := eh9.symm
  subst eh9
  replace ex9 := ex9.symm
  subst ex9
  refine w_aload0 dX4_greatestDegree_12 (wp_iconst dX4_greatestDegree_13 (w_iload1 dX4_greatestDegree_14 ?_))
  apply v_i2 (M := mX4_greatestDegree) dX4_greatestDegree_15 lk_RX4_54 mvX4_degreeIn (by decide) meX4_greatestDegree (zPo_is ha) (Nat.le_of_ble_eq_true rfl)
  · exact t_X4_degreeIn ha rfl (by decide) hv hv3 (hf 2 (by decide))
  intro x15 h15 hP15
  obtain ⟨eh15, ex15⟩ := hP15
  replace eh15 := eh15.symm
  subst eh15
  replace ex15 := ex15.symm
  subst ex15
  refine x_mmax dX4_greatestDegree_18 lk_RX4_49 ⟨by omega, by omega⟩ ⟨by omega, by omega⟩ (by decide) (Nat.le_of_ble_eq_true rfl) meX4_greatestDegree (x_mmax dX4_greatestDegree_21 lk_RX4_49 ⟨by omega, by omega⟩ ⟨by omega, by omega⟩ (by decide) (Nat.le_of_ble_eq_true rfl) meX4_greatestDegree ?_)
  refine r_i dX4_greatestDegree_24 rfl meX4_greatestDegree ?_
  exact ⟨rfl, by unfold zgd; omega⟩
set_option maxRecDepth 100000 in
set_option maxHeartbeats 4000000 in
theorem t_X4_dropsAt {h : zH} {a : Nat} (ha : zPo a) {t : Int} {p : Int} {c : Nat → Nat → Int} (hs : zSt p c) (hP : zPol p c a h) (ht : 0 ≤ t ∧ t < p) : CI yX4_dropsAt mX4_dropsAt [vR a, vI t] h (fun r h' => h' = h ∧ (r = 0 ∨ r = 1) ∧ (r = 1 ↔ zdrop p c t)) := by
  refine inV [some (vR a), some (vI t), none] mvX4_dropsAt rfl (Nat.le_of_ble_eq_true rfl) rfl ?_
  have hf : ∀ k, k < 3 → ∀ j, j < 27 → h (a + 2 + k) j = c k j ∧ 0 ≤ c k j ∧ c k j < 31 := fun k hk j hj => ⟨hP.2 k hk j hj, (hs.2 k j).1, by have := (hs.2 k j).2; have := hs.p; omega⟩
  have L2 : ∀ (zm2 : Nat) (k : Nat) (vk : Int), 3 - k = zm2 → (k ≤ 3) → (vk = (k : Int)) → (∀ q, q < k → ¬ zdr1 p c t q) → WP mX4_dropsAt (zMQ mX4_dropsAt (zKI (fun r h' => h' = h ∧ (r = 0 ∨ r = 1) ∧ (r = 1 ↔ zdrop p c t)))) 2 [some (vR a), some (vI t), some (vI vk)] [] zN zGR h := by
    intro zm2
    induction zm2 using Nat.strongRecOn with | _ zm2 ih2 => ?_
    intro k vk hzm2 hk hvk hno
    subst hzm2
    have d0 := zdeg_le (f := c k) (v := 0) 27 (Nat.le_refl _)
    have d1 := zdeg_le (f := c k) (v := 1) 27 (Nat.le_refl _)
    have e0 := zdgA_le (p := p) (c := c) (k := k) (v := 0) (t := t) 9 (Nat.le_refl _)
    have e1 := zdgA_le (p := p) (c := c) (k := k) (v := 1) (t := t) 9 (Nat.le_refl _)
    refine w_iload2 dX4_dropsAt_2 (wp_iconst dX4_dropsAt_3 ?_)
    refine wp_icmp_ge 47 dX4_dropsAt_4 rfl ⟨by omega, by omega⟩ ⟨by omega, by omega⟩ (fun c4 => ?_) (fun c4 => ?_)
    · skip
      refine wp_iconst dX4_dropsAt_47 ?_
      refine r_z dX4_dropsAt_48 rfl meX4_dropsAt (by first | exact Or.inl rfl | exact Or.inr rfl | omega) ?_
      refine ⟨rfl, Or.inl rfl, fun q => absurd q (by decide), fun q => ?_⟩
      obtain ⟨q1, q2, q3⟩ := q
      exact absurd q3 (hno q1 (by omega))
    · skip
      refine w_aload0 dX4_dropsAt_7 (w_iload2 dX4_dropsAt_8 (wp_iconst dX4_dropsAt_9 (w_iload1 dX4_dropsAt_10 ?_)))
      apply v_i3 (M := mX4_dropsAt) dX4_dropsAt_11 lk_RX4_57 mvX4_degreeInAt (by decide) meX4_dropsAt (zPo_is ha) (Nat.le_of_ble_eq_true rfl)
      · exact t_X4_degreeInAt ha hvk (by omega) (v := 0) rfl (by decide) hs hP ht
      intro x11 h11 hP11
      obtain ⟨eh11, ex11⟩ := hP11
      replace eh11 := eh11.symm
      subst eh11
      replace ex11 := ex11.symm
      subst ex11
      refine w_aload0 dX4_dropsAt_14 (w_iload2 dX4_dropsAt_15 (wp_iconst dX4_dropsAt_16 ?_))
      apply v_i2 (M := mX4_dropsAt) dX4_dropsAt_17 lk_RX4_54 mvX4_degreeIn (by decide) meX4_dropsAt (zPo_is ha) (Nat.le_of_ble_eq_true rfl)
      · exact t_X4_degreeIn ha hvk (by omega) (v := 0) rfl (by decide) (hf k (by omega))
      intro x17 h17 hP17
      obtain ⟨eh17, ex17⟩ := hP17
      replace eh17 := eh17.symm
      subst eh17
      replace ex17 := ex17.symm
      subst ex17
      refine wp_icmp_lt 39 dX4_dropsAt_20 rfl ⟨by omega, by omega⟩ ⟨by omega, by omega⟩ (fun c20 => ?_) (fun c20 => ?_)
      · skip
        refine wp_iconst dX4_dropsAt_39 ?_
        refine r_z dX4_dropsAt_40 rfl meX4_dropsAt (by first | exact Or.inl rfl | exact Or.inr rfl | omega) ?_
        refine ⟨rfl, Or.inr rfl, fun _ => ⟨k, by omega, ?_⟩, fun _ => rfl⟩
        unfold zdr1
        omega
      · skip
        refine w_aload0 dX4_dropsAt_23 (w_iload2 dX4_dropsAt_24 (wp_iconst dX4_dropsAt_25 (w_iload1 dX4_dropsAt_26 ?_)))
        apply v_i3 (M := mX4_dropsAt) dX4_dropsAt_27 lk_RX4_57 mvX4_degreeInAt (by decide) meX4_dropsAt (zPo_is ha) (Nat.le_of_ble_eq_true rfl)
        · exact t_X4_degreeInAt ha hvk (by omega) (v := 1) rfl (by decide) hs hP ht
        intro x27 h27 hP27
        obtain ⟨eh27, ex27⟩ := hP27
        replace eh27 := eh27.symm
        subst eh27
        replace ex27 := ex27.symm
        subst ex27
        refine w_aload0 dX4_dropsAt_30 (w_iload2 dX4_dropsAt_31 (wp_iconst dX4_dropsAt_32 ?_))
        apply v_i2 (M := mX4_dropsAt) dX4_dropsAt_33 lk_RX4_54 mvX4_degreeIn (by decide) meX4_dropsAt (zPo_is ha) (Nat.le_of_ble_eq_true rfl)
        · exact t_X4_degreeIn ha hvk (by omega) (v := 1) rfl (by decide) (hf k (by omega))
        intro x33 h33 hP33
        obtain ⟨eh33, ex33⟩ := hP33
        replace eh33 := eh33.symm
        subst eh33
        replace ex33 := ex33.symm
        subst ex33
        refine wp_icmp_ge 41 dX4_dropsAt_36 rfl ⟨by omega, by omega⟩ ⟨by omega, by omega⟩ (fun c36 => ?_) (fun c36 => ?_)
        · skip
          refine w_iinc2 dX4_dropsAt_41 rfl (by decide) (wp_goto 2 dX4_dropsAt_44 rfl ?_)
          refine ih2 _ (by omega) (k + 1) _ rfl (by omega) (by omega) (fun q hq => ?_)
          by_cases e : q = k
          · subst e
            unfold zdr1
            omega
          · exact hno q (by omega)
        · skip
          refine wp_iconst dX4_dropsAt_39 ?_
          refine r_z dX4_dropsAt_40 rfl meX4_dropsAt (by first | exact Or.inl rfl | exact Or.inr rfl | omega) ?_
          refine ⟨rfl, Or.inr rfl, fun _ => ⟨k, by omega, ?_⟩, fun _ => rfl⟩
          unfold zdr1
          omega
  refine wp_iconst dX4_dropsAt_0 (w_istore2 dX4_dropsAt_1 rfl (by decide) ?_)
  exact L2 _ 0 0 rfl (Nat.zero_le _) rfl (fun q hq => absurd hq (Nat.not_lt_zero q))
