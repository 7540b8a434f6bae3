
theorem z_is9 {q : Nat} (h : q < 64) : zIs zN (9 + q) (10, 7) := by
  have w : ∀ q, q < 64 → zSH (9 + q) = (10, 7) ∧ 0 < 9 + q ∧ 9 + q ≤ zN := by decide +kernel
  exact w q h
theorem z_is74 {q : Nat} (h : q < 3) : zIs zN (74 + q) (10, 5) := by
  have w : ∀ q, q < 3 → zSH (74 + q) = (10, 5) ∧ 0 < 74 + q ∧ 74 + q ≤ zN := by decide +kernel
  exact w q h
theorem zsi_z {f : Nat → Int} : ∀ n, (∀ i, i < n → f i = 0) → zsi f n = 0 := by
  intro n
  induction n with
  | zero => intro _; rfl
  | succ n ih =>
    intro h
    show zsi f n + f n = 0
    rw [ih (fun i hi => h i (by omega)), h n (by omega)]
    rfl
theorem zsi_bd {f : Nat → Int} {M : Int} : ∀ n : Nat, (∀ i, i < n → -M ≤ f i ∧ f i ≤ M) → -(n * M) ≤ zsi f n ∧ zsi f n ≤ n * M := by
  intro n
  induction n with
  | zero => intro _; show -((0 : Nat) * M) ≤ 0 ∧ (0 : Int) ≤ (0 : Nat) * M; rw [Int.natCast_zero, Int.zero_mul]; decide
  | succ n ih =>
    intro h
    show _ ≤ zsi f n + f n ∧ zsi f n + f n ≤ _
    have h1 := ih (fun i hi => h i (by omega))
    have h2 := h n (by omega)
    have h3 : ((n + 1 : Nat) : Int) * M = n * M + M := by rw [Int.natCast_add, Int.add_mul]; show _ + 1 * M = _; rw [Int.one_mul]
    rw [h3]
    omega
theorem zsi_bd3 {f : Nat → Int} {M : Int} {n : Nat} (hn : n ≤ 3) (h : ∀ i, i < n → -M ≤ f i ∧ f i ≤ M) (hM : 0 ≤ M) : -(3 * M) ≤ zsi f n ∧ zsi f n ≤ 3 * M := by
  have h1 := zsi_bd n h
  have h2 : n = 0 ∨ n = 1 ∨ n = 2 ∨ n = 3 := by omega
  rcases h2 with rfl | rfl | rfl | rfl <;> omega
theorem z_mb {a b p : Int} (ha : 0 ≤ a ∧ a < p) (hb : 0 ≤ b ∧ b < p) (hp : p ≤ 31) : 0 ≤ a * b ∧ a * b ≤ 900 := by
  have h1 := Int.mul_nonneg ha.1 hb.1
  have h2 : a * b ≤ 30 * 30 := Int.mul_le_mul (by omega) (by omega) hb.1 (by decide)
  omega
/-- 2 m n, or 0 if there is no matrix -/
def zsd (c : Nat → Nat → Int) : Nat := if 1 ≤ zgd c 0 ∧ 1 ≤ zgd c 1 then 2 * zgd c 0 * zgd c 1 else 0
theorem zsi_bdN {f : Nat → Int} {M : Int} {n N : Nat} (hn : n ≤ N) (h : ∀ i, i < n → -M ≤ f i ∧ f i ≤ M) (hM : 0 ≤ M) : -(N * M) ≤ zsi f n ∧ zsi f n ≤ N * M := by
  have h1 := zsi_bd n h
  have h2 : (n : Int) * M ≤ N * M := Int.mul_le_mul_of_nonneg_right (by omega) hM
  omega
def zct3 (A B : Nat → Int) (f s i e k : Nat) : Int := if i + k = e then A (3 * f + i) * B (3 * s + k) else 0
/-- the coefficient of t^e in the product of two pieces -/
def zcw (A B : Nat → Int) (f s e : Nat) : Int := zsi (fun i => zsi (zct3 A B f s i e) 3) 3
def zin9 (p : Int) (A : Nat → Int) : Prop := ∀ j, j < 27 → 0 ≤ A j ∧ A j < p
theorem zct3_b {p : Int} {A B : Nat → Int} (hA : zin9 p A) (hB : zin9 p B) (hp : p ≤ 31) {f s i e k : Nat} (hf : f < 9) (hs : s < 9) (hi : i < 3) (hk : k < 3) : -900 ≤ zct3 A B f s i e k ∧ zct3 A B f s i e k ≤ 900 := by
  have h := z_mb (hA (3 * f + i) (by omega)) (hB (3 * s + k) (by omega)) hp
  unfold zct3
  split <;> omega
theorem zcw_b1 {p : Int} {A B : Nat → Int} (hA : zin9 p A) (hB : zin9 p B) (hp : p ≤ 31) {f s i e k : Nat} (hf : f < 9) (hs : s < 9) (hi : i < 3) (hk : k ≤ 3) : -2700 ≤ zsi (zct3 A B f s i e) k ∧ zsi (zct3 A B f s i e) k ≤ 2700 := by
  have := zsi_bd3 (f := zct3 A B f s i e) (M := 900) hk (fun j hj => zct3_b hA hB hp hf hs hi (by omega)) (by decide)
  omega
theorem zcw_b2 {p : Int} {A B : Nat → Int} (hA : zin9 p A) (hB : zin9 p B) (hp : p ≤ 31) {f s i e : Nat} (hf : f < 9) (hs : s < 9) (hi : i ≤ 3) : -8100 ≤ zsi (fun i => zsi (zct3 A B f s i e) 3) i ∧ zsi (fun i => zsi (zct3 A B f s i e) 3) i ≤ 8100 := by
  have := zsi_bd3 (f := fun i => zsi (zct3 A B f s i e) 3) (M := 2700) hi (fun j hj => zcw_b1 hA hB hp hf hs (by omega) (Nat.le_refl _)) (by decide)
  omega
theorem z_sg {sg x : Int} {M : Int} (h : sg = 1 ∨ sg = -1) (hx : -M ≤ x ∧ x ≤ M) : -M ≤ sg * x ∧ sg * x ≤ M := by
  rcases h with e | e <;> rw [e] <;> omega
/-- the cross product of two pieces, at one polynomial -/
def zcrs (p : Int) (c : Nat → Nat → Int) (f s k e : Nat) : Int := (zcw (c ((k + 1) % 3)) (c ((k + 2) % 3)) f s e - zcw (c ((k + 2) % 3)) (c ((k + 1) % 3)) f s e) % p
theorem zcrs_in {p : Int} (hp : 0 < p) {c : Nat → Nat → Int} {f s k e : Nat} : 0 ≤ zcrs p c f s k e ∧ zcrs p c f s k e < p := z_mod hp _
def zbt (c X : Nat → Nat → Int) (t k e3 e q : Nat) : Int := if q + e3 = e then c k (3 * t + e3) * X k q else 0
def zb1 (c X : Nat → Nat → Int) (t k e3 e : Nat) : Int := zsi (zbt c X t k e3 e) 5
def zb2 (c X : Nat → Nat → Int) (t k e : Nat) : Int := zsi (fun e3 => zb1 c X t k e3 e) 3
/-- the bracket of three pieces -/
def zbr (p : Int) (c X : Nat → Nat → Int) (t e : Nat) : Int := zsi (fun k => zb2 c X t k e) 3 % p
def zin5 (p : Int) (X : Nat → Nat → Int) : Prop := ∀ k, k < 3 → ∀ q, q < 5 → 0 ≤ X k q ∧ X k q < p
theorem zbt_b {p : Int} {c X : Nat → Nat → Int} (hc : ∀ k, zin9 p (c k)) (hX : zin5 p X) (hp : p ≤ 31) {t k e3 e q : Nat} (ht : t < 9) (hk : k < 3) (he : e3 < 3) (hq : q < 5) : -900 ≤ zbt c X t k e3 e q ∧ zbt c X t k e3 e q ≤ 900 := by
  have h := z_mb (hc k (3 * t + e3) (by omega)) (hX k hk q hq) hp
  unfold zbt
  split <;> omega
theorem zb1_b {p : Int} {c X : Nat → Nat → Int} (hc : ∀ k, zin9 p (c k)) (hX : zin5 p X) (hp : p ≤ 31) {t k e3 e : Nat} (ht : t < 9) (hk : k < 3) (he : e3 < 3) {n : Nat} (hn : n ≤ 5) : -4500 ≤ zsi (zbt c X t k e3 e) n ∧ zsi (zbt c X t k e3 e) n ≤ 4500 := by
  have := zsi_bdN (f := zbt c X t k e3 e) (M := 900) hn (fun q hq => zbt_b hc hX hp ht hk he (by omega)) (by decide)
  omega
theorem zb2_b {p : Int} {c X : Nat → Nat → Int} (hc : ∀ k, zin9 p (c k)) (hX : zin5 p X) (hp : p ≤ 31) {t k e : Nat} (ht : t < 9) (hk : k < 3) {n : Nat} (hn : n ≤ 3) : -13500 ≤ zsi (fun e3 => zb1 c X t k e3 e) n ∧ zsi (fun e3 => zb1 c X t k e3 e) n ≤ 13500 := by
  have := zsi_bdN (f := fun e3 => zb1 c X t k e3 e) (M := 4500) hn (fun q hq => zb1_b hc hX hp ht hk (by omega) (Nat.le_refl _)) (by decide)
  omega
theorem zb3_b {p : Int} {c X : Nat → Nat → Int} (hc : ∀ k, zin9 p (c k)) (hX : zin5 p X) (hp : p ≤ 31) {t e : Nat} (ht : t < 9) {n : Nat} (hn : n ≤ 3) : -40500 ≤ zsi (fun k => zb2 c X t k e) n ∧ zsi (fun k => zb2 c X t k e) n ≤ 40500 := by
  have := zsi_bdN (f := fun k => zb2 c X t k e) (M := 13500) hn (fun q hq => zb2_b hc hX hp ht (by omega) (Nat.le_refl _)) (by decide)
  omega
/-- whether the step x, y of three pieces meets the entry idx -/
abbrev zhit (m n f s t x y idx : Nat) : Prop := f / 3 - 1 - x < m ∧ f % 3 + s % 3 - 1 - y < 2 * n ∧ x + s / 3 + t / 3 < 2 * m ∧ y + t % 3 < n ∧ idx = 8 * (m * (f % 3 + s % 3 - 1 - y) + (f / 3 - 1 - x)) + (2 * m * (y + t % 3) + (x + s / 3 + t / 3))
def zh1 (m n f s t idx x y : Nat) : Int := if zhit m n f s t x y idx then 1 else 0
def zh2 (m n f s t idx x : Nat) : Int := zsi (zh1 m n f s t idx x) (s % 3)
/-- how often three pieces meet an entry -/
def zab (m n f s t idx : Nat) : Int := zsi (zh2 m n f s t idx) (f / 3)
theorem z_hit64 {m n x y a b : Nat} (hm : m = 1 ∨ m = 2) (hn : n = 1 ∨ n = 2) (hx : x < m) (hy : y < 2 * n) (ha : a < 2 * m) (hb : b < n) : 8 * (m * y + x) + (2 * m * b + a) < 64 := by
  rcases hm with rfl | rfl <;> rcases hn with rfl | rfl <;> omega
def zent (h : zH) (p : Int) (N : Nat → Int) : zH := fun b j => if (9 ≤ b ∧ b < 73) ∧ j < 7 then (h b j + N (b - 9) * h 77 j) % p else h b j
theorem zent_i {h : zH} {p : Int} {N : Nat → Int} {q e : Nat} (hq : q < 64) (he : e < 7) : zent h p N (9 + q) e = (h (9 + q) e + N q * h 77 e) % p := by
  unfold zent
  rw [if_pos (by omega), show 9 + q - 9 = q by omega]
theorem zent_o {h : zH} {p : Int} {N : Nat → Int} {b j : Nat} (hq : b < 9 ∨ 73 ≤ b) : zent h p N b j = h b j := by
  unfold zent
  rw [if_neg (by omega)]
theorem zent_c {h : zH} {p : Int} {N M : Nat → Int} (e : ∀ q, q < 64 → N q = M q) : zent h p N = zent h p M := by
  funext b j
  unfold zent
  split
  · rw [e _ (by omega)]
  · rfl
theorem zent_z {h : zH} {p : Int} {N : Nat → Int} (e : ∀ q, q < 64 → N q = 0) (hb : ∀ q, q < 64 → ∀ e, e < 7 → 0 ≤ h (9 + q) e ∧ h (9 + q) e < p) : zent h p N = h := by
  funext b j
  unfold zent
  split
  · next w =>
    have w2 := hb (b - 9) (by omega) j w.2
    rw [show 9 + (b - 9) = b by omega] at w2
    rw [e _ (by omega), Int.zero_mul, Int.add_zero, Int.emod_eq_of_lt w2.1 w2.2]
  · rfl
theorem zent_up {h : zH} {p : Int} {N : Nat → Int} {idx : Nat} (hq : idx < 64) : zfl (zent h p N) (9 + idx) 7 (fun e => (zent h p N (9 + idx) e + zent h p N 77 e) % p) = zent h p (fun q => N q + if q = idx then 1 else 0) := by
  funext b j
  unfold zfl
  by_cases e : b = 9 + idx ∧ j < 7
  · rw [if_pos e, e.1]
    dsimp only
    rw [zent_i hq e.2, zent_i hq e.2, zent_o (by omega), if_pos rfl, Int.emod_add_emod, Int.add_mul, Int.one_mul, Int.add_assoc]
  · rw [if_neg e]
    unfold zent
    by_cases e2 : (9 ≤ b ∧ b < 73) ∧ j < 7
    · rw [if_pos e2, if_pos e2]
      dsimp only
      rw [if_neg (by omega), Int.add_zero]
    · rw [if_neg e2, if_neg e2]
theorem zent_in {h : zH} {p : Int} (hp : 0 < p) {N : Nat → Int} {q e : Nat} (hq : q < 64) (he : e < 7) : 0 ≤ zent h p N (9 + q) e ∧ zent h p N (9 + q) e < p := by
  rw [zent_i hq he]
  exact z_mod hp _
def zE1 (p : Int) (c : Nat → Nat → Int) (q e f s t : Nat) : Int := zab (zgd c 0) (zgd c 1) f s t q * zbr p c (zcrs p c f s) t e
def zE2 (p : Int) (c : Nat → Nat → Int) (q e f s : Nat) : Int := zsi (zE1 p c q e f s) 9
def zE3 (p : Int) (c : Nat → Nat → Int) (q e f : Nat) : Int := zsi (zE2 p c q e f) 9
/-- the coefficient of t^e in the entry q of the Dixon matrix -/
def zEn (p : Int) (c : Nat → Nat → Int) (q e : Nat) : Int := zsi (zE3 p c q e) 9 % p
theorem zbr_z {p : Int} {c X : Nat → Nat → Int} (hX : ∀ k, k < 3 → ∀ q, q < 5 → X k q = 0) {t e : Nat} : zbr p c X t e = 0 := by
  have h : zsi (fun k => zb2 c X t k e) 3 = 0 := zsi_z 3 (fun k hk => zsi_z 3 (fun e3 _ => zsi_z 5 (fun q hq => by unfold zbt; rw [hX k hk q hq, Int.mul_zero]; split <;> rfl)))
  unfold zbr
  rw [h, Int.zero_emod]
theorem zab_z1 {m n f s t q : Nat} (h : s % 3 = 0) : zab m n f s t q = 0 := zsi_z _ (fun x _ => by unfold zh2; rw [h]; rfl)
theorem zab_z0 {m n f s t q : Nat} (h : f < 3) : zab m n f s t q = 0 := by unfold zab; rw [show f / 3 = 0 by omega]; rfl
theorem zab_zm {m n f s t q : Nat} (h : m = 0 ∨ n = 0) : zab m n f s t q = 0 := zsi_z _ (fun x _ => zsi_z _ (fun y _ => if_neg (fun w => by have w1 := w.1; have w2 := w.2.2.2.1; omega)))
theorem zE2_z {p : Int} {c : Nat → Nat → Int} {q e f s : Nat} (h : ∀ t, t < 9 → zE1 p c q e f s t = 0) : zE2 p c q e f s = 0 := zsi_z 9 h
theorem zE3_z {p : Int} {c : Nat → Nat → Int} {q e f : Nat} (h : ∀ s t, zab (zgd c 0) (zgd c 1) f s t q = 0) : zE3 p c q e f = 0 := zsi_z 9 (fun s _ => zE2_z (fun t _ => by unfold zE1; rw [h, Int.zero_mul]))
def zFD (a j : Nat) : Prop := (9 ≤ a ∧ a < 78) ∨ (a = 7 ∧ j = 3)
theorem zsd_le (c : Nat → Nat → Int) : zsd c ≤ 8 := by
  have g0 := zgd_le c 0
  have g1 := zgd_le c 1
  unfold zsd
  split
  · rcases (show zgd c 0 = 1 ∨ zgd c 0 = 2 by omega) with e | e <;> rw [e] <;> omega
  · omega

set_option maxRecDepth 100000 in
set_option maxHeartbeats 4000000 in
theorem t_X0_forget {h : zH} : CV yX0_forget mX0_forget [vR 7] h (fun h' => h' = zup h 7 3 0) := by
  refine inV [some (vR 7)] mvX0_forget rfl (Nat.le_of_ble_eq_true rfl) rfl ?_
  refine w_aload0 dX0_forget_0 (wp_iconst dX0_forget_1 (wp_putz dX0_forget_2 fl_RX0_27 is_7 rfl (by first | exact Or.inl rfl | exact Or.inr rfl) ?_))
  refine r_v dX0_forget_5 rfl meX0_forget ?_
  rfl
set_option maxRecDepth 100000 in
set_option maxHeartbeats 4000000 in
theorem t_X0_at {h : zH} {rr cc : Int} {q : Nat} (hq : 8 * rr + cc = q) (hq64 : q < 64) (hr : -1000 ≤ rr ∧ rr ≤ 1000) (hc : -1000 ≤ cc ∧ cc ≤ 1000) : CR yX0_at mX0_at [vR 7, vI rr, vI cc] h (fun r h' => h' = h ∧ r = 9 + q) := by
  refine inV [some (vR 7), some (vI rr), some (vI cc), none] mvX0_at rfl (Nat.le_of_ble_eq_true rfl) rfl ?_
  have L35 : WP mX0_at (zMQ mX0_at (zKR (fun r h' => h' = h ∧ r = 9 + q))) 35 [none, none, none, none] [vR (9 + q)] zN zGR h := by
    skip
    refine r_a dX0_at_35 rfl meX0_at ?_
    exact ⟨rfl, rfl⟩
  refine wp_bipush dX0_at_0 (by decide) (w_iload1 dX0_at_2 (wp_imul dX0_at_3 (w_iload2 dX0_at_4 (wp_iadd dX0_at_5 (w_istore3 dX0_at_6 rfl (by decide) (w_iload3 dX0_at_7 ?_))))))
  refine wp_if_lt 29 dX0_at_8 rfl ⟨by omega, by omega⟩ (fun c8 => absurd c8 (by omega)) (fun c8 => ?_)
  refine w_iload3 dX0_at_11 (w_aload0 dX0_at_12 (wp_getr 8 dX0_at_13 fl_RX0_11 is_7 rfl (wp_alen dX0_at_16 is_8 (by decide) ?_)))
  refine wp_icmp_ge 29 dX0_at_17 rfl ⟨by omega, by omega⟩ ⟨by omega, by omega⟩ (fun c17 => absurd c17 (by omega)) (fun c17 => ?_)
  refine w_aload0 dX0_at_20 (wp_getr 8 dX0_at_21 fl_RX0_11 is_7 rfl (w_iload3 dX0_at_24 (x_aald q (9 + q) dX0_at_25 is_8 (Or.inl rfl) hq hq64 rfl (wp_goto 35 dX0_at_26 rfl ?_))))
  refine w_forget0 ?_
  refine w_forget1 ?_
  refine w_forget2 ?_
  refine w_forget3 ?_
  exact L35
set_option maxRecDepth 100000 in
set_option maxHeartbeats 4000000 in
theorem t_X0_termAt {h : zH} {rr cc ee : Int} {q e : Nat} (hq : 8 * rr + cc = q) (hq64 : q < 64) (hr : -1000 ≤ rr ∧ rr ≤ 1000) (hc : -1000 ≤ cc ∧ cc ≤ 1000) (he : ee = e) (he2 : e < 100000) : CI yX0_termAt mX0_termAt [vR 7, vI rr, vI cc, vI ee] h (fun r h' => h' = h ∧ r = if e < 7 then h (9 + q) e else 0) := by
  refine inV [some (vR 7), some (vI rr), some (vI cc), some (vI ee), none] mvX0_termAt rfl (Nat.le_of_ble_eq_true rfl) rfl ?_
  have L27 : ∀ (v : Int), (v = if e < 7 then h (9 + q) e else 0) → WP mX0_termAt (zMQ mX0_termAt (zKI (fun r h' => h' = h ∧ r = if e < 7 then h (9 + q) e else 0))) 27 [none, none, none, none, none] [vI v] zN zGR h := by
    intro v hv
    refine r_i dX0_termAt_27 rfl meX0_termAt ?_
    exact ⟨rfl, hv⟩
  refine w_aload0 dX0_termAt_0 (w_iload1 dX0_termAt_1 (w_iload2 dX0_termAt_2 ?_))
  apply v_r2 (M := mX0_termAt) dX0_termAt_3 lk_RX0_31 mvX0_at (by decide) meX0_termAt is_7 (Nat.le_of_ble_eq_true rfl)
  · exact t_X0_at hq hq64 hr hc
  intro x3 h3 hP3
  obtain ⟨eh3, ex3⟩ := hP3
  replace eh3 := eh3.symm
  subst eh3
  replace ex3 := ex3.symm
  subst ex3
  refine w_astore4 dX0_termAt_6 rfl (by decide) (w_iload3 dX0_termAt_8 ?_)
  refine wp_if_lt 26 dX0_termAt_9 rfl ⟨by omega, by omega⟩ (fun c9 => absurd c9 (by omega)) (fun c9 => ?_)
  refine w_iload3 dX0_termAt_12 (w_aload4 dX0_termAt_13 (wp_alen dX0_termAt_15 (z_is9 hq64) (by decide) ?_))
  refine wp_icmp_ge 26 dX0_termAt_16 rfl ⟨by omega, by omega⟩ ⟨by omega, by omega⟩ (fun c16 => ?_) (fun c16 => ?_)
  · skip
    refine wp_iconst dX0_termAt_26 ?_
    refine w_forget0 ?_
    refine w_forget1 ?_
    refine w_forget2 ?_
    refine w_forget3 ?_
    refine w_forget4 ?_
    first | exact L27 _ (by rw [if_pos (by omega)]) | exact L27 _ (by rw [if_neg (by omega)])
  · skip
    refine w_aload4 dX0_termAt_19 (w_iload3 dX0_termAt_21 (x_iald e dX0_termAt_22 (z_is9 hq64) he (by omega) (wp_goto 27 dX0_termAt_23 rfl ?_)))
    refine w_forget0 ?_
    refine w_forget1 ?_
    refine w_forget2 ?_
    refine w_forget3 ?_
    refine w_forget4 ?_
    first | exact L27 _ (by rw [if_pos (by omega)]) | exact L27 _ (by rw [if_neg (by omega)])
set_option maxRecDepth 100000 in
set_option maxHeartbeats 4000000 in
theorem t_X0_measure {h : zH} {p : Int} {c : Nat → Nat → Int} (hs : zSt p c) (hP : zPol p c 2 h) : CV yX0_measure mX0_measure [vR 7] h (fun h' => h' = zup (zup (zup h 7 0 (zgd c 0 : Int)) 7 1 (zgd c 1 : Int)) 7 2 (zsd c : Int)) := by
  refine inV [some (vR 7)] mvX0_measure rfl (Nat.le_of_ble_eq_true rfl) rfl ?_
  have g0 := zgd_le c 0
  have g1 := zgd_le c 1
  have k0 : zup (zup h 7 0 (zgd c 0 : Int)) 7 1 (zgd c 1 : Int) 7 0 = (zgd c 0 : Int) := by rw [zup_o (by omega), zup_s]
  have k1 : zup (zup h 7 0 (zgd c 0 : Int)) 7 1 (zgd c 1 : Int) 7 1 = (zgd c 1 : Int) := zup_s
  have hz : zin (2 * (zgd c 0 : Int) * (zgd c 1 : Int)) := by
    have w : zgd c 0 = 0 ∨ zgd c 0 = 1 ∨ zgd c 0 = 2 := by omega
    rcases w with w | w | w <;> rw [w] <;> exact ⟨by omega, by omega⟩
  have L56 : ∀ (v : Int), (v = (zsd c : Int)) → WP mX0_measure (zMQ mX0_measure (zKV (fun h' => h' = zup (zup (zup h 7 0 (zgd c 0 : Int)) 7 1 (zgd c 1 : Int)) 7 2 (zsd c : Int)))) 56 [some (vR 7)] [vI v, vR 7] zN zGR (zup (zup h 7 0 (zgd c 0 : Int)) 7 1 (zgd c 1 : Int)) := by
    intro v hv
    refine wp_puti dX0_measure_56 fl_RX0_48 is_7 rfl ?_
    refine r_v dX0_measure_59 rfl meX0_measure ?_
    subst hv
    rfl
  refine w_aload0 dX0_measure_0 (w_aload0 dX0_measure_1 (wp_getr 2 dX0_measure_2 fl_RX0_23 is_7 rfl (wp_iconst dX0_measure_5 ?_)))
  apply v_i1 (M := mX0_measure) dX0_measure_6 lk_RX0_35 mvX4_greatestDegree (by decide) meX0_measure is_2 (Nat.le_of_ble_eq_true rfl)
  · exact t_X4_greatestDegree zPo_2 rfl (by decide) hs hP
  intro x6 h6 hP6
  obtain ⟨eh6, ex6⟩ := hP6
  replace eh6 := eh6.symm
  subst eh6
  replace ex6 := ex6.symm
  subst ex6
  refine wp_puti dX0_measure_9 fl_RX0_41 is_7 rfl (w_aload0 dX0_measure_12 (w_aload0 dX0_measure_13 (wp_getr 2 dX0_measure_14 fl_RX0_23 is_7 rfl (wp_iconst dX0_measure_17 ?_))))
  apply v_i1 (M := mX0_measure) dX0_measure_18 lk_RX0_35 mvX4_greatestDegree (by decide) meX0_measure is_2 (Nat.le_of_ble_eq_true rfl)
  · exact t_X4_greatestDegree zPo_2 rfl (by decide) hs (zPol_eq hP (fun b j hb1 hb2 => zup_o (by omega)))
  intro x18 h18 hP18
  obtain ⟨eh18, ex18⟩ := hP18
  replace eh18 := eh18.symm
  subst eh18
  replace ex18 := ex18.symm
  subst ex18
  refine wp_puti dX0_measure_21 fl_RX0_45 is_7 rfl (w_aload0 dX0_measure_24 (w_aload0 dX0_measure_25 (wp_geti dX0_measure_26 fl_RX0_41 is_7 (wp_iconst dX0_measure_29 ?_))))
  rw [k0]
  refine wp_icmp_lt 55 dX0_measure_30 rfl ⟨by omega, by omega⟩ ⟨by omega, by omega⟩ (fun c30 => ?_) (fun c30 => ?_)
  · skip
    refine wp_iconst dX0_measure_55 ?_
    first
    | exact L56 _ (by unfold zsd; rw [if_pos (by omega)]; push_cast; rfl)
    | exact L56 _ (by unfold zsd; rw [if_neg (by omega)]; rfl)
  · skip
    refine w_aload0 dX0_measure_33 (wp_geti dX0_measure_34 fl_RX0_45 is_7 (wp_iconst dX0_measure_37 ?_))
    rw [k1]
    refine wp_icmp_lt 55 dX0_measure_38 rfl ⟨by omega, by omega⟩ ⟨by omega, by omega⟩ (fun c38 => ?_) (fun c38 => ?_)
    · skip
      refine wp_iconst dX0_measure_55 ?_
      first
      | exact L56 _ (by unfold zsd; rw [if_pos (by omega)]; push_cast; rfl)
      | exact L56 _ (by unfold zsd; rw [if_neg (by omega)]; rfl)
    · skip
      refine wp_iconst dX0_measure_41 (w_aload0 dX0_measure_42 (wp_geti dX0_measure_43 fl_RX0_41 is_7 ?_))
      rw [k0]
      refine wp_imul dX0_measure_46 (w_aload0 dX0_measure_47 (wp_geti dX0_measure_48 fl_RX0_45 is_7 ?_))
      rw [k1]
      refine wp_imul dX0_measure_51 (wp_goto 56 dX0_measure_52 rfl ?_)
      first
      | exact L56 _ (by unfold zsd; rw [if_pos (by omega)]; push_cast; rfl)
      | exact L56 _ (by unfold zsd; rw [if_neg (by omega)]; rfl)
set_option maxRecDepth 100000 in
set_option maxHeartbeats 4000000 in
theorem t_X0_addTo {h : zH} {a : Nat} (ha : zIs zN a (10, 7)) (hne : a ≠ 77) (hne2 : a ≠ 2) {p : Int} (hp : 0 < p ∧ p ≤ 31) (hp0 : h 2 0 = p) (hb : ∀ e, e < 7 → 0 ≤ h a e ∧ h a e < p ∧ 0 ≤ h 77 e ∧ h 77 e < p) : CV yX0_addTo mX0_addTo [vR 7, vR a] h (fun h' => h' = zfl h a 7 (fun e => (h a e + h 77 e) % p)) := by
  refine inV [some (vR 7), some (vR a), none] mvX0_addTo rfl (Nat.le_of_ble_eq_true rfl) rfl ?_
  have L2 : ∀ (zm2 : Nat) (i : Nat) (h' : zH) (vi : Int), 7 - i = zm2 → (i ≤ 7) → (vi = (i : Int)) → (h' = zfl h a i (fun e => (h a e + h 77 e) % p)) → WP mX0_addTo (zMQ mX0_addTo (zKV (fun h' => h' = zfl h a 7 (fun e => (h a e + h 77 e) % p)))) 2 [some (vR 7), some (vR a), some (vI vi)] [] zN zGR h' := by
    intro zm2
    induction zm2 using Nat.strongRecOn with | _ zm2 ih2 => ?_
    intro i h' vi hzm2 hi hvi hh
    subst hzm2
    have e2 : h' 2 0 = p := by rw [hh, zfl_o (by omega)]; exact hp0
    refine w_iload2 dX0_addTo_2 (w_aload1 dX0_addTo_3 (wp_alen dX0_addTo_4 ha (by decide) ?_))
    refine wp_icmp_ge 46 dX0_addTo_5 rfl ⟨by omega, by omega⟩ ⟨by omega, by omega⟩ (fun c5 => ?_) (fun c5 => ?_)
    · skip
      refine r_v dX0_addTo_46 rfl meX0_addTo ?_
      rw [hh, show i = 7 by omega]
    · skip
      refine w_iload2 dX0_addTo_8 (w_aload0 dX0_addTo_9 (wp_getr 77 dX0_addTo_10 fl_RX0_19 is_7 rfl (wp_alen dX0_addTo_13 is_77 (by decide) ?_)))
      refine wp_icmp_ge 46 dX0_addTo_14 rfl ⟨by omega, by omega⟩ ⟨by omega, by omega⟩ (fun c14 => absurd c14 (by omega)) (fun c14 => ?_)
      refine w_aload1 dX0_addTo_17 (w_iload2 dX0_addTo_18 (w_aload1 dX0_addTo_19 (w_iload2 dX0_addTo_20 (x_iald i dX0_addTo_21 ha hvi (by omega) (w_aload0 dX0_addTo_22 (wp_getr 77 dX0_addTo_23 fl_RX0_19 is_7 rfl (w_iload2 dX0_addTo_26 (x_iald i dX0_addTo_27 is_77 hvi (by omega) (wp_iadd dX0_addTo_28 ?_)))))))))
      refine w_aload0 dX0_addTo_29 (wp_getr 2 dX0_addTo_30 fl_RX0_23 is_7 rfl (wp_geti dX0_addTo_33 fl_RX0_77 is_2 ?_))
      have e1 : h' a i = h a i := by rw [hh, zfl_o (by omega)]
      have e3 : h' 77 i = h 77 i := by rw [hh, zfl_a (Ne.symm hne)]
      rw [e1, e3, e2]
      have hzi := hb i (by omega)
      apply s_i2 (M := mX0_addTo) dX0_addTo_36 lk_RX0_89 mvX3_residue (by decide) meX0_addTo (Nat.le_of_ble_eq_true rfl)
      · exact t_X3_residue ⟨by omega, by omega⟩ (by omega)
      intro x36 h36 hP36
      obtain ⟨eh36, ex36⟩ := hP36
      replace eh36 := eh36.symm
      subst eh36
      replace ex36 := ex36.symm
      subst ex36
      refine x_iast i dX0_addTo_39 ha hvi (by omega) (w_iinc2 dX0_addTo_40 rfl (by decide) (wp_goto 2 dX0_addTo_43 rfl ?_))
      exact ih2 _ (by omega) (i + 1) _ _ rfl (by omega) (by omega) (by rw [hh]; exact zfl_s rfl)
  refine wp_iconst dX0_addTo_0 (w_istore2 dX0_addTo_1 rfl (by decide) ?_)
  exact L2 _ 0 h 0 rfl (Nat.zero_le _) rfl zfl_0.symm
set_option maxRecDepth 100000 in
set_option maxHeartbeats 4000000 in
theorem t_X0_addCrossTerms {h : zH} {a t u f s : Nat} {ff ss sg p : Int} {A B G : Nat → Int} (ha : zIs zN a (10, 5)) (ht : zIs zN t (10, 27)) (hu : zIs zN u (10, 27)) (hat : a ≠ t) (hau : a ≠ u) (hff : ff = f) (hss : ss = s) (hf : f < 9) (hs : s < 9) (hsg : sg = 1 ∨ sg = -1) (hp : p ≤ 31) (hA : zin9 p A) (hB : zin9 p B) (eA : ∀ j, j < 27 → h t j = A j) (eB : ∀ j, j < 27 → h u j = B j) (eG : ∀ e, e < 5 → h a e = G e) (hG : ∀ e, e < 5 → -100000 ≤ G e ∧ G e ≤ 100000) : CV yX0_addCrossTerms mX0_addCrossTerms [vR a, vR t, vI ff, vR u, vI ss, vI sg] h (fun h' => h' = zfl h a 5 (fun e => G e + sg * zcw A B f s e)) := by
  refine inS [some (vR a), some (vR t), some (vI ff), some (vR u), some (vI ss), some (vI sg), none, none, none, none] mvX0_addCrossTerms rfl (Nat.le_of_ble_eq_true rfl) rfl ?_
  have L49 : ∀ (zm49 : Nat) (i : Nat) (h' : zH) (vi : Int), 3 - i = zm49 → (i ≤ 3) → (vi = (i : Int)) → (h' = zfl h a 5 (fun e => G e + sg * zsi (fun i => zsi (zct3 A B f s i e) 3) i)) → WP mX0_addCrossTerms (zMQ mX0_addCrossTerms (zKV (fun h' => h' = zfl h a 5 (fun e => G e + sg * zcw A B f s e)))) 49 [some (vR a), some (vR t), some (vI ff), some (vR u), some (vI ss), some (vI sg), some (vI (3 * ff)), some (vI (3 * ss)), some (vI vi), none] [] zN zGR h' := by
    intro zm49
    induction zm49 using Nat.strongRecOn with | _ zm49 ih49 => ?_
    intro i h' vi hzm49 hi hvi hh
    subst hzm49
    have L58 : ∀ (zm58 : Nat) (k : Nat) (h2 : zH) (vk : Int), 3 - k = zm58 → (i < 3) → (k ≤ 3) → (vk = (k : Int)) → (h2 = zfl h a 5 (fun e => G e + sg * (zsi (fun i => zsi (zct3 A B f s i e) 3) i + zsi (zct3 A B f s i e) k))) → WP mX0_addCrossTerms (zMQ mX0_addCrossTerms (zKV (fun h' => h' = zfl h a 5 (fun e => G e + sg * zcw A B f s e)))) 58 [some (vR a), some (vR t), some (vI ff), some (vR u), some (vI ss), some (vI sg), some (vI (3 * ff)), some (vI (3 * ss)), some (vI vi), some (vI vk)] [] zN zGR h2 := by
      intro zm58
      induction zm58 using Nat.strongRecOn with | _ zm58 ih58 => ?_
      intro k h2 vk hzm58 hi3 hk hvk hh2
      subst hzm58
      refine w_iload9 dX0_addCrossTerms_58 (wp_iconst dX0_addCrossTerms_60 ?_)
      refine wp_icmp_ge 98 dX0_addCrossTerms_61 rfl ⟨by omega, by omega⟩ ⟨by omega, by omega⟩ (fun c61 => ?_) (fun c61 => ?_)
      · skip
        refine w_iinc8 dX0_addCrossTerms_98 rfl (by decide) (wp_goto 49 dX0_addCrossTerms_101 rfl ?_)
        refine w_forget9 ?_
        refine ih49 _ (by omega) (i + 1) _ _ rfl (by omega) (by omega) ?_
        rw [hh2]
        refine zfl_congr (fun e he => ?_)
        show _ = G e + sg * (zsi (fun i => zsi (zct3 A B f s i e) 3) i + zsi (zct3 A B f s i e) 3)
        rw [show k = 3 by omega]
      · skip
        refine w_aload0 dX0_addCrossTerms_64 (w_iload8 dX0_addCrossTerms_65 (w_iload9 dX0_addCrossTerms_67 (wp_iadd dX0_addCrossTerms_69 (wp_dup2 dX0_addCrossTerms_70 rfl rfl (x_iald (i + k) dX0_addCrossTerms_71 ha (by omega) (by omega) (w_iload5 dX0_addCrossTerms_72 (w_aload1 dX0_addCrossTerms_74 (w_iload6 dX0_addCrossTerms_75 (w_iload8 dX0_addCrossTerms_77 ?_)))))))))
        refine wp_iadd dX0_addCrossTerms_79 (x_iald (3 * f + i) dX0_addCrossTerms_80 ht (by omega) (by omega) ?_)
        have e1 : h2 t (3 * f + i) = A (3 * f + i) := by rw [hh2, zfl_a (Ne.symm hat), eA _ (by omega)]
        rw [e1]
        have hb1 := hA (3 * f + i) (by omega)
        have hb3 := z_sg (sg := sg) (x := A (3 * f + i)) (M := 31) hsg (by omega)
        refine wp_imul dX0_addCrossTerms_81 (w_aload3 dX0_addCrossTerms_82 (w_iload7 dX0_addCrossTerms_83 (w_iload9 dX0_addCrossTerms_85 (wp_iadd dX0_addCrossTerms_87 (x_iald (3 * s + k) dX0_addCrossTerms_88 hu (by omega) (by omega) ?_)))))
        have e2 : h2 u (3 * s + k) = B (3 * s + k) := by rw [hh2, zfl_a (Ne.symm hau), eB _ (by omega)]
        rw [e2]
        have hb2 := hB (3 * s + k) (by omega)
        have hb4 : zin (sg * A (3 * f + i) * B (3 * s + k)) := by
          rw [Int.mul_assoc]
          have := z_sg (sg := sg) (x := A (3 * f + i) * B (3 * s + k)) (M := 900) hsg (by have := z_mb hb1 hb2 hp; omega)
          exact ⟨by omega, by omega⟩
        refine wp_imul dX0_addCrossTerms_89 ?_
        have e3 : h2 a (i + k) = G (i + k) + sg * (zsi (fun i_1 => zsi (zct3 A B f s i_1 (i + k)) 3) i + zsi (zct3 A B f s i (i + k)) k) := by rw [hh2, zfl_i (by omega)]
        rw [e3]
        have hb5 := zcw_b2 (e := i + k) hA hB hp hf hs hi
        have hb6 := zcw_b1 (e := i + k) (i := i) (k := k) hA hB hp hf hs hi3 hk
        have hb7 := z_sg (sg := sg) (x := zsi (fun i_1 => zsi (zct3 A B f s i_1 (i + k)) 3) i + zsi (zct3 A B f s i (i + k)) k) (M := 10800) hsg (by omega)
        have hb8 := hG (i + k) (by omega)
        have hb9 : -900 ≤ sg * A (3 * f + i) * B (3 * s + k) ∧ sg * A (3 * f + i) * B (3 * s + k) ≤ 900 := by
          rw [Int.mul_assoc]
          exact z_sg hsg (by have := z_mb hb1 hb2 hp; omega)
        refine wp_iadd dX0_addCrossTerms_90 (x_iast (i + k) dX0_addCrossTerms_91 ha (by omega) (by omega) (w_iinc9 dX0_addCrossTerms_92 rfl (by decide) (wp_goto 58 dX0_addCrossTerms_95 rfl ?_)))
        refine ih58 _ (by omega) (k + 1) _ _ rfl hi3 (by omega) (by omega) ?_
        rw [hh2]
        funext b j
        unfold zup zfl
        try dsimp only
        by_cases e : b = a ∧ j = i + k
        · rw [if_pos e, if_pos ⟨e.1, by omega⟩, e.2]
          show _ = G (i + k) + sg * (zsi (fun i_1 => zsi (zct3 A B f s i_1 (i + k)) 3) i + (zsi (zct3 A B f s i (i + k)) k + zct3 A B f s i (i + k) k))
          unfold zct3
          rw [if_pos rfl, Int.mul_assoc, ← Int.add_assoc, Int.mul_add sg _ (A _ * _), Int.add_assoc]
        · rw [if_neg e]
          by_cases e4 : b = a ∧ j < 5
          · rw [if_pos e4, if_pos e4]
            show _ = G j + sg * (zsi (fun i_1 => zsi (zct3 A B f s i_1 j) 3) i + (zsi (zct3 A B f s i j) k + zct3 A B f s i j k))
            have e5 : zct3 A B f s i j k = 0 := if_neg (by omega)
            rw [e5, Int.add_zero]
          · rw [if_neg e4, if_neg e4]
    refine w_iload8 dX0_addCrossTerms_49 (wp_iconst dX0_addCrossTerms_51 ?_)
    refine wp_icmp_ge 104 dX0_addCrossTerms_52 rfl ⟨by omega, by omega⟩ ⟨by omega, by omega⟩ (fun c52 => ?_) (fun c52 => ?_)
    · skip
      refine r_v dX0_addCrossTerms_104 rfl meX0_addCrossTerms ?_
      rw [hh, show i = 3 by omega]
      rfl
    · skip
      refine wp_iconst dX0_addCrossTerms_55 (w_istore9 dX0_addCrossTerms_56 rfl (by decide) ?_)
      refine L58 _ 0 h' 0 rfl (by omega) (Nat.zero_le _) rfl ?_
      rw [hh]
      refine zfl_congr (fun e he => ?_)
      show _ = G e + sg * (zsi (fun i => zsi (zct3 A B f s i e) 3) i + 0)
      rw [Int.add_zero]
  refine wp_iconst dX0_addCrossTerms_0 (w_iload2 dX0_addCrossTerms_1 (wp_imul dX0_addCrossTerms_2 (w_istore6 dX0_addCrossTerms_3 rfl (by decide) (wp_iconst dX0_addCrossTerms_5 (w_iload4 dX0_addCrossTerms_6 (wp_imul dX0_addCrossTerms_8 (w_istore7 dX0_addCrossTerms_9 rfl (by decide) (w_iload6 dX0_addCrossTerms_11 ?_))))))))
  refine wp_if_lt 45 dX0_addCrossTerms_13 rfl ⟨by omega, by omega⟩ (fun c13 => absurd c13 (by omega)) (fun c13 => ?_)
  refine w_iload6 dX0_addCrossTerms_16 (wp_iconst dX0_addCrossTerms_18 (wp_iadd dX0_addCrossTerms_19 (w_aload1 dX0_addCrossTerms_20 (wp_alen dX0_addCrossTerms_21 ht (by decide) ?_))))
  refine wp_icmp_ge 45 dX0_addCrossTerms_22 rfl ⟨by omega, by omega⟩ ⟨by omega, by omega⟩ (fun c22 => absurd c22 (by omega)) (fun c22 => ?_)
  refine w_iload7 dX0_addCrossTerms_25 ?_
  refine wp_if_lt 45 dX0_addCrossTerms_27 rfl ⟨by omega, by omega⟩ (fun c27 => absurd c27 (by omega)) (fun c27 => ?_)
  refine w_iload7 dX0_addCrossTerms_30 (wp_iconst dX0_addCrossTerms_32 (wp_iadd dX0_addCrossTerms_33 (w_aload3 dX0_addCrossTerms_34 (wp_alen dX0_addCrossTerms_35 hu (by decide) ?_))))
  refine wp_icmp_ge 45 dX0_addCrossTerms_36 rfl ⟨by omega, by omega⟩ ⟨by omega, by omega⟩ (fun c36 => absurd c36 (by omega)) (fun c36 => ?_)
  refine w_aload0 dX0_addCrossTerms_39 (wp_alen dX0_addCrossTerms_40 ha (by decide) (wp_iconst dX0_addCrossTerms_41 ?_))
  refine wp_icmp_ge 46 dX0_addCrossTerms_42 rfl ⟨by omega, by omega⟩ ⟨by omega, by omega⟩ (fun c42 => ?_) (fun c42 => absurd c42 (by omega))
  refine wp_iconst dX0_addCrossTerms_46 (w_istore8 dX0_addCrossTerms_47 rfl (by decide) ?_)
  exact L49 _ 0 h 0 rfl (Nat.zero_le _) rfl (zfl_id (fun j hj => by show G j + sg * 0 = _; rw [Int.mul_zero, eG j hj, Int.add_zero])).symm
set_option maxRecDepth 100000 in
set_option maxHeartbeats 4000000 in
theorem t_X0_multiplyAcross {h : zH} {ff ss : Int} {f s : Nat} (hff : ff = f) (hss : ss = s) (hf : f < 9) (hs9 : s < 9) {p : Int} {c : Nat → Nat → Int} (hs : zSt p c) (hP : zPol p c 2 h) : CI yX0_multiplyAcross mX0_multiplyAcross [vR 7, vI ff, vI ss] h (fun r h' => zFr (fun a _ => 74 ≤ a ∧ a < 77) h h' ∧ (∀ k, k < 3 → ∀ e, e < 5 → h' (74 + k) e = zcrs p c f s k e) ∧ (r = 0 ∨ r = 1) ∧ (r = 0 → ∀ k, k < 3 → ∀ e, e < 5 → zcrs p c f s k e = 0)) := by
  refine inV [some (vR 7), some (vI ff), some (vI ss), none, none, none, none, none, none] mvX0_multiplyAcross rfl (Nat.le_of_ble_eq_true rfl) rfl ?_
  have hp := hs.p
  have hc9 : ∀ k, zin9 p (c k) := fun k j _ => hs.2 k j
  have L5 : ∀ (zm5 : Nat) (k : Nat) (h' : zH) (r vk : Int), 3 - k = zm5 → (k ≤ 3) → (vk = (k : Int)) → (zFr (fun a _ => 74 ≤ a ∧ a < 77) h h') → (∀ q, q < k → ∀ e, e < 5 → h' (74 + q) e = zcrs p c f s q e) → (r = 0 ∨ r = 1) → (r = 0 → ∀ q, q < k → ∀ e, e < 5 → zcrs p c f s q e = 0) → WP mX0_multiplyAcross (zMQ mX0_multiplyAcross (zKI (fun r h' => zFr (fun a _ => 74 ≤ a ∧ a < 77) h h' ∧ (∀ k, k < 3 → ∀ e, e < 5 → h' (74 + k) e = zcrs p c f s k e) ∧ (r = 0 ∨ r = 1) ∧ (r = 0 → ∀ k, k < 3 → ∀ e, e < 5 → zcrs p c f s k e = 0)))) 5 [some (vR 7), some (vI ff), some (vI ss), some (vI r), some (vI vk), none, none, none, none] [] zN zGR h' := by
    intro zm5
    induction zm5 using Nat.strongRecOn with | _ zm5 ih5 => ?_
    intro k h' r vk hzm5 hk hvk hF hX hr hz
    subst hzm5
    have hT : ∀ q, q < 3 → ∀ j, j < 27 → h' (2 + 2 + q) j = c q j := fun q hq j hj => by rw [hF _ _ (by omega)]; exact hP.2 q hq j hj
    have hp0 : h' 2 0 = p := by rw [hF _ _ (by omega)]; exact hP.1
    have L95 : ∀ (zm95 : Nat) (e : Nat) (h2 : zH) (r2 ve : Int), 5 - e = zm95 → (k < 3) → (e ≤ 5) → (ve = (e : Int)) → (zFr (fun a _ => 74 ≤ a ∧ a < 77) h h2) → (∀ q, q < k + 1 → ∀ e, e < 5 → h2 (74 + q) e = zcrs p c f s q e) → (r2 = 0 ∨ r2 = 1) → (r2 = 0 → (∀ q, q < k → ∀ e, e < 5 → zcrs p c f s q e = 0) ∧ ∀ i, i < e → zcrs p c f s k i = 0) → WP mX0_multiplyAcross (zMQ mX0_multiplyAcross (zKI (fun r h' => zFr (fun a _ => 74 ≤ a ∧ a < 77) h h' ∧ (∀ k, k < 3 → ∀ e, e < 5 → h' (74 + k) e = zcrs p c f s k e) ∧ (r = 0 ∨ r = 1) ∧ (r = 0 → ∀ k, k < 3 → ∀ e, e < 5 → zcrs p c f s k e = 0)))) 95 [some (vR 7), some (vI ff), some (vI ss), some (vI r2), some (vI vk), none, none, some (vR (74 + k)), some (vI ve)] [] zN zGR h2 := by
      intro zm95
      induction zm95 using Nat.strongRecOn with | _ zm95 ih95 => ?_
      intro e h2 r2 ve hzm95 hk3 he hve hF2 hX2 hr2 hz2
      subst hzm95
      refine w_iload8 dX0_multiplyAcross_95 (w_aload7 dX0_multiplyAcross_97 (wp_alen dX0_multiplyAcross_99 (z_is74 hk3) (by decide) ?_))
      refine wp_icmp_ge 127 dX0_multiplyAcross_100 rfl ⟨by omega, by omega⟩ ⟨by omega, by omega⟩ (fun c100 => ?_) (fun c100 => ?_)
      · skip
        refine w_iinc4 dX0_multiplyAcross_127 rfl (by decide) (wp_goto 5 dX0_multiplyAcross_130 rfl ?_)
        refine w_forget7 ?_
        refine w_forget8 ?_
        refine ih5 _ (by omega) (k + 1) _ _ _ rfl (by omega) (by omega) hF2 hX2 hr2 (fun e0 q hq i hi => ?_)
        by_cases e : q = k
        · rw [e]
          exact (hz2 e0).2 i (by omega)
        · exact (hz2 e0).1 q (by omega) i hi
      · skip
        refine w_iload3 dX0_multiplyAcross_103 ?_
        refine wp_if_ne 115 dX0_multiplyAcross_104 rfl ⟨by omega, by omega⟩ (fun c104 => ?_) (fun c104 => ?_)
        · skip
          refine wp_iconst dX0_multiplyAcross_115 (wp_goto 120 dX0_multiplyAcross_116 rfl (w_istore3 dX0_multiplyAcross_120 rfl (by decide) (w_iinc8 dX0_multiplyAcross_121 rfl (by decide) (wp_goto 95 dX0_multiplyAcross_124 rfl ?_))))
          first
          | exact ih95 _ (by omega) (e + 1) h2 1 _ rfl hk3 (by omega) (by omega) hF2 hX2 (Or.inr rfl) (fun e0 => absurd e0 (by decide))
          | (refine ih95 _ (by omega) (e + 1) h2 0 _ rfl hk3 (by omega) (by omega) hF2 hX2 (Or.inl rfl) (fun _ => ⟨(hz2 (by omega)).1, fun i hi => ?_⟩)
             by_cases q : i = e
             · rw [q, ← hX2 k (by omega) e (by omega)]
               omega
             · exact (hz2 (by omega)).2 i (by omega))
        · skip
          refine w_aload7 dX0_multiplyAcross_107 (w_iload8 dX0_multiplyAcross_109 (x_iald e dX0_multiplyAcross_111 (z_is74 hk3) hve (by omega) ?_))
          have hx1 := hX2 k (by omega) e (by omega)
          have hx2 := zcrs_in (c := c) (f := f) (s := s) (k := k) (e := e) (show 0 < p by omega)
          refine wp_if_eq 119 dX0_multiplyAcross_112 rfl ⟨by omega, by omega⟩ (fun c112 => ?_) (fun c112 => ?_)
          · skip
            refine wp_iconst dX0_multiplyAcross_119 (w_istore3 dX0_multiplyAcross_120 rfl (by decide) (w_iinc8 dX0_multiplyAcross_121 rfl (by decide) (wp_goto 95 dX0_multiplyAcross_124 rfl ?_)))
            first
            | exact ih95 _ (by omega) (e + 1) h2 1 _ rfl hk3 (by omega) (by omega) hF2 hX2 (Or.inr rfl) (fun e0 => absurd e0 (by decide))
            | (refine ih95 _ (by omega) (e + 1) h2 0 _ rfl hk3 (by omega) (by omega) hF2 hX2 (Or.inl rfl) (fun _ => ⟨(hz2 (by omega)).1, fun i hi => ?_⟩)
               by_cases q : i = e
               · rw [q, ← hX2 k (by omega) e (by omega)]
                 omega
               · exact (hz2 (by omega)).2 i (by omega))
          · skip
            refine wp_iconst dX0_multiplyAcross_115 (wp_goto 120 dX0_multiplyAcross_116 rfl (w_istore3 dX0_multiplyAcross_120 rfl (by decide) (w_iinc8 dX0_multiplyAcross_121 rfl (by decide) (wp_goto 95 dX0_multiplyAcross_124 rfl ?_))))
            first
            | exact ih95 _ (by omega) (e + 1) h2 1 _ rfl hk3 (by omega) (by omega) hF2 hX2 (Or.inr rfl) (fun e0 => absurd e0 (by decide))
            | (refine ih95 _ (by omega) (e + 1) h2 0 _ rfl hk3 (by omega) (by omega) hF2 hX2 (Or.inl rfl) (fun _ => ⟨(hz2 (by omega)).1, fun i hi => ?_⟩)
               by_cases q : i = e
               · rw [q, ← hX2 k (by omega) e (by omega)]
                 omega
               · exact (hz2 (by omega)).2 i (by omega))
    refine w_iload4 dX0_multiplyAcross_5 (wp_iconst dX0_multiplyAcross_7 ?_)
    refine wp_icmp_ge 133 dX0_multiplyAcross_8 rfl ⟨by omega, by omega⟩ ⟨by omega, by omega⟩ (fun c8 => ?_) (fun c8 => ?_)
    · skip
      refine w_iload3 dX0_multiplyAcross_133 ?_
      refine r_z dX0_multiplyAcross_134 rfl meX0_multiplyAcross (by first | exact Or.inl rfl | exact Or.inr rfl | omega) ?_
      rw [show k = 3 by omega] at hX hz
      exact ⟨hF, hX, hr, hz⟩
    · skip
      refine w_aload0 dX0_multiplyAcross_11 (wp_getr 2 dX0_multiplyAcross_12 fl_RX0_23 is_7 rfl (w_iload4 dX0_multiplyAcross_15 (wp_iconst dX0_multiplyAcross_17 (wp_iadd dX0_multiplyAcross_18 (wp_iconst dX0_multiplyAcross_19 (wp_irem dX0_multiplyAcross_20 (by omega) (by omega) ?_))))))
      apply v_r1 (M := mX0_multiplyAcross) dX0_multiplyAcross_21 lk_RX0_69 mvX4_termsOf (by decide) meX0_multiplyAcross is_2 (Nat.le_of_ble_eq_true rfl)
      · exact t_X4_termsOf zPo_2 (k := (k + 1) % 3) (by omega) (by omega)
      intro x21 h21 hP21
      obtain ⟨eh21, ex21⟩ := hP21
      replace eh21 := eh21.symm
      subst eh21
      replace ex21 := ex21.symm
      subst ex21
      refine w_astore5 dX0_multiplyAcross_24 rfl (by decide) (w_aload0 dX0_multiplyAcross_26 (wp_getr 2 dX0_multiplyAcross_27 fl_RX0_23 is_7 rfl (w_iload4 dX0_multiplyAcross_30 (wp_iconst dX0_multiplyAcross_32 (wp_iadd dX0_multiplyAcross_33 (wp_iconst dX0_multiplyAcross_34 (wp_irem dX0_multiplyAcross_35 (by omega) (by omega) ?_)))))))
      apply v_r1 (M := mX0_multiplyAcross) dX0_multiplyAcross_36 lk_RX0_69 mvX4_termsOf (by decide) meX0_multiplyAcross is_2 (Nat.le_of_ble_eq_true rfl)
      · exact t_X4_termsOf zPo_2 (k := (k + 2) % 3) (by omega) (by omega)
      intro x36 h36 hP36
      obtain ⟨eh36, ex36⟩ := hP36
      replace eh36 := eh36.symm
      subst eh36
      replace ex36 := ex36.symm
      subst ex36
      refine w_astore6 dX0_multiplyAcross_39 rfl (by decide) (w_aload0 dX0_multiplyAcross_41 (wp_getr 73 dX0_multiplyAcross_42 fl_RX0_16 is_7 rfl (w_iload4 dX0_multiplyAcross_45 (x_aald k (74 + k) dX0_multiplyAcross_47 is_73 (Or.inl rfl) hvk (by omega) rfl (w_astore7 dX0_multiplyAcross_48 rfl (by decide) (w_aload7 dX0_multiplyAcross_50 (wp_iconst dX0_multiplyAcross_52 ?_)))))))
      apply s_v2 (M := mX0_multiplyAcross) dX0_multiplyAcross_53 lk_RX0_51 mvJ7_fill_53178 (by decide) meX0_multiplyAcross (Nat.le_of_ble_eq_true rfl)
      · exact t_J7_fill_53178 (z_is74 (by omega))
      intro h53 hP53
      replace hP53 : h53 = zfl h' (74 + k) 5 (fun _ => 0) := hP53
      refine w_aload7 dX0_multiplyAcross_56 (w_aload5 dX0_multiplyAcross_58 (w_iload1 dX0_multiplyAcross_60 (w_aload6 dX0_multiplyAcross_61 (w_iload2 dX0_multiplyAcross_63 (wp_iconst dX0_multiplyAcross_64 ?_)))))
      apply s_v6 (M := mX0_multiplyAcross) dX0_multiplyAcross_65 lk_RX0_73 mvX0_addCrossTerms (by decide) meX0_multiplyAcross (Nat.le_of_ble_eq_true rfl)
      · exact t_X0_addCrossTerms (A := c ((k + 1) % 3)) (B := c ((k + 2) % 3)) (G := fun _ => 0) (p := p) (z_is74 (by omega)) (zPo_r zPo_2 (by omega)) (zPo_r zPo_2 (by omega)) (by omega) (by omega) hff hss hf hs9 (Or.inl rfl) (by omega) (hc9 _) (hc9 _) (fun j hj => by rw [hP53, zfl_o (by omega)]; exact hT _ (by omega) j hj) (fun j hj => by rw [hP53, zfl_o (by omega)]; exact hT _ (by omega) j hj) (fun e he => by rw [hP53, zfl_i he]) (fun e he => ⟨by omega, by omega⟩)
      intro h65 hP65
      replace hP65 : h65 = zfl h53 (74 + k) 5 (fun e => 0 + 1 * zcw (c ((k + 1) % 3)) (c ((k + 2) % 3)) f s e) := hP65
      refine w_aload7 dX0_multiplyAcross_68 (w_aload6 dX0_multiplyAcross_70 (w_iload1 dX0_multiplyAcross_72 (w_aload5 dX0_multiplyAcross_73 (w_iload2 dX0_multiplyAcross_75 (wp_iconst dX0_multiplyAcross_76 ?_)))))
      apply s_v6 (M := mX0_multiplyAcross) dX0_multiplyAcross_77 lk_RX0_73 mvX0_addCrossTerms (by decide) meX0_multiplyAcross (Nat.le_of_ble_eq_true rfl)
      · exact t_X0_addCrossTerms (A := c ((k + 2) % 3)) (B := c ((k + 1) % 3)) (G := fun e => 0 + 1 * zcw (c ((k + 1) % 3)) (c ((k + 2) % 3)) f s e) (p := p) (z_is74 (by omega)) (zPo_r zPo_2 (by omega)) (zPo_r zPo_2 (by omega)) (by omega) (by omega) hff hss hf hs9 (Or.inr rfl) (by omega) (hc9 _) (hc9 _) (fun j hj => by rw [hP65, zfl_o (by omega), hP53, zfl_o (by omega)]; exact hT _ (by omega) j hj) (fun j hj => by rw [hP65, zfl_o (by omega), hP53, zfl_o (by omega)]; exact hT _ (by omega) j hj) (fun e he => by rw [hP65, zfl_i he]) (fun e he => by have := zcw_b2 (e := e) (hc9 ((k + 1) % 3)) (hc9 ((k + 2) % 3)) (by omega) hf hs9 (Nat.le_refl 3); unfold zcw; omega)
      intro h77 hP77
      replace hP77 : h77 = zfl h65 (74 + k) 5 (fun e => 0 + 1 * zcw (c ((k + 1) % 3)) (c ((k + 2) % 3)) f s e + -1 * zcw (c ((k + 2) % 3)) (c ((k + 1) % 3)) f s e) := hP77
      refine w_aload7 dX0_multiplyAcross_80 (w_aload0 dX0_multiplyAcross_82 (wp_getr 2 dX0_multiplyAcross_83 fl_RX0_23 is_7 rfl (wp_geti dX0_multiplyAcross_86 fl_RX0_77 is_2 ?_)))
      have e2 : h77 2 0 = p := by rw [hP77, zfl_o (by omega), hP65, zfl_o (by omega), hP53, zfl_o (by omega)]; exact hp0
      rw [e2]
      have e77 : ∀ e, e < 5 → h77 (74 + k) e = zcw (c ((k + 1) % 3)) (c ((k + 2) % 3)) f s e - zcw (c ((k + 2) % 3)) (c ((k + 1) % 3)) f s e := fun e he => by
        rw [hP77, zfl_i he]
        try dsimp only
        omega
      have hb77 : ∀ e, e < 5 → zin (h77 (74 + k) e) := fun e he => by
        rw [e77 e he]
        have w1 := zcw_b2 (e := e) (hc9 ((k + 1) % 3)) (hc9 ((k + 2) % 3)) (by omega) hf hs9 (Nat.le_refl 3)
        have w2 := zcw_b2 (e := e) (hc9 ((k + 2) % 3)) (hc9 ((k + 1) % 3)) (by omega) hf hs9 (Nat.le_refl 3)
        unfold zcw
        exact ⟨by omega, by omega⟩
      apply s_v2 (M := mX0_multiplyAcross) dX0_multiplyAcross_89 lk_RX0_80 mvX3_reduceAll (by decide) meX0_multiplyAcross (Nat.le_of_ble_eq_true rfl)
      · exact t_X3_reduceAll (z_is74 (by omega)) (by omega) hb77
      intro h89 hP89
      replace hP89 : h89 = zfl h77 (74 + k) 5 (fun e => h77 (74 + k) e % p) := hP89
      have hX89 : ∀ q, q < k + 1 → ∀ e, e < 5 → h89 (74 + q) e = zcrs p c f s q e := by
        intro q hq e he
        by_cases w : q = k
        · rw [w, hP89, zfl_i he, e77 e he]
          rfl
        · rw [hP89, zfl_o (by omega), hP77, zfl_o (by omega), hP65, zfl_o (by omega), hP53, zfl_o (by omega)]
          exact hX q (by omega) e he
      have hF89 : zFr (fun a _ => 74 ≤ a ∧ a < 77) h h89 := by
        intro a j n
        rw [hP89, zfl_o (by omega), hP77, zfl_o (by omega), hP65, zfl_o (by omega), hP53, zfl_o (by omega)]
        exact hF a j n
      refine wp_iconst dX0_multiplyAcross_92 (w_istore8 dX0_multiplyAcross_93 rfl (by decide) ?_)
      refine w_forget5 ?_
      refine w_forget6 ?_
      exact L95 _ 0 h89 r 0 rfl (by omega) (Nat.zero_le _) rfl hF89 hX89 hr (fun e0 => ⟨hz e0, fun i hi => absurd hi (Nat.not_lt_zero i)⟩)
  refine wp_iconst dX0_multiplyAcross_0 (w_istore3 dX0_multiplyAcross_1 rfl (by decide) (wp_iconst dX0_multiplyAcross_2 (w_istore4 dX0_multiplyAcross_3 rfl (by decide) ?_)))
  exact L5 _ 0 h 0 0 rfl (Nat.zero_le _) rfl zFr.rf (fun q hq => absurd hq (Nat.not_lt_zero q)) (Or.inl rfl) (fun _ q hq => absurd hq (Nat.not_lt_zero q))
set_option maxRecDepth 100000 in
set_option maxHeartbeats 4000000 in
theorem t_X0_closeBracket {h : zH} {tt : Int} {t : Nat} (htt : tt = t) (ht : t < 9) {p : Int} {c X : Nat → Nat → Int} (hs : zSt p c) (hP : zPol p c 2 h) (hX : zin5 p X) (eX : ∀ k, k < 3 → ∀ q, q < 5 → h (74 + k) q = X k q) : CV yX0_closeBracket mX0_closeBracket [vR 7, vI tt] h (fun h' => h' = zfl h 77 7 (fun e => zbr p c X t e)) := by
  refine inV [some (vR 7), some (vI tt), none, none, none, none, none, none, none] mvX0_closeBracket rfl (Nat.le_of_ble_eq_true rfl) rfl ?_
  have hp := hs.p
  have hc9 : ∀ k, zin9 p (c k) := fun k j _ => hs.2 k j
  have hpl : p ≤ 31 := hp.2
  have L10 : ∀ (zm10 : Nat) (k : Nat) (h' : zH) (vk : Int), 3 - k = zm10 → (k ≤ 3) → (vk = (k : Int)) → (h' = zfl h 77 7 (fun e => zsi (fun k => zb2 c X t k e) k)) → WP mX0_closeBracket (zMQ mX0_closeBracket (zKV (fun h' => h' = zfl h 77 7 (fun e => zbr p c X t e)))) 10 [some (vR 7), some (vI tt), some (vI vk), none, none, none, none, none, none] [] zN zGR h' := by
    intro zm10
    induction zm10 using Nat.strongRecOn with | _ zm10 ih10 => ?_
    intro k h' vk hzm10 hk hvk hh
    subst hzm10
    have L35 : ∀ (zm35 : Nat) (e3 : Nat) (h2 : zH) (ve : Int), 3 - e3 = zm35 → (k < 3) → (e3 ≤ 3) → (ve = (e3 : Int)) → (h2 = zfl h 77 7 (fun e => zsi (fun k => zb2 c X t k e) k + zsi (fun e3 => zb1 c X t k e3 e) e3)) → WP mX0_closeBracket (zMQ mX0_closeBracket (zKV (fun h' => h' = zfl h 77 7 (fun e => zbr p c X t e)))) 35 [some (vR 7), some (vI tt), some (vI vk), some (vR (2 + 2 + k)), some (vR (74 + k)), some (vI ve), none, none, none] [] zN zGR h2 := by
      intro zm35
      induction zm35 using Nat.strongRecOn with | _ zm35 ih35 => ?_
      intro e3 h2 ve hzm35 hk3 he3 hve hh2
      subst hzm35
      have L74 : ∀ (zm74 : Nat) (q : Nat) (h3 : zH) (vq : Int), 5 - q = zm74 → (e3 < 3) → (q ≤ 5) → (vq = (q : Int)) → (h3 = zfl h 77 7 (fun e => zsi (fun k => zb2 c X t k e) k + zsi (fun e3 => zb1 c X t k e3 e) e3 + zsi (zbt c X t k e3 e) q)) → WP mX0_closeBracket (zMQ mX0_closeBracket (zKV (fun h' => h' = zfl h 77 7 (fun e => zbr p c X t e)))) 74 [some (vR 7), some (vI tt), some (vI vk), some (vR (2 + 2 + k)), some (vR (74 + k)), some (vI ve), some (vI (3 * tt + ve)), some (vI (c k (3 * t + e3))), some (vI vq)] [] zN zGR h3 := by
        intro zm74
        induction zm74 using Nat.strongRecOn with | _ zm74 ih74 => ?_
        intro q h3 vq hzm74 he33 hq hvq hh3
        subst hzm74
        have hcb := hc9 k (3 * t + e3) (by omega)
        refine w_iload7 dX0_closeBracket_74 ?_
        refine wp_if_eq 127 dX0_closeBracket_76 rfl ⟨by omega, by omega⟩ (fun c76 => ?_) (fun c76 => ?_)
        · skip
          refine w_iinc5 dX0_closeBracket_127 rfl (by decide) (wp_goto 35 dX0_closeBracket_130 rfl ?_)
          refine w_forget6 ?_
          refine w_forget7 ?_
          refine w_forget8 ?_
          refine ih35 _ (by omega) (e3 + 1) _ _ rfl hk3 (by omega) (by omega) ?_
          rw [hh3]
          refine zfl_congr (fun e he => ?_)
          show _ = zsi (fun k => zb2 c X t k e) k + (zsi (fun e3 => zb1 c X t k e3 e) e3 + zb1 c X t k e3 e)
          have hq5' : q = 5 ∨ c k (3 * t + e3) = 0 := by omega
          have e9 : zsi (zbt c X t k e3 e) q = zb1 c X t k e3 e := by
            rcases hq5' with w | w
            · rw [w]
              rfl
            · have hz : ∀ n, zsi (zbt c X t k e3 e) n = 0 := fun n => zsi_z n (fun i _ => by unfold zbt; rw [w, Int.zero_mul]; split <;> rfl)
              rw [hz]
              exact (hz 5).symm
          rw [e9, Int.add_assoc]
        · skip
          refine w_iload8 dX0_closeBracket_79 (w_aload4 dX0_closeBracket_81 (wp_alen dX0_closeBracket_83 (z_is74 hk3) (by decide) ?_))
          refine wp_icmp_ge 127 dX0_closeBracket_84 rfl ⟨by omega, by omega⟩ ⟨by omega, by omega⟩ (fun c84 => ?_) (fun c84 => ?_)
          · skip
            refine w_iinc5 dX0_closeBracket_127 rfl (by decide) (wp_goto 35 dX0_closeBracket_130 rfl ?_)
            refine w_forget6 ?_
            refine w_forget7 ?_
            refine w_forget8 ?_
            refine ih35 _ (by omega) (e3 + 1) _ _ rfl hk3 (by omega) (by omega) ?_
            rw [hh3]
            refine zfl_congr (fun e he => ?_)
            show _ = zsi (fun k => zb2 c X t k e) k + (zsi (fun e3 => zb1 c X t k e3 e) e3 + zb1 c X t k e3 e)
            have hq5' : q = 5 ∨ c k (3 * t + e3) = 0 := by omega
            have e9 : zsi (zbt c X t k e3 e) q = zb1 c X t k e3 e := by
              rcases hq5' with w | w
              · rw [w]
                rfl
              · have hz : ∀ n, zsi (zbt c X t k e3 e) n = 0 := fun n => zsi_z n (fun i _ => by unfold zbt; rw [w, Int.zero_mul]; split <;> rfl)
                rw [hz]
                exact (hz 5).symm
            rw [e9, Int.add_assoc]
          · skip
            refine w_iload8 dX0_closeBracket_87 (w_iload5 dX0_closeBracket_89 (wp_iadd dX0_closeBracket_91 (w_aload0 dX0_closeBracket_92 (wp_getr 77 dX0_closeBracket_93 fl_RX0_19 is_7 rfl (wp_alen dX0_closeBracket_96 is_77 (by decide) ?_)))))
            refine wp_icmp_ge 127 dX0_closeBracket_97 rfl ⟨by omega, by omega⟩ ⟨by omega, by omega⟩ (fun c97 => absurd c97 (by omega)) (fun c97 => ?_)
            refine w_aload0 dX0_closeBracket_100 (wp_getr 77 dX0_closeBracket_101 fl_RX0_19 is_7 rfl (w_iload8 dX0_closeBracket_104 (w_iload5 dX0_closeBracket_106 (wp_iadd dX0_closeBracket_108 (wp_dup2 dX0_closeBracket_109 rfl rfl (x_iald (q + e3) dX0_closeBracket_110 is_77 (by omega) (by omega) (w_iload7 dX0_closeBracket_111 (w_aload4 dX0_closeBracket_113 (w_iload8 dX0_closeBracket_115 ?_)))))))))
            refine x_iald q dX0_closeBracket_117 (z_is74 hk3) hvq (by omega) ?_
            have e2 : h3 (74 + k) q = X k q := by rw [hh3, zfl_a (by omega)]; exact eX k hk3 q (by omega)
            rw [e2]
            have hxb := hX k hk3 q (by omega)
            have hmb := z_mb hcb hxb hpl
            refine wp_imul dX0_closeBracket_118 ?_
            have e3' : h3 77 (q + e3) = zsi (fun k => zb2 c X t k (q + e3)) k + zsi (fun e_1 => zb1 c X t k e_1 (q + e3)) e3 + zsi (zbt c X t k e3 (q + e3)) q := by rw [hh3, zfl_i (by omega)]
            rw [e3']
            have w1 := zb3_b (e := q + e3) hc9 hX hpl ht hk
            have w2 := zb2_b (e := q + e3) hc9 hX hpl ht hk3 he3
            have w3 := zb1_b (e := q + e3) hc9 hX hpl ht hk3 he33 hq
            refine wp_iadd dX0_closeBracket_119 (x_iast (q + e3) dX0_closeBracket_120 is_77 (by omega) (by omega) (w_iinc8 dX0_closeBracket_121 rfl (by decide) (wp_goto 74 dX0_closeBracket_124 rfl ?_)))
            refine ih74 _ (by omega) (q + 1) _ _ rfl (by omega) (by omega) (by omega) ?_
            rw [hh3]
            funext b j
            unfold zup zfl
            try dsimp only
            by_cases e : b = 77 ∧ j = q + e3
            · rw [if_pos e, if_pos ⟨e.1, by omega⟩, e.2]
              show _ = zsi (fun k => zb2 c X t k (q + e3)) k + zsi (fun e_1 => zb1 c X t k e_1 (q + e3)) e3 + (zsi (zbt c X t k e3 (q + e3)) q + zbt c X t k e3 (q + e3) q)
              have e8 : zbt c X t k e3 (q + e3) q = c k (3 * t + e3) * X k q := if_pos rfl
              rw [e8, ← Int.add_assoc]
            · rw [if_neg e]
              by_cases e4 : b = 77 ∧ j < 7
              · rw [if_pos e4, if_pos e4]
                show _ = zsi (fun k => zb2 c X t k j) k + zsi (fun e_1 => zb1 c X t k e_1 j) e3 + (zsi (zbt c X t k e3 j) q + zbt c X t k e3 j q)
                have e5 : zbt c X t k e3 j q = 0 := if_neg (by omega)
                rw [e5, Int.add_zero]
              · rw [if_neg e4, if_neg e4]
      refine w_iload5 dX0_closeBracket_35 (wp_iconst dX0_closeBracket_37 ?_)
      refine wp_icmp_ge 133 dX0_closeBracket_38 rfl ⟨by omega, by omega⟩ ⟨by omega, by omega⟩ (fun c38 => ?_) (fun c38 => ?_)
      · skip
        refine w_iinc2 dX0_closeBracket_133 rfl (by decide) (wp_goto 10 dX0_closeBracket_136 rfl ?_)
        refine w_forget3 ?_
        refine w_forget4 ?_
        refine w_forget5 ?_
        refine ih10 _ (by omega) (k + 1) _ _ rfl (by omega) (by omega) ?_
        rw [hh2]
        refine zfl_congr (fun e he => ?_)
        show _ = zsi (fun k => zb2 c X t k e) k + zsi (fun e3 => zb1 c X t k e3 e) 3
        rw [show e3 = 3 by omega]
      · skip
        refine wp_iconst dX0_closeBracket_41 (w_iload1 dX0_closeBracket_42 (wp_imul dX0_closeBracket_43 (w_iload5 dX0_closeBracket_44 (wp_iadd dX0_closeBracket_46 (w_istore6 dX0_closeBracket_47 rfl (by decide) (w_iload6 dX0_closeBracket_49 ?_))))))
        refine wp_if_lt 68 dX0_closeBracket_51 rfl ⟨by omega, by omega⟩ (fun c51 => absurd c51 (by omega)) (fun c51 => ?_)
        refine w_iload6 dX0_closeBracket_54 (w_aload3 dX0_closeBracket_56 (wp_alen dX0_closeBracket_57 (zPo_r zPo_2 hk3) (by decide) ?_))
        refine wp_icmp_ge 68 dX0_closeBracket_58 rfl ⟨by omega, by omega⟩ ⟨by omega, by omega⟩ (fun c58 => absurd c58 (by omega)) (fun c58 => ?_)
        refine w_aload3 dX0_closeBracket_61 (w_iload6 dX0_closeBracket_62 (x_iald (3 * t + e3) dX0_closeBracket_64 (zPo_r zPo_2 hk3) (by omega) (by omega) ?_))
        have e1 : h2 (2 + 2 + k) (3 * t + e3) = c k (3 * t + e3) := by rw [hh2, zfl_a (by omega)]; exact hP.2 k hk3 _ (by omega)
        rw [e1]
        refine wp_goto 69 dX0_closeBracket_65 rfl (w_istore7 dX0_closeBracket_69 rfl (by decide) (wp_iconst dX0_closeBracket_71 (w_istore8 dX0_closeBracket_72 rfl (by decide) ?_)))
        refine L74 _ 0 h2 0 rfl (by omega) (Nat.zero_le _) rfl ?_
        rw [hh2]
        refine zfl_congr (fun e he => ?_)
        show _ = zsi (fun k => zb2 c X t k e) k + zsi (fun e3 => zb1 c X t k e3 e) e3 + 0
        rw [Int.add_zero]
    refine w_iload2 dX0_closeBracket_10 (wp_iconst dX0_closeBracket_11 ?_)
    refine wp_icmp_ge 139 dX0_closeBracket_12 rfl ⟨by omega, by omega⟩ ⟨by omega, by omega⟩ (fun c12 => ?_) (fun c12 => ?_)
    · skip
      refine w_aload0 dX0_closeBracket_139 (wp_getr 77 dX0_closeBracket_140 fl_RX0_19 is_7 rfl (w_aload0 dX0_closeBracket_143 (wp_getr 2 dX0_closeBracket_144 fl_RX0_23 is_7 rfl (wp_geti dX0_closeBracket_147 fl_RX0_77 is_2 ?_))))
      have e0 : h' 2 0 = p := by rw [hh, zfl_a (by omega)]; exact hP.1
      rw [e0]
      have hb9 : ∀ e, e < 7 → zin (h' 77 e) := fun e he => by
        rw [hh, zfl_i he]
        have := zb3_b (e := e) hc9 hX hpl ht hk
        exact ⟨by omega, by omega⟩
      apply s_v2 (M := mX0_closeBracket) dX0_closeBracket_150 lk_RX0_80 mvX3_reduceAll (by decide) meX0_closeBracket (Nat.le_of_ble_eq_true rfl)
      · exact t_X3_reduceAll is_77 (by omega) hb9
      intro h150 hP150
      replace hP150 := hP150.symm
      subst hP150
      refine r_v dX0_closeBracket_153 rfl meX0_closeBracket ?_
      rw [hh, zfl_fl]
      refine zfl_congr (fun e he => ?_)
      rw [zfl_i he, show k = 3 by omega]
      rfl
    · skip
      refine w_aload0 dX0_closeBracket_15 (wp_getr 2 dX0_closeBracket_16 fl_RX0_23 is_7 rfl (w_iload2 dX0_closeBracket_19 ?_))
      apply v_r1 (M := mX0_closeBracket) dX0_closeBracket_20 lk_RX0_69 mvX4_termsOf (by decide) meX0_closeBracket is_2 (Nat.le_of_ble_eq_true rfl)
      · exact t_X4_termsOf zPo_2 (k := k) hvk (by omega)
      intro x20 h20 hP20
      obtain ⟨eh20, ex20⟩ := hP20
      replace eh20 := eh20.symm
      subst eh20
      replace ex20 := ex20.symm
      subst ex20
      refine w_astore3 dX0_closeBracket_23 rfl (by decide) (w_aload0 dX0_closeBracket_24 (wp_getr 73 dX0_closeBracket_25 fl_RX0_16 is_7 rfl (w_iload2 dX0_closeBracket_28 (x_aald k (74 + k) dX0_closeBracket_29 is_73 (Or.inl rfl) hvk (by omega) rfl (w_astore4 dX0_closeBracket_30 rfl (by decide) (wp_iconst dX0_closeBracket_32 (w_istore5 dX0_closeBracket_33 rfl (by decide) ?_)))))))
      refine L35 _ 0 h' 0 rfl (by omega) (Nat.zero_le _) rfl ?_
      rw [hh]
      refine zfl_congr (fun e he => ?_)
      show _ = zsi (fun k => zb2 c X t k e) k + 0
      rw [Int.add_zero]
  refine w_aload0 dX0_closeBracket_0 (wp_getr 77 dX0_closeBracket_1 fl_RX0_19 is_7 rfl (wp_iconst dX0_closeBracket_4 ?_))
  apply s_v2 (M := mX0_closeBracket) dX0_closeBracket_5 lk_RX0_51 mvJ7_fill_53178 (by decide) meX0_closeBracket (Nat.le_of_ble_eq_true rfl)
  · exact t_J7_fill_53178 is_77
  intro h5 hP5
  replace hP5 := hP5.symm
  subst hP5
  refine wp_iconst dX0_closeBracket_8 (w_istore2 dX0_closeBracket_9 rfl (by decide) ?_)
  exact L10 _ 0 _ 0 rfl (Nat.zero_le _) rfl rfl
set_option maxRecDepth 100000 in
set_option maxHeartbeats 4000000 in
theorem t_X0_addBracket {h : zH} {ff ss tt : Int} {f s t : Nat} (hff : ff = f) (hss : ss = s) (htt : tt = t) (hf : f < 9) (hs9 : s < 9) (ht : t < 9) {m n : Nat} (hm : m = 1 ∨ m = 2) (hn : n = 1 ∨ n = 2) (h70 : h 7 0 = m) (h71 : h 7 1 = n) {p : Int} (hp : 0 < p ∧ p ≤ 31) (hp0 : h 2 0 = p) (hb : ∀ q, q < 64 → ∀ e, e < 7 → 0 ≤ h (9 + q) e ∧ h (9 + q) e < p) (hb7 : ∀ e, e < 7 → 0 ≤ h 77 e ∧ h 77 e < p) : CV yX0_addBracket mX0_addBracket [vR 7, vI ff, vI ss, vI tt] h (fun h' => h' = zent h p (zab m n f s t)) := by
  refine inV [some (vR 7), some (vI ff), some (vI ss), some (vI tt), none, none, none, none, none, none] mvX0_addBracket rfl (Nat.le_of_ble_eq_true rfl) rfl ?_
  have L3 : ∀ (zm3 : Nat) (i : Nat) (h' : zH) (vi : Int), f / 3 - i = zm3 → (i ≤ f / 3) → (vi = (i : Int)) → (h' = zent h p (fun q => zsi (zh2 m n f s t q) i)) → WP mX0_addBracket (zMQ mX0_addBracket (zKV (fun h' => h' = zent h p (zab m n f s t)))) 3 [some (vR 7), some (vI ff), some (vI ss), some (vI tt), some (vI vi), none, none, none, none, none] [] zN zGR h' := by
    intro zm3
    induction zm3 using Nat.strongRecOn with | _ zm3 ih3 => ?_
    intro i h' vi hzm3 hi hvi hh
    subst hzm3
    have L14 : ∀ (zm14 : Nat) (k : Nat) (h2 : zH) (vk : Int), s % 3 - k = zm14 → (i < f / 3) → (k ≤ s % 3) → (vk = (k : Int)) → (h2 = zent h p (fun q => zsi (zh2 m n f s t q) i + zsi (zh1 m n f s t q i) k)) → WP mX0_addBracket (zMQ mX0_addBracket (zKV (fun h' => h' = zent h p (zab m n f s t)))) 14 [some (vR 7), some (vI ff), some (vI ss), some (vI tt), some (vI vi), some (vI vk), none, none, none, none] [] zN zGR h2 := by
      intro zm14
      induction zm14 using Nat.strongRecOn with | _ zm14 ih14 => ?_
      intro k h2 vk hzm14 hi3 hk hvk hh2
      subst hzm14
      have k0 : h2 7 0 = m := by rw [hh2, zent_o (by omega)]; exact h70
      have k1 : h2 7 1 = n := by rw [hh2, zent_o (by omega)]; exact h71
      have k2 : h2 2 0 = p := by rw [hh2, zent_o (by omega)]; exact hp0
      refine w_iload5 dX0_addBracket_14 (w_iload2 dX0_addBracket_16 (wp_iconst dX0_addBracket_17 (wp_irem dX0_addBracket_18 (by omega) (by omega) ?_)))
      refine wp_icmp_ge 142 dX0_addBracket_19 rfl ⟨by omega, by omega⟩ ⟨by omega, by omega⟩ (fun c19 => ?_) (fun c19 => ?_)
      · skip
        refine w_iinc4 dX0_addBracket_142 rfl (by decide) (wp_goto 3 dX0_addBracket_145 rfl ?_)
        refine w_forget5 ?_
        refine ih3 _ (by omega) (i + 1) _ _ rfl (by omega) (by omega) ?_
        rw [hh2]
        refine zent_c (fun q hq => ?_)
        show _ = zsi (zh2 m n f s t q) i + zsi (zh1 m n f s t q i) (s % 3)
        rw [show k = s % 3 by omega]
      · skip
        refine w_iload1 dX0_addBracket_22 (wp_iconst dX0_addBracket_23 (wp_idiv dX0_addBracket_24 (by omega) (by omega) (wp_iconst dX0_addBracket_25 (wp_isub dX0_addBracket_26 (w_iload4 dX0_addBracket_27 (wp_isub dX0_addBracket_29 (w_istore6 dX0_addBracket_30 rfl (by decide) (w_iload1 dX0_addBracket_32 (wp_iconst dX0_addBracket_33 ?_)))))))))
        refine wp_irem dX0_addBracket_34 (by omega) (by omega) (w_iload2 dX0_addBracket_35 (wp_iconst dX0_addBracket_36 (wp_irem dX0_addBracket_37 (by omega) (by omega) (wp_iadd dX0_addBracket_38 (wp_iconst dX0_addBracket_39 (wp_isub dX0_addBracket_40 (w_iload5 dX0_addBracket_41 (wp_isub dX0_addBracket_43 (w_istore7 dX0_addBracket_44 rfl (by decide) ?_)))))))))
        refine w_iload4 dX0_addBracket_46 (w_iload2 dX0_addBracket_48 (wp_iconst dX0_addBracket_49 (wp_idiv dX0_addBracket_50 (by omega) (by omega) (wp_iadd dX0_addBracket_51 (w_iload3 dX0_addBracket_52 (wp_iconst dX0_addBracket_53 (wp_idiv dX0_addBracket_54 (by omega) (by omega) (wp_iadd dX0_addBracket_55 (w_istore8 dX0_addBracket_56 rfl (by decide) ?_)))))))))
        refine w_iload5 dX0_addBracket_58 (w_iload3 dX0_addBracket_60 (wp_iconst dX0_addBracket_61 (wp_irem dX0_addBracket_62 (by omega) (by omega) (wp_iadd dX0_addBracket_63 (w_istore9 dX0_addBracket_64 rfl (by decide) (w_iload6 dX0_addBracket_66 (w_aload0 dX0_addBracket_68 (wp_geti dX0_addBracket_69 fl_RX0_41 is_7 ?_))))))))
        rw [k0]
        refine wp_icmp_ge 136 dX0_addBracket_72 rfl ⟨by omega, by omega⟩ ⟨by omega, by omega⟩ (fun c72 => ?_) (fun c72 => ?_)
        · skip
          refine w_iinc5 dX0_addBracket_136 rfl (by decide) (wp_goto 14 dX0_addBracket_139 rfl ?_)
          refine w_forget6 ?_
          refine w_forget7 ?_
          refine w_forget8 ?_
          refine w_forget9 ?_
          first
          | (refine ih14 _ (by omega) (k + 1) h2 _ rfl hi3 (by omega) (by omega) ?_
             rw [hh2]
             refine zent_c (fun q hq => ?_)
             show _ = zsi (zh2 m n f s t q) i + (zsi (zh1 m n f s t q i) k + zh1 m n f s t q i k)
             have e5 : zh1 m n f s t q i k = 0 := if_neg (fun w => by
               have w1 := w.1
               have w2 := w.2.1
               have w3 := w.2.2.1
               have w4 := w.2.2.2.1
               clear w
               omega)
             rw [e5, Int.add_zero])
          | (refine ih14 _ (by omega) (k + 1) _ _ rfl hi3 (by omega) (by omega) ?_
             rw [hh2, zent_up hq64]
             refine zent_c (fun q hq => ?_)
             show _ = zsi (zh2 m n f s t q) i + (zsi (zh1 m n f s t q i) k + zh1 m n f s t q i k)
             rw [Int.add_assoc]
             refine congrArg _ (congrArg _ ?_)
             unfold zh1
             by_cases e : q = 8 * (m * (f % 3 + s % 3 - 1 - k) + (f / 3 - 1 - i)) + (2 * m * (k + t % 3) + (i + s / 3 + t / 3))
             · rw [if_pos e, if_pos ⟨by omega, by omega, by omega, by omega, e⟩]
             · rw [if_neg e, if_neg (fun w => e w.2.2.2.2)])
        · skip
          refine w_iload7 dX0_addBracket_75 (wp_iconst dX0_addBracket_77 (w_aload0 dX0_addBracket_78 (wp_geti dX0_addBracket_79 fl_RX0_45 is_7 ?_)))
          rw [k1]
          refine wp_imul dX0_addBracket_82 ?_
          refine wp_icmp_ge 136 dX0_addBracket_83 rfl ⟨by omega, by omega⟩ ⟨by omega, by omega⟩ (fun c83 => ?_) (fun c83 => ?_)
          · skip
            refine w_iinc5 dX0_addBracket_136 rfl (by decide) (wp_goto 14 dX0_addBracket_139 rfl ?_)
            refine w_forget6 ?_
            refine w_forget7 ?_
            refine w_forget8 ?_
            refine w_forget9 ?_
            first
            | (refine ih14 _ (by omega) (k + 1) h2 _ rfl hi3 (by omega) (by omega) ?_
               rw [hh2]
               refine zent_c (fun q hq => ?_)
               show _ = zsi (zh2 m n f s t q) i + (zsi (zh1 m n f s t q i) k + zh1 m n f s t q i k)
               have e5 : zh1 m n f s t q i k = 0 := if_neg (fun w => by
                 have w1 := w.1
                 have w2 := w.2.1
                 have w3 := w.2.2.1
                 have w4 := w.2.2.2.1
                 clear w
                 omega)
               rw [e5, Int.add_zero])
            | (refine ih14 _ (by omega) (k + 1) _ _ rfl hi3 (by omega) (by omega) ?_
               rw [hh2, zent_up hq64]
               refine zent_c (fun q hq => ?_)
               show _ = zsi (zh2 m n f s t q) i + (zsi (zh1 m n f s t q i) k + zh1 m n f s t q i k)
               rw [Int.add_assoc]
               refine congrArg _ (congrArg _ ?_)
               unfold zh1
               by_cases e : q = 8 * (m * (f % 3 + s % 3 - 1 - k) + (f / 3 - 1 - i)) + (2 * m * (k + t % 3) + (i + s / 3 + t / 3))
               · rw [if_pos e, if_pos ⟨by omega, by omega, by omega, by omega, e⟩]
               · rw [if_neg e, if_neg (fun w => e w.2.2.2.2)])
          · skip
            refine w_iload8 dX0_addBracket_86 (wp_iconst dX0_addBracket_88 (w_aload0 dX0_addBracket_89 (wp_geti dX0_addBracket_90 fl_RX0_41 is_7 ?_)))
            rw [k0]
            refine wp_imul dX0_addBracket_93 ?_
            refine wp_icmp_ge 136 dX0_addBracket_94 rfl ⟨by omega, by omega⟩ ⟨by omega, by omega⟩ (fun c94 => ?_) (fun c94 => ?_)
            · skip
              refine w_iinc5 dX0_addBracket_136 rfl (by decide) (wp_goto 14 dX0_addBracket_139 rfl ?_)
              refine w_forget6 ?_
              refine w_forget7 ?_
              refine w_forget8 ?_
              refine w_forget9 ?_
              first
              | (refine ih14 _ (by omega) (k + 1) h2 _ rfl hi3 (by omega) (by omega) ?_
                 rw [hh2]
                 refine zent_c (fun q hq => ?_)
                 show _ = zsi (zh2 m n f s t q) i + (zsi (zh1 m n f s t q i) k + zh1 m n f s t q i k)
                 have e5 : zh1 m n f s t q i k = 0 := if_neg (fun w => by
                   have w1 := w.1
                   have w2 := w.2.1
                   have w3 := w.2.2.1
                   have w4 := w.2.2.2.1
                   clear w
                   omega)
                 rw [e5, Int.add_zero])
              | (refine ih14 _ (by omega) (k + 1) _ _ rfl hi3 (by omega) (by omega) ?_
                 rw [hh2, zent_up hq64]
                 refine zent_c (fun q hq => ?_)
                 show _ = zsi (zh2 m n f s t q) i + (zsi (zh1 m n f s t q i) k + zh1 m n f s t q i k)
                 rw [Int.add_assoc]
                 refine congrArg _ (congrArg _ ?_)
                 unfold zh1
                 by_cases e : q = 8 * (m * (f % 3 + s % 3 - 1 - k) + (f / 3 - 1 - i)) + (2 * m * (k + t % 3) + (i + s / 3 + t / 3))
                 · rw [if_pos e, if_pos ⟨by omega, by omega, by omega, by omega, e⟩]
                 · rw [if_neg e, if_neg (fun w => e w.2.2.2.2)])
            · skip
              refine w_iload9 dX0_addBracket_97 (w_aload0 dX0_addBracket_99 (wp_geti dX0_addBracket_100 fl_RX0_45 is_7 ?_))
              rw [k1]
              refine wp_icmp_ge 136 dX0_addBracket_103 rfl ⟨by omega, by omega⟩ ⟨by omega, by omega⟩ (fun c103 => ?_) (fun c103 => ?_)
              · skip
                refine w_iinc5 dX0_addBracket_136 rfl (by decide) (wp_goto 14 dX0_addBracket_139 rfl ?_)
                refine w_forget6 ?_
                refine w_forget7 ?_
                refine w_forget8 ?_
                refine w_forget9 ?_
                first
                | (refine ih14 _ (by omega) (k + 1) h2 _ rfl hi3 (by omega) (by omega) ?_
                   rw [hh2]
                   refine zent_c (fun q hq => ?_)
                   show _ = zsi (zh2 m n f s t q) i + (zsi (zh1 m n f s t q i) k + zh1 m n f s t q i k)
                   have e5 : zh1 m n f s t q i k = 0 := if_neg (fun w => by
                     have w1 := w.1
                     have w2 := w.2.1
                     have w3 := w.2.2.1
                     have w4 := w.2.2.2.1
                     clear w
                     omega)
                   rw [e5, Int.add_zero])
                | (refine ih14 _ (by omega) (k + 1) _ _ rfl hi3 (by omega) (by omega) ?_
                   rw [hh2, zent_up hq64]
                   refine zent_c (fun q hq => ?_)
                   show _ = zsi (zh2 m n f s t q) i + (zsi (zh1 m n f s t q i) k + zh1 m n f s t q i k)
                   rw [Int.add_assoc]
                   refine congrArg _ (congrArg _ ?_)
                   unfold zh1
                   by_cases e : q = 8 * (m * (f % 3 + s % 3 - 1 - k) + (f / 3 - 1 - i)) + (2 * m * (k + t % 3) + (i + s / 3 + t / 3))
                   · rw [if_pos e, if_pos ⟨by omega, by omega, by omega, by omega, e⟩]
                   · rw [if_neg e, if_neg (fun w => e w.2.2.2.2)])
              · skip
                refine w_aload0 dX0_addBracket_106 (w_aload0 dX0_addBracket_107 (w_aload0 dX0_addBracket_108 (wp_geti dX0_addBracket_109 fl_RX0_41 is_7 ?_)))
                rw [k0]
                refine w_iload7 dX0_addBracket_112 (wp_imul dX0_addBracket_114 (w_iload6 dX0_addBracket_115 (wp_iadd dX0_addBracket_117 (wp_iconst dX0_addBracket_118 (w_aload0 dX0_addBracket_119 (wp_geti dX0_addBracket_120 fl_RX0_41 is_7 ?_))))))
                rw [k0]
                refine wp_imul dX0_addBracket_123 (w_iload9 dX0_addBracket_124 (wp_imul dX0_addBracket_126 (w_iload8 dX0_addBracket_127 (wp_iadd dX0_addBracket_129 ?_))))
                have hq64 : 8 * (m * (f % 3 + s % 3 - 1 - k) + (f / 3 - 1 - i)) + (2 * m * (k + t % 3) + (i + s / 3 + t / 3)) < 64 :=
                  z_hit64 hm hn (by omega) (by omega) (by omega) (by omega)
                apply v_r2 (M := mX0_addBracket) dX0_addBracket_130 lk_RX0_31 mvX0_at (by decide) meX0_addBracket is_7 (Nat.le_of_ble_eq_true rfl)
                · exact t_X0_at (q := 8 * (m * (f % 3 + s % 3 - 1 - k) + (f / 3 - 1 - i)) + (2 * m * (k + t % 3) + (i + s / 3 + t / 3))) (by rcases hm with e | e <;> rw [e] at * <;> omega) hq64 (by rcases hm with e | e <;> rw [e] at * <;> omega) (by rcases hm with e | e <;> rw [e] at * <;> omega)
                intro x130 h130 hP130
                obtain ⟨eh130, ex130⟩ := hP130
                replace eh130 := eh130.symm
                subst eh130
                replace ex130 := ex130.symm
                subst ex130
                apply v_v1 (M := mX0_addBracket) dX0_addBracket_133 lk_RX0_85 mvX0_addTo (by decide) meX0_addBracket is_7 (Nat.le_of_ble_eq_true rfl)
                · exact t_X0_addTo (z_is9 hq64) (by omega) (by omega) hp k2 (fun e he => by have w := hb7 e he; have w2 := zent_in (h := h) (N := fun q => zsi (zh2 m n f s t q) i + zsi (zh1 m n f s t q i) k) hp.1 hq64 he; rw [hh2, zent_o (b := 77) (by omega)]; exact ⟨w2.1, w2.2, w⟩)
                intro h133 hP133
                replace hP133 := hP133.symm
                subst hP133
                refine w_iinc5 dX0_addBracket_136 rfl (by decide) (wp_goto 14 dX0_addBracket_139 rfl ?_)
                refine w_forget6 ?_
                refine w_forget7 ?_
                refine w_forget8 ?_
                refine w_forget9 ?_
                first
                | (refine ih14 _ (by omega) (k + 1) h2 _ rfl hi3 (by omega) (by omega) ?_
                   rw [hh2]
                   refine zent_c (fun q hq => ?_)
                   show _ = zsi (zh2 m n f s t q) i + (zsi (zh1 m n f s t q i) k + zh1 m n f s t q i k)
                   have e5 : zh1 m n f s t q i k = 0 := if_neg (fun w => by
                     have w1 := w.1
                     have w2 := w.2.1
                     have w3 := w.2.2.1
                     have w4 := w.2.2.2.1
                     clear w
                     omega)
                   rw [e5, Int.add_zero])
                | (refine ih14 _ (by omega) (k + 1) _ _ rfl hi3 (by omega) (by omega) ?_
                   rw [hh2, zent_up hq64]
                   refine zent_c (fun q hq => ?_)
                   show _ = zsi (zh2 m n f s t q) i + (zsi (zh1 m n f s t q i) k + zh1 m n f s t q i k)
                   rw [Int.add_assoc]
                   refine congrArg _ (congrArg _ ?_)
                   unfold zh1
                   by_cases e : q = 8 * (m * (f % 3 + s % 3 - 1 - k) + (f / 3 - 1 - i)) + (2 * m * (k + t % 3) + (i + s / 3 + t / 3))
                   · rw [if_pos e, if_pos ⟨by omega, by omega, by omega, by omega, e⟩]
                   · rw [if_neg e, if_neg (fun w => e w.2.2.2.2)])
    refine w_iload4 dX0_addBracket_3 (w_iload1 dX0_addBracket_5 (wp_iconst dX0_addBracket_6 (wp_idiv dX0_addBracket_7 (by omega) (by omega) ?_)))
    refine wp_icmp_ge 148 dX0_addBracket_8 rfl ⟨by omega, by omega⟩ ⟨by omega, by omega⟩ (fun c8 => ?_) (fun c8 => ?_)
    · skip
      refine r_v dX0_addBracket_148 rfl meX0_addBracket ?_
      rw [hh, show i = f / 3 by omega]
      rfl
    · skip
      refine wp_iconst dX0_addBracket_11 (w_istore5 dX0_addBracket_12 rfl (by decide) ?_)
      refine L14 _ 0 h' 0 rfl (by omega) (Nat.zero_le _) rfl ?_
      rw [hh]
      refine zent_c (fun q hq => ?_)
      show _ = zsi (zh2 m n f s t q) i + 0
      rw [Int.add_zero]
  refine wp_iconst dX0_addBracket_0 (w_istore4 dX0_addBracket_1 rfl (by decide) ?_)
  exact L3 _ 0 h 0 rfl (Nat.zero_le _) rfl (zent_z (fun q _ => rfl) hb).symm
set_option maxRecDepth 100000 in
set_option maxHeartbeats 4000000 in
theorem t_X0_fill {h : zH} {p : Int} {c : Nat → Nat → Int} (hs : zSt p c) (hP : zPol p c 2 h) (h70 : h 7 0 = (zgd c 0 : Int)) (h71 : h 7 1 = (zgd c 1 : Int)) (h72 : h 7 2 = (zsd c : Int)) : CV yX0_fill mX0_fill [vR 7] h (fun h' => zFr zFD h h' ∧ h' 7 3 = 1 ∧ ∀ q, q < 64 → ∀ e, e < 7 → h' (9 + q) e = zEn p c q e) := by
  refine inV [some (vR 7), none, none, none] mvX0_fill rfl (Nat.le_of_ble_eq_true rfl) rfl ?_
  have hp := hs.p
  have hpp : 0 < p := by omega
  have hsl := zsd_le c
  have g0 := zgd_le c 0
  have g1 := zgd_le c 1
  have L34 : ∀ (zm34 : Nat) (i : Nat) (h' : zH) (vi : Int), 9 - i = zm34 → (i ≤ 9) → (vi = (i : Int)) → (zFr zFD h h') → (h' 7 3 = 1) → (∀ q, q < 64 → ∀ e, e < 7 → h' (9 + q) e = zsi (zE3 p c q e) i % p) → (3 ≤ i) → WP mX0_fill (zMQ mX0_fill (zKV (fun h' => zFr zFD h h' ∧ h' 7 3 = 1 ∧ ∀ q, q < 64 → ∀ e, e < 7 → h' (9 + q) e = zEn p c q e))) 34 [some (vR 7), some (vI vi), none, none] [] zN zGR h' := by
    intro zm34
    induction zm34 using Nat.strongRecOn with | _ zm34 ih34 => ?_
    intro i h' vi hzm34 hi hvi hF h73 hE hi3
    subst hzm34
    have k72 : h' 7 2 = (zsd c : Int) := by rw [hF _ _ (by unfold zFD; omega)]; exact h72
    have L49 : ∀ (zm49 : Nat) (j : Nat) (h2 : zH) (vj : Int), 9 - j = zm49 → (i < 9) → (0 < zsd c) → (j ≤ 9) → (vj = (j : Int)) → (zFr zFD h h2) → (h2 7 3 = 1) → (∀ q, q < 64 → ∀ e, e < 7 → h2 (9 + q) e = (zsi (zE3 p c q e) i + zsi (zE2 p c q e i) j) % p) → WP mX0_fill (zMQ mX0_fill (zKV (fun h' => zFr zFD h h' ∧ h' 7 3 = 1 ∧ ∀ q, q < 64 → ∀ e, e < 7 → h' (9 + q) e = zEn p c q e))) 49 [some (vR 7), some (vI vi), some (vI vj), none] [] zN zGR h2 := by
      intro zm49
      induction zm49 using Nat.strongRecOn with | _ zm49 ih49 => ?_
      intro j h2 vj hzm49 hi9 hsd hj hvj hF2 h732 hE2
      subst hzm49
      have hP2 : zPol p c 2 h2 := zPol_eq hP (fun b j hb1 hb2 => hF2 _ _ (by unfold zFD; omega))
      have L72 : ∀ (zm72 : Nat) (k : Nat) (h3 : zH) (vk : Int), 9 - k = zm72 → (j < 9) → (k ≤ 9) → (vk = (k : Int)) → (zFr zFD h h3) → (h3 7 3 = 1) → (∀ q, q < 64 → ∀ e, e < 7 → h3 (9 + q) e = (zsi (zE3 p c q e) i + zsi (zE2 p c q e i) j + zsi (zE1 p c q e i j) k) % p) → (∀ k, k < 3 → ∀ e, e < 5 → h3 (74 + k) e = zcrs p c i j k e) → WP mX0_fill (zMQ mX0_fill (zKV (fun h' => zFr zFD h h' ∧ h' 7 3 = 1 ∧ ∀ q, q < 64 → ∀ e, e < 7 → h' (9 + q) e = zEn p c q e))) 72 [some (vR 7), some (vI vi), some (vI vj), some (vI vk)] [] zN zGR h3 := by
        intro zm72
        induction zm72 using Nat.strongRecOn with | _ zm72 ih72 => ?_
        intro k h3 vk hzm72 hj9 hk hvk hF3 h733 hE3 hX3
        subst hzm72
        have hP3 : zPol p c 2 h3 := zPol_eq hP (fun b j hb1 hb2 => hF3 _ _ (by unfold zFD; omega))
        have hmn : (zgd c 0 = 1 ∨ zgd c 0 = 2) ∧ (zgd c 1 = 1 ∨ zgd c 1 = 2) := by
          unfold zsd at hsd
          split at hsd <;> omega
        refine w_iload3 dX0_fill_72 (wp_bipush dX0_fill_73 (by decide) ?_)
        refine wp_icmp_ge 96 dX0_fill_75 rfl ⟨by omega, by omega⟩ ⟨by omega, by omega⟩ (fun c75 => ?_) (fun c75 => ?_)
        · skip
          refine w_iinc2 dX0_fill_96 rfl (by decide) (wp_goto 49 dX0_fill_99 rfl ?_)
          refine w_forget3 ?_
          refine ih49 _ (by omega) (j + 1) _ _ rfl hi9 hsd (by omega) (by omega) hF3 h733 (fun q hq e he => ?_)
          rw [hE3 q hq e he, show k = 9 by omega, Int.add_assoc]
          rfl
        · skip
          refine w_aload0 dX0_fill_78 (w_iload3 dX0_fill_79 ?_)
          apply v_v1 (M := mX0_fill) dX0_fill_80 lk_RX0_61 mvX0_closeBracket (by decide) meX0_fill is_7 (Nat.le_of_ble_eq_true rfl)
          · exact t_X0_closeBracket (t := k) (X := zcrs p c i j) hvk (by omega) hs hP3 (fun k hk q hq => zcrs_in hpp) hX3
          intro h80 hP80
          replace hP80 := hP80.symm
          subst hP80
          refine w_aload0 dX0_fill_83 (w_iload1 dX0_fill_84 (w_iload2 dX0_fill_85 (w_iload3 dX0_fill_86 ?_)))
          apply v_v3 (M := mX0_fill) dX0_fill_87 lk_RX0_65 mvX0_addBracket (by decide) meX0_fill is_7 (Nat.le_of_ble_eq_true rfl)
          · exact t_X0_addBracket (f := i) (s := j) (t := k) (by omega) (by omega) hvk (by omega) (by omega) (by omega) hmn.1 hmn.2 (by rw [zfl_o (by omega), hF3 _ _ (by unfold zFD; omega)]; exact h70) (by rw [zfl_o (by omega), hF3 _ _ (by unfold zFD; omega)]; exact h71) ⟨hpp, hp.2⟩ (by rw [zfl_o (by omega)]; exact hP3.1) (fun q hq e he => by rw [zfl_o (by omega), hE3 q hq e he]; exact z_mod hpp _) (fun e he => by rw [zfl_i he]; exact z_mod hpp _)
          intro h87 hP87
          replace hP87 := hP87.symm
          subst hP87
          refine w_iinc3 dX0_fill_90 rfl (by decide) (wp_goto 72 dX0_fill_93 rfl ?_)
          refine ih72 _ (by omega) (k + 1) _ _ rfl hj9 (by omega) (by omega) ?_ ?_ (fun q hq e he => ?_) (fun q hq e he => ?_)
          · intro a b n
            unfold zFD at n
            rw [zent_o (by omega), zfl_o (by omega)]
            exact hF3 a b (by unfold zFD; exact n)
          · rw [zent_o (by omega), zfl_o (by omega)]
            exact h733
          · rw [zent_i hq he, zfl_o (by omega), zfl_i he, hE3 q hq e he, Int.emod_add_emod]
            show _ = (_ + _ + (zsi (zE1 p c q e i j) k + zE1 p c q e i j k)) % p
            rw [← Int.add_assoc]
            rfl
          · rw [zent_o (by omega), zfl_o (by omega)]
            exact hX3 q hq e he
      refine w_iload2 dX0_fill_49 (wp_bipush dX0_fill_50 (by decide) ?_)
      refine wp_icmp_ge 102 dX0_fill_52 rfl ⟨by omega, by omega⟩ ⟨by omega, by omega⟩ (fun c52 => ?_) (fun c52 => ?_)
      · skip
        refine w_iinc1 dX0_fill_102 rfl (by decide) (wp_goto 34 dX0_fill_105 rfl ?_)
        refine w_forget2 ?_
        refine ih34 _ (by omega) (i + 1) _ _ rfl (by omega) (by omega) hF2 h732 (fun q hq e he => ?_) (by omega)
        rw [hE2 q hq e he, show j = 9 by omega]
        rfl
      · skip
        refine w_iload2 dX0_fill_55 (wp_iconst dX0_fill_56 (wp_irem dX0_fill_57 (by omega) (by omega) ?_))
        refine wp_if_le 96 dX0_fill_58 rfl ⟨by omega, by omega⟩ (fun c58 => ?_) (fun c58 => ?_)
        · skip
          refine w_iinc2 dX0_fill_96 rfl (by decide) (wp_goto 49 dX0_fill_99 rfl ?_)
          first
          | (refine ih49 _ (by omega) (j + 1) h2 _ rfl hi9 hsd (by omega) (by omega) hF2 h732 (fun q hq e he => ?_)
             rw [hE2 q hq e he]
             show _ = (_ + (zsi (zE2 p c q e i) j + zE2 p c q e i j)) % p
             have e5 : zE2 p c q e i j = 0 := zE2_z (fun t _ => by unfold zE1; rw [zab_z1 (by omega), Int.zero_mul])
             rw [e5, Int.add_zero])
          | (refine ih49 _ (by omega) (j + 1) h64 _ rfl hi9 hsd (by omega) (by omega) hF64 h7364 (fun q hq e he => ?_)
             rw [hE64 q hq e he]
             show _ = (_ + (zsi (zE2 p c q e i) j + zE2 p c q e i j)) % p
             have e5 : zE2 p c q e i j = 0 := zE2_z (fun t _ => by unfold zE1; rw [zbr_z (hZ64 (by omega)), Int.mul_zero])
             rw [e5, Int.add_zero])
        · skip
          refine w_aload0 dX0_fill_61 (w_iload1 dX0_fill_62 (w_iload2 dX0_fill_63 ?_))
          apply v_i2 (M := mX0_fill) dX0_fill_64 lk_RX0_57 mvX0_multiplyAcross (by decide) meX0_fill is_7 (Nat.le_of_ble_eq_true rfl)
          · exact t_X0_multiplyAcross (f := i) (s := j) (by omega) (by omega) (by omega) (by omega) hs hP2
          intro x64 h64 hP64
          obtain ⟨f64, hX64, hb64, hZ64⟩ := hP64
          have hF64 : zFr zFD h h64 := fun a b n => by
            unfold zFD at n
            rw [f64 _ _ (by omega)]
            exact hF2 a b (by unfold zFD; exact n)
          have h7364 : h64 7 3 = 1 := by rw [f64 _ _ (by omega)]; exact h732
          have hE64 : ∀ q, q < 64 → ∀ e, e < 7 → h64 (9 + q) e = (zsi (zE3 p c q e) i + zsi (zE2 p c q e i) j) % p := fun q hq e he => by rw [f64 _ _ (by omega)]; exact hE2 q hq e he
          refine wp_if_eq 96 dX0_fill_67 rfl ⟨by omega, by omega⟩ (fun c67 => ?_) (fun c67 => ?_)
          · skip
            refine w_iinc2 dX0_fill_96 rfl (by decide) (wp_goto 49 dX0_fill_99 rfl ?_)
            first
            | (refine ih49 _ (by omega) (j + 1) h2 _ rfl hi9 hsd (by omega) (by omega) hF2 h732 (fun q hq e he => ?_)
               rw [hE2 q hq e he]
               show _ = (_ + (zsi (zE2 p c q e i) j + zE2 p c q e i j)) % p
               have e5 : zE2 p c q e i j = 0 := zE2_z (fun t _ => by unfold zE1; rw [zab_z1 (by omega), Int.zero_mul])
               rw [e5, Int.add_zero])
            | (refine ih49 _ (by omega) (j + 1) h64 _ rfl hi9 hsd (by omega) (by omega) hF64 h7364 (fun q hq e he => ?_)
               rw [hE64 q hq e he]
               show _ = (_ + (zsi (zE2 p c q e i) j + zE2 p c q e i j)) % p
               have e5 : zE2 p c q e i j = 0 := zE2_z (fun t _ => by unfold zE1; rw [zbr_z (hZ64 (by omega)), Int.mul_zero])
               rw [e5, Int.add_zero])
          · skip
            refine wp_iconst dX0_fill_70 (w_istore3 dX0_fill_71 rfl (by decide) ?_)
            refine L72 _ 0 h64 0 rfl (by omega) (Nat.zero_le _) rfl hF64 h7364 (fun q hq e he => ?_) hX64
            rw [hE64 q hq e he]
            show _ = (_ + 0) % p
            rw [Int.add_zero]
    refine w_aload0 dX0_fill_34 (wp_geti dX0_fill_35 fl_RX0_48 is_7 ?_)
    rw [k72]
    refine wp_if_le 108 dX0_fill_38 rfl ⟨by omega, by omega⟩ (fun c38 => ?_) (fun c38 => ?_)
    · skip
      refine r_v dX0_fill_108 rfl meX0_fill ?_
      refine ⟨hF, h73, fun q hq e he => ?_⟩
      rw [hE q hq e he]
      unfold zEn
      by_cases w : i = 9
      · rw [w]
      · have hz : ∀ n, zsi (zE3 p c q e) n = 0 := fun n => zsi_z n (fun f _ => zE3_z (fun s t => zab_zm (by
          have w2 : zsd c = 0 := by omega
          unfold zsd at w2
          split at w2
          · next w3 =>
            exfalso
            rcases (show zgd c 0 = 1 ∨ zgd c 0 = 2 by omega) with w4 | w4 <;> rw [w4] at w2 <;> omega
          · omega)))
        rw [hz, hz]
    · skip
      refine w_iload1 dX0_fill_41 (wp_bipush dX0_fill_42 (by decide) ?_)
      refine wp_icmp_ge 108 dX0_fill_44 rfl ⟨by omega, by omega⟩ ⟨by omega, by omega⟩ (fun c44 => ?_) (fun c44 => ?_)
      · skip
        refine r_v dX0_fill_108 rfl meX0_fill ?_
        refine ⟨hF, h73, fun q hq e he => ?_⟩
        rw [hE q hq e he]
        unfold zEn
        by_cases w : i = 9
        · rw [w]
        · have hz : ∀ n, zsi (zE3 p c q e) n = 0 := fun n => zsi_z n (fun f _ => zE3_z (fun s t => zab_zm (by
            have w2 : zsd c = 0 := by omega
            unfold zsd at w2
            split at w2
            · next w3 =>
              exfalso
              rcases (show zgd c 0 = 1 ∨ zgd c 0 = 2 by omega) with w4 | w4 <;> rw [w4] at w2 <;> omega
            · omega)))
          rw [hz, hz]
      · skip
        refine wp_iconst dX0_fill_47 (w_istore2 dX0_fill_48 rfl (by decide) ?_)
        refine L49 _ 0 h' 0 rfl (by omega) (by omega) (Nat.zero_le _) rfl hF h73 (fun q hq e he => ?_)
        rw [hE q hq e he]
        show _ = (_ + 0) % p
        rw [Int.add_zero]
  have L7 : ∀ (zm7 : Nat) (i : Nat) (h' : zH) (vi : Int), 64 - i = zm7 → (i ≤ 64) → (vi = (i : Int)) → (h' = fun b j => if (9 ≤ b ∧ b < 9 + i) ∧ j < 7 then 0 else zup h 7 3 1 b j) → WP mX0_fill (zMQ mX0_fill (zKV (fun h' => zFr zFD h h' ∧ h' 7 3 = 1 ∧ ∀ q, q < 64 → ∀ e, e < 7 → h' (9 + q) e = zEn p c q e))) 7 [some (vR 7), some (vI vi), none, none] [] zN zGR h' := by
    intro zm7
    induction zm7 using Nat.strongRecOn with | _ zm7 ih7 => ?_
    intro i h' vi hzm7 hi hvi hh
    subst hzm7
    refine w_iload1 dX0_fill_7 (w_aload0 dX0_fill_8 (wp_getr 8 dX0_fill_9 fl_RX0_11 is_7 rfl (wp_alen dX0_fill_12 is_8 (by decide) ?_)))
    refine wp_icmp_ge 32 dX0_fill_13 rfl ⟨by omega, by omega⟩ ⟨by omega, by omega⟩ (fun c13 => ?_) (fun c13 => ?_)
    · skip
      refine wp_iconst dX0_fill_32 (w_istore1 dX0_fill_33 rfl (by decide) ?_)
      refine L34 _ 3 h' 3 rfl (by omega) rfl ?_ ?_ ?_ (by omega)
      · intro a j n
        unfold zFD at n
        rw [hh]
        dsimp only
        rw [if_neg (by omega), zup_o (by omega)]
      · rw [hh]
        dsimp only
        rw [if_neg (by omega), zup_s]
      · intro q hq e he
        rw [zsi_z 3 (fun f hf => zE3_z (fun s t => zab_z0 hf)), Int.zero_emod, hh]
        dsimp only
        rw [if_pos (by omega)]
    · skip
      refine w_aload0 dX0_fill_16 (wp_getr 8 dX0_fill_17 fl_RX0_11 is_7 rfl (w_iload1 dX0_fill_20 (x_aald i (9 + i) dX0_fill_21 is_8 (Or.inl rfl) hvi (by omega) rfl (wp_iconst dX0_fill_22 ?_))))
      apply s_v2 (M := mX0_fill) dX0_fill_23 lk_RX0_51 mvJ7_fill_53178 (by decide) meX0_fill (Nat.le_of_ble_eq_true rfl)
      · exact t_J7_fill_53178 (z_is9 (by omega))
      intro h23 hP23
      replace hP23 := hP23.symm
      subst hP23
      refine w_iinc1 dX0_fill_26 rfl (by decide) (wp_goto 7 dX0_fill_29 rfl ?_)
      refine ih7 _ (by omega) (i + 1) _ _ rfl (by omega) (by omega) ?_
      rw [hh]
      funext b j
      unfold zfl
      try dsimp only
      by_cases e : b = 9 + i ∧ j < 7
      · rw [if_pos e, if_pos (by omega)]
      · rw [if_neg e]
        by_cases e2 : (9 ≤ b ∧ b < 9 + i) ∧ j < 7
        · rw [if_pos e2, if_pos (by omega)]
        · rw [if_neg e2, if_neg (by omega)]
  refine w_aload0 dX0_fill_0 (wp_iconst dX0_fill_1 (wp_putz dX0_fill_2 fl_RX0_27 is_7 rfl (by first | exact Or.inl rfl | exact Or.inr rfl) (wp_iconst dX0_fill_5 (w_istore1 dX0_fill_6 rfl (by decide) ?_))))
  exact L7 _ 0 _ 0 rfl (Nat.zero_le _) rfl (by funext b j; rw [if_neg (by omega)])
set_option maxRecDepth 100000 in
set_option maxHeartbeats 4000000 in
theorem t_X0_writeRow {h : zH} {rr t : Int} {row : Nat} (hrr : rr = row) (hr8 : row < 8) {p : Int} (ht : 0 ≤ t ∧ t < p) (hp : 0 < p ∧ p ≤ 31) (hp0 : h 2 0 = p) {sd : Nat} (h72 : h 7 2 = sd) (hsd : sd ≤ 8) {E : Nat → Nat → Int} (hE : ∀ q, q < 64 → ∀ e, e < 7 → h (9 + q) e = E q e ∧ 0 ≤ E q e ∧ E q e < p) : CV yX0_writeRow mX0_writeRow [vR 7, vI rr, vI t, vR 80] h (fun h' => h' = zfl h 80 16 (fun j => if j = 8 + row then 1 else if j < sd then zhor t p 7 (E (8 * row + j)) else 0)) := by
  refine inV [some (vR 7), some (vI rr), some (vI t), some (vR 80), none] mvX0_writeRow rfl (Nat.le_of_ble_eq_true rfl) rfl ?_
  have L8 : ∀ (zm8 : Nat) (i : Nat) (h' : zH) (vi : Int), sd - i = zm8 → (i ≤ sd) → (vi = (i : Int)) → (h' = zfl h 80 16 (fun j => if j < i then zhor t p 7 (E (8 * row + j)) else 0)) → WP mX0_writeRow (zMQ mX0_writeRow (zKV (fun h' => h' = zfl h 80 16 (fun j => if j = 8 + row then 1 else if j < sd then zhor t p 7 (E (8 * row + j)) else 0)))) 8 [some (vR 7), some (vI rr), some (vI t), some (vR 80), some (vI vi)] [] zN zGR h' := by
    intro zm8
    induction zm8 using Nat.strongRecOn with | _ zm8 ih8 => ?_
    intro i h' vi hzm8 hi hvi hh
    subst hzm8
    have k72 : h' 7 2 = sd := by rw [hh, zfl_o (by omega)]; exact h72
    have kp : h' 2 0 = p := by rw [hh, zfl_o (by omega)]; exact hp0
    have kE : ∀ q, q < 64 → ∀ e, e < 7 → h' (9 + q) e = E q e := fun q hq e he => by rw [hh, zfl_o (by omega)]; exact (hE q hq e he).1
    refine w_iload4 dX0_writeRow_8 (w_aload0 dX0_writeRow_10 (wp_geti dX0_writeRow_11 fl_RX0_48 is_7 ?_))
    rw [k72]
    refine wp_icmp_ge 52 dX0_writeRow_14 rfl ⟨by omega, by omega⟩ ⟨by omega, by omega⟩ (fun c14 => ?_) (fun c14 => ?_)
    · skip
      refine wp_bipush dX0_writeRow_52 (by decide) (w_iload1 dX0_writeRow_54 (wp_iadd dX0_writeRow_55 (w_istore4 dX0_writeRow_56 rfl (by decide) (w_iload4 dX0_writeRow_58 ?_))))
      refine wp_if_lt 75 dX0_writeRow_60 rfl ⟨by omega, by omega⟩ (fun c60 => absurd c60 (by omega)) (fun c60 => ?_)
      refine w_iload4 dX0_writeRow_63 (w_aload3 dX0_writeRow_65 (wp_alen dX0_writeRow_66 is_80 (by decide) ?_))
      refine wp_icmp_ge 75 dX0_writeRow_67 rfl ⟨by omega, by omega⟩ ⟨by omega, by omega⟩ (fun c67 => absurd c67 (by omega)) (fun c67 => ?_)
      refine w_aload3 dX0_writeRow_70 (w_iload4 dX0_writeRow_71 (wp_iconst dX0_writeRow_73 (x_iast (8 + row) dX0_writeRow_74 is_80 (by omega) (by omega) ?_)))
      refine r_v dX0_writeRow_75 rfl meX0_writeRow ?_
      rw [hh, show i = sd by omega]
      funext b j
      unfold zup zfl
      try dsimp only
      by_cases e : b = 80 ∧ j = 8 + row
      · rw [if_pos e, if_pos ⟨e.1, by omega⟩, if_pos e.2]
      · rw [if_neg e]
        by_cases e2 : b = 80 ∧ j < 16
        · have e5 : ¬ j = 8 + row := by omega
          rw [if_pos e2, if_pos e2, if_neg e5]
        · rw [if_neg e2, if_neg e2]
    · skip
      refine w_iload4 dX0_writeRow_17 (w_aload3 dX0_writeRow_19 (wp_alen dX0_writeRow_20 is_80 (by decide) ?_))
      refine wp_icmp_ge 52 dX0_writeRow_21 rfl ⟨by omega, by omega⟩ ⟨by omega, by omega⟩ (fun c21 => absurd c21 (by omega)) (fun c21 => ?_)
      refine w_aload3 dX0_writeRow_24 (w_iload4 dX0_writeRow_25 (w_aload0 dX0_writeRow_27 (w_iload1 dX0_writeRow_28 (w_iload4 dX0_writeRow_29 ?_))))
      apply v_r2 (M := mX0_writeRow) dX0_writeRow_31 lk_RX0_31 mvX0_at (by decide) meX0_writeRow is_7 (Nat.le_of_ble_eq_true rfl)
      · exact t_X0_at (q := 8 * row + i) (by omega) (by omega) (by omega) (by omega)
      intro x31 h31 hP31
      obtain ⟨eh31, ex31⟩ := hP31
      replace eh31 := eh31.symm
      subst eh31
      replace ex31 := ex31.symm
      subst ex31
      refine w_iload2 dX0_writeRow_34 (w_aload0 dX0_writeRow_35 (wp_getr 2 dX0_writeRow_36 fl_RX0_23 is_7 rfl (wp_geti dX0_writeRow_39 fl_RX0_77 is_2 ?_)))
      rw [kp]
      apply s_i3 (M := mX0_writeRow) dX0_writeRow_42 lk_RX0_93 mvX3_horner (by decide) meX0_writeRow (Nat.le_of_ble_eq_true rfl)
      · exact t_X3_horner (z_is9 (by omega)) ht hp (fun j hj => by rw [kE _ (by omega) j hj]; exact (hE _ (by omega) j hj).2)
      intro x42 h42 hP42
      obtain ⟨eh42, ex42⟩ := hP42
      replace eh42 := eh42.symm
      subst eh42
      replace ex42 := ex42.symm
      subst ex42
      refine x_iast i dX0_writeRow_45 is_80 hvi (by omega) (w_iinc4 dX0_writeRow_46 rfl (by decide) (wp_goto 8 dX0_writeRow_49 rfl ?_))
      refine ih8 _ (by omega) (i + 1) _ _ rfl (by omega) (by omega) ?_
      rw [zhor_congr 7 _ (E (8 * row + i)) (fun e he => kE _ (by omega) e he), hh]
      funext b j
      unfold zup zfl
      try dsimp only
      by_cases e : b = 80 ∧ j = i
      · rw [if_pos e, if_pos ⟨e.1, by omega⟩, if_pos (by omega), e.2]
      · rw [if_neg e]
        by_cases e2 : b = 80 ∧ j < 16
        · rw [if_pos e2, if_pos e2]
          by_cases e3 : j < i
          · rw [if_pos e3, if_pos (by omega)]
          · rw [if_neg e3, if_neg (by omega)]
        · rw [if_neg e2, if_neg e2]
  refine w_aload3 dX0_writeRow_0 (wp_iconst dX0_writeRow_1 ?_)
  apply s_v2 (M := mX0_writeRow) dX0_writeRow_2 lk_RX0_51 mvJ7_fill_53178 (by decide) meX0_writeRow (Nat.le_of_ble_eq_true rfl)
  · exact t_J7_fill_53178 is_80
  intro h2 hP2
  replace hP2 := hP2.symm
  subst hP2
  refine wp_iconst dX0_writeRow_5 (w_istore4 dX0_writeRow_6 rfl (by decide) ?_)
  exact L8 _ 0 _ 0 rfl (Nat.zero_le _) rfl rfl
set_option maxRecDepth 100000 in
set_option maxHeartbeats 4000000 in
theorem t_X0_writeColumn {h : zH} {rr t : Int} {col : Nat} (hrr : rr = col) (hr8 : col < 8) {p : Int} (ht : 0 ≤ t ∧ t < p) (hp : 0 < p ∧ p ≤ 31) (hp0 : h 2 0 = p) {sd : Nat} (h72 : h 7 2 = sd) (hsd : sd ≤ 8) {E : Nat → Nat → Int} (hE : ∀ q, q < 64 → ∀ e, e < 7 → h (9 + q) e = E q e ∧ 0 ≤ E q e ∧ E q e < p) : CV yX0_writeColumn mX0_writeColumn [vR 7, vI rr, vI t, vR 80] h (fun h' => h' = zfl h 80 16 (fun j => if j < sd then zhor t p 7 (E (8 * j + col)) else 0)) := by
  refine inV [some (vR 7), some (vI rr), some (vI t), some (vR 80), none] mvX0_writeColumn rfl (Nat.le_of_ble_eq_true rfl) rfl ?_
  have L8 : ∀ (zm8 : Nat) (i : Nat) (h' : zH) (vi : Int), sd - i = zm8 → (i ≤ sd) → (vi = (i : Int)) → (h' = zfl h 80 16 (fun j => if j < i then zhor t p 7 (E (8 * j + col)) else 0)) → WP mX0_writeColumn (zMQ mX0_writeColumn (zKV (fun h' => h' = zfl h 80 16 (fun j => if j < sd then zhor t p 7 (E (8 * j + col)) else 0)))) 8 [some (vR 7), some (vI rr), some (vI t), some (vR 80), some (vI vi)] [] zN zGR h' := by
    intro zm8
    induction zm8 using Nat.strongRecOn with | _ zm8 ih8 => ?_
    intro i h' vi hzm8 hi hvi hh
    subst hzm8
    have k72 : h' 7 2 = sd := by rw [hh, zfl_o (by omega)]; exact h72
    have kp : h' 2 0 = p := by rw [hh, zfl_o (by omega)]; exact hp0
    have kE : ∀ q, q < 64 → ∀ e, e < 7 → h' (9 + q) e = E q e := fun q hq e he => by rw [hh, zfl_o (by omega)]; exact (hE q hq e he).1
    refine w_iload4 dX0_writeColumn_8 (w_aload0 dX0_writeColumn_10 (wp_geti dX0_writeColumn_11 fl_RX0_48 is_7 ?_))
    rw [k72]
    refine wp_icmp_ge 52 dX0_writeColumn_14 rfl ⟨by omega, by omega⟩ ⟨by omega, by omega⟩ (fun c14 => ?_) (fun c14 => ?_)
    · skip
      refine r_v dX0_writeColumn_52 rfl meX0_writeColumn ?_
      rw [hh, show i = sd by omega]
    · skip
      refine w_iload4 dX0_writeColumn_17 (w_aload3 dX0_writeColumn_19 (wp_alen dX0_writeColumn_20 is_80 (by decide) ?_))
      refine wp_icmp_ge 52 dX0_writeColumn_21 rfl ⟨by omega, by omega⟩ ⟨by omega, by omega⟩ (fun c21 => absurd c21 (by omega)) (fun c21 => ?_)
      refine w_aload3 dX0_writeColumn_24 (w_iload4 dX0_writeColumn_25 (w_aload0 dX0_writeColumn_27 (w_iload4 dX0_writeColumn_28 (w_iload1 dX0_writeColumn_30 ?_))))
      apply v_r2 (M := mX0_writeColumn) dX0_writeColumn_31 lk_RX0_31 mvX0_at (by decide) meX0_writeColumn is_7 (Nat.le_of_ble_eq_true rfl)
      · exact t_X0_at (q := 8 * i + col) (by omega) (by omega) (by omega) (by omega)
      intro x31 h31 hP31
      obtain ⟨eh31, ex31⟩ := hP31
      replace eh31 := eh31.symm
      subst eh31
      replace ex31 := ex31.symm
      subst ex31
      refine w_iload2 dX0_writeColumn_34 (w_aload0 dX0_writeColumn_35 (wp_getr 2 dX0_writeColumn_36 fl_RX0_23 is_7 rfl (wp_geti dX0_writeColumn_39 fl_RX0_77 is_2 ?_)))
      rw [kp]
      apply s_i3 (M := mX0_writeColumn) dX0_writeColumn_42 lk_RX0_93 mvX3_horner (by decide) meX0_writeColumn (Nat.le_of_ble_eq_true rfl)
      · exact t_X3_horner (z_is9 (by omega)) ht hp (fun j hj => by rw [kE _ (by omega) j hj]; exact (hE _ (by omega) j hj).2)
      intro x42 h42 hP42
      obtain ⟨eh42, ex42⟩ := hP42
      replace eh42 := eh42.symm
      subst eh42
      replace ex42 := ex42.symm
      subst ex42
      refine x_iast i dX0_writeColumn_45 is_80 hvi (by omega) (w_iinc4 dX0_writeColumn_46 rfl (by decide) (wp_goto 8 dX0_writeColumn_49 rfl ?_))
      refine ih8 _ (by omega) (i + 1) _ _ rfl (by omega) (by omega) ?_
      rw [zhor_congr 7 _ (E (8 * i + col)) (fun e he => kE _ (by omega) e he), hh]
      funext b j
      unfold zup zfl
      try dsimp only
      by_cases e : b = 80 ∧ j = i
      · rw [if_pos e, if_pos ⟨e.1, by omega⟩, if_pos (by omega), e.2]
      · rw [if_neg e]
        by_cases e2 : b = 80 ∧ j < 16
        · rw [if_pos e2, if_pos e2]
          by_cases e3 : j < i
          · rw [if_pos e3, if_pos (by omega)]
          · rw [if_neg e3, if_neg (by omega)]
        · rw [if_neg e2, if_neg e2]
  refine w_aload3 dX0_writeColumn_0 (wp_iconst dX0_writeColumn_1 ?_)
  apply s_v2 (M := mX0_writeColumn) dX0_writeColumn_2 lk_RX0_51 mvJ7_fill_53178 (by decide) meX0_writeColumn (Nat.le_of_ble_eq_true rfl)
  · exact t_J7_fill_53178 is_80
  intro h2 hP2
  replace hP2 := hP2.symm
  subst hP2
  refine wp_iconst dX0_writeColumn_5 (w_istore4 dX0_writeColumn_6 rfl (by decide) ?_)
  exact L8 _ 0 _ 0 rfl (Nat.zero_le _) rfl rfl
