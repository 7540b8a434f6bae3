
/-- the members of a set in their order -/
noncomputable def zms (P : Nat → Prop) : Nat → Nat → Nat
  | 0 => fun _ => 0
  | n + 1 => @ite _ (P n) (Classical.propDecidable _) (zupN (zms P n) (zct P n) n) (zms P n)
theorem zms_y {P : Nat → Prop} {n : Nat} (h : P n) : zms P (n + 1) = zupN (zms P n) (zct P n) n := if_pos h
theorem zms_n {P : Nat → Prop} {n : Nat} (h : ¬ P n) : zms P (n + 1) = zms P n := if_neg h
theorem zms_lt {P : Nat → Prop} : ∀ n k, k < zct P n → zms P n k < n ∧ P (zms P n k) := by
  intro n
  induction n with
  | zero => intro k h; exact absurd h (Nat.not_lt_zero k)
  | succ n ih =>
    intro k h
    by_cases e : P n
    · rw [zct_y e] at h
      rw [zms_y e]
      unfold zupN
      split
      · exact ⟨Nat.lt_succ_self n, e⟩
      · have := ih k (by omega)
        exact ⟨by omega, this.2⟩
    · rw [zct_n e] at h
      rw [zms_n e]
      have := ih k h
      exact ⟨by omega, this.2⟩
theorem ztop_lt {f : Nat → Int} : ∀ n, 0 < n → ztop f n < n := by
  intro n
  induction n with
  | zero => intro h; exact absurd h (Nat.lt_irrefl 0)
  | succ n ih =>
    intro _
    show (if n = 0 then 0 else if f n = 0 then ztop f n else n) < n + 1
    split
    · omega
    · split
      · have := ih (by omega); omega
      · omega
def zbc (m : Nat) : Nat → Nat
  | 0 => 0
  | n + 1 => zbc m n + m / 2 ^ n % 2
theorem zct_bc (m : Nat) : ∀ n, zct (fun i => m / 2 ^ i % 2 = 1) n = zbc m n := by
  intro n
  induction n with
  | zero => rfl
  | succ n ih =>
    show _ = zbc m n + m / 2 ^ n % 2
    by_cases e : m / 2 ^ n % 2 = 1
    · rw [zct_y (P := fun i => m / 2 ^ i % 2 = 1) e, ih, e]
    · rw [zct_n (P := fun i => m / 2 ^ i % 2 = 1) e, ih]
      have : m / 2 ^ n % 2 = 0 := by omega
      omega
/-- how many members a set of columns has -/
def zb8 (m : Nat) : Nat := zbc m 8
theorem zb8_31 : ∀ s, s < 256 → zbc s 31 = zb8 s := by decide +kernel
theorem zpc_b8 {s : Nat} (h : s < 256) : zpc s = zb8 s := by
  unfold zpc
  rw [zct_bc, zb8_31 s h]
theorem z_is189 {s : Nat} (h : s < 256) : zIs zN (189 + s) (10, 6 * zb8 s + 1) := by
  have q : ∀ s, s < 256 → zSH (189 + s) = (10, 6 * zb8 s + 1) ∧ 0 < 189 + s ∧ 189 + s ≤ zN := by decide +kernel
  exact q s h
theorem zb8_le : ∀ s, s < 256 → zb8 s ≤ 8 := by decide +kernel
theorem zb8_x : ∀ s, s < 256 → ∀ c, c < 8 → s / 2 ^ c % 2 = 1 → s ^^^ 2 ^ c < s ∧ zb8 (s ^^^ 2 ^ c) + 1 = zb8 s ∧ s / 2 ^ (c + 1) < 128 := by decide +kernel
theorem zb8_pos : ∀ s, s < 256 → s ≠ 0 → 0 < zb8 s := by decide +kernel
theorem z_a255 {s : Nat} (h : s < 256) : ((((s : Nat) : Int).toNat &&& (255 : Int).toNat : Nat) : Int) = (s : Int) := by
  have q : ∀ s, s < 256 → s &&& 255 = s := by decide +kernel
  rw [Int.toNat_natCast]
  exact congrArg (fun (x : Nat) => (x : Int)) (q s h)
theorem z_x255 {s i : Nat} (h : s < 256) (hi : i < 8) : ((((((s : Nat) : Int).toNat ^^^ ((1 : Int) * 2 ^ ((i : Nat) : Int).toNat).toNat : Nat) : Int).toNat &&& (255 : Int).toNat : Nat) : Int) = ((s ^^^ 2 ^ i : Nat) : Int) := by
  have q : ∀ s, s < 256 → ∀ i, i < 8 → (s ^^^ 2 ^ i) &&& 255 = s ^^^ 2 ^ i := by decide +kernel
  have e : ((1 : Int) * 2 ^ ((i : Nat) : Int).toNat) = ((2 ^ i : Nat) : Int) := by
    rw [Int.one_mul, Int.toNat_natCast]
    simp
  rw [e, Int.toNat_natCast, Int.toNat_natCast, Int.toNat_natCast]
  exact congrArg (fun (x : Nat) => (x : Int)) (q s h i hi)
theorem z_xb {s i : Nat} (h : s < 256) (hi : i < 8) : 0 ≤ ((((s : Nat) : Int).toNat ^^^ ((1 : Int) * 2 ^ ((i : Nat) : Int).toNat).toNat : Nat) : Int) ∧ ((((s : Nat) : Int).toNat ^^^ ((1 : Int) * 2 ^ ((i : Nat) : Int).toNat).toNat : Nat) : Int) < 2147483648 := by
  have q : ∀ s, s < 256 → ∀ i, i < 8 → (s ^^^ 2 ^ i) < 2147483648 := by decide +kernel
  have e : ((1 : Int) * 2 ^ ((i : Nat) : Int).toNat) = ((2 ^ i : Nat) : Int) := by
    rw [Int.one_mul, Int.toNat_natCast]
    simp
  rw [e, Int.toNat_natCast, Int.toNat_natCast]
  have := q s h i hi
  omega
theorem z_s1 (s i : Nat) : ((s : Nat) : Int) / 2 ^ (((i : Nat) : Int) + 1).toNat = ((s / 2 ^ (i + 1) : Nat) : Int) := by
  rw [show (((i : Nat) : Int) + 1).toNat = i + 1 by omega]
  simp
theorem zcv_congr {sg : Int} {f g f2 g2 : Nat → Int} {F G i : Nat} (hf : ∀ a, a < F → f a = f2 a) (hg : ∀ b, b < G → g b = g2 b) : zcv sg f g F G i = zcv sg f2 g2 F G i := by
  unfold zcv
  refine zsi_congr F (fun a ha => ?_)
  by_cases e : a ≤ i ∧ i - a < G
  · rw [if_pos e, if_pos e, hf a ha, hg _ e.2]
  · rw [if_neg e, if_neg e]
theorem zcv_b {p sg : Int} {f g : Nat → Int} {G i : Nat} (hsg : sg = 1 ∨ sg = -1) (hp : p ≤ 31) (hf : ∀ a, a < 7 → 0 ≤ f a ∧ f a < p) (hg : ∀ b, b < G → 0 ≤ g b ∧ g b < p) : -6300 ≤ zcv sg f g 7 G i ∧ zcv sg f g 7 G i ≤ 6300 := by
  have := zsi_bdN (f := fun a => if a ≤ i ∧ i - a < G then sg * f a * g (i - a) else 0) (M := 900) (Nat.le_refl 7) (fun a ha => by
    split
    · next w =>
      rw [Int.mul_assoc]
      exact z_sg hsg (by have := z_mb (hf a ha) (hg _ w.2) hp; omega)
    · exact ⟨by decide, by decide⟩) (by decide)
  unfold zcv
  omega
def zsgn (s c : Nat) : Int := if zb8 (s / 2 ^ (c + 1)) % 2 = 0 then 1 else -1
theorem zsgn_or (s c : Nat) : zsgn s c = 1 ∨ zsgn s c = -1 := by
  unfold zsgn
  split
  · exact Or.inl rfl
  · exact Or.inr rfl
def zx1 (E : Nat → Nat → Int) (R : Nat) (C : Nat → Nat) (X : Nat → Nat → Int) (s e c : Nat) : Int := if s / 2 ^ c % 2 = 1 then zcv (zsgn s c) (E (8 * R + C c)) (X (s ^^^ 2 ^ c)) 7 (6 * zb8 (s ^^^ 2 ^ c) + 1) e else 0
def zxp (p : Int) (E : Nat → Nat → Int) (R : Nat) (C : Nat → Nat) (X : Nat → Nat → Int) (s e : Nat) : Int := zsi (zx1 E R C X s e) 8 % p
/-- the minor of the columns s and of as many first rows, by the last row -/
def zmn (p : Int) (E : Nat → Nat → Int) (R C : Nat → Nat) : Nat → Nat → Nat → Int
  | 0, _, _ => 1
  | k + 1, s, e => zxp p E (R k) C (zmn p E R C k) s e
def zMi (p : Int) (E : Nat → Nat → Int) (R C : Nat → Nat) (s : Nat) : Nat → Int := zmn p E R C (zb8 s) s
theorem zb8_o : ∀ o, o < 9 → ∀ s, s < 256 → s < 2 ^ o → zb8 s ≤ o := by decide +kernel
theorem zb8_c : ∀ o, o < 9 → ∀ s, s < 256 → s < 2 ^ o → ∀ c, c < 8 → s / 2 ^ c % 2 = 1 → c < o := by decide +kernel
theorem zb8_f : ∀ o, o < 9 → zb8 (2 ^ o - 1) = o ∧ 2 ^ o ≤ 256 ∧ 0 < 2 ^ o := by decide +kernel
theorem zmn_in {p : Int} (hp : 1 < p) {E : Nat → Nat → Int} {R C : Nat → Nat} : ∀ k s e, 0 ≤ zmn p E R C k s e ∧ zmn p E R C k s e < p := by
  intro k s e
  cases k with
  | zero => exact ⟨by show (0 : Int) ≤ 1; decide, by show (1 : Int) < p; exact hp⟩
  | succ k => exact z_mod (by omega) _
theorem zxp_congr {p : Int} {E : Nat → Nat → Int} {R : Nat} {C : Nat → Nat} {X Y : Nat → Nat → Int} {s e : Nat} (h : ∀ c, c < 8 → s / 2 ^ c % 2 = 1 → ∀ b, X (s ^^^ 2 ^ c) b = Y (s ^^^ 2 ^ c) b) : zxp p E R C X s e = zxp p E R C Y s e := by
  unfold zxp
  refine congrArg (fun z => z % p) (zsi_congr 8 (fun c hc => ?_))
  unfold zx1
  by_cases b : s / 2 ^ c % 2 = 1
  · rw [if_pos b, if_pos b]
    exact zcv_congr (fun _ _ => rfl) (fun b1 _ => h c hc b b1)
  · rw [if_neg b, if_neg b]
theorem zMi_s {p : Int} {E : Nat → Nat → Int} {R C : Nat → Nat} {s : Nat} (hs : s < 256) (h0 : s ≠ 0) {e : Nat} : zMi p E R C s e = zxp p E (R (zb8 s - 1)) C (zMi p E R C) s e := by
  have h1 := zb8_pos s hs h0
  have h2 : zMi p E R C s e = zxp p E (R (zb8 s - 1)) C (zmn p E R C (zb8 s - 1)) s e := by
    unfold zMi
    rw [show zb8 s = zb8 s - 1 + 1 by omega]
    rfl
  rw [h2]
  refine zxp_congr (fun c hc b b1 => ?_)
  have h3 := (zb8_x s hs c hc b).2.1
  unfold zMi
  rw [show zb8 (s ^^^ 2 ^ c) = zb8 s - 1 by omega]
theorem zMi_0 {p : Int} {E : Nat → Nat → Int} {R C : Nat → Nat} {e : Nat} : zMi p E R C 0 e = 1 := rfl
/-- the whole eliminant from the rows R and the columns C, o of each -/
def zwh (p : Int) (E : Nat → Nat → Int) (R C : Nat → Nat) (o e : Nat) : Int := if e < 6 * o + 1 then zMi p E R C (2 ^ o - 1) e else 0
def zFcm (a j : Nat) : Prop := a = 183 ∨ a = 186 ∨ a = 187 ∨ (189 ≤ a ∧ a < 445) ∨ (a = 182 ∧ j = 10)
theorem z_o255 {o : Nat} (h : o < 9) : (((((1 : Int) * 2 ^ ((o : Nat) : Int).toNat) - 1).toNat &&& (255 : Int).toNat : Nat) : Int) = ((2 ^ o - 1 : Nat) : Int) := by
  have q : ∀ o, o < 9 → (((((1 : Int) * 2 ^ ((o : Nat) : Int).toNat) - 1).toNat &&& (255 : Int).toNat : Nat) : Int) = ((2 ^ o - 1 : Nat) : Int) := by decide +kernel
  exact q o h
theorem z_o1b {o : Nat} (h : o < 9) : 0 ≤ ((1 : Int) * 2 ^ ((o : Nat) : Int).toNat) - 1 ∧ ((1 : Int) * 2 ^ ((o : Nat) : Int).toNat) - 1 < 2147483648 := by
  have q : ∀ o, o < 9 → 0 ≤ ((1 : Int) * 2 ^ ((o : Nat) : Int).toNat) - 1 ∧ ((1 : Int) * 2 ^ ((o : Nat) : Int).toNat) - 1 < 2147483648 := by decide +kernel
  exact q o h
theorem z_o2 {o : Nat} (h : o < 9) : ((1 : Int) * 2 ^ ((o : Nat) : Int).toNat) = ((2 ^ o : Nat) : Int) := by
  have q : ∀ o, o < 9 → ((1 : Int) * 2 ^ ((o : Nat) : Int).toNat) = ((2 ^ o : Nat) : Int) := by decide +kernel
  exact q o h
theorem zcn_le {p : Int} (hp : p ≤ 31) {c : Nat → Nat → Int} {t : Int} : zcn p c t ≤ 961 := by
  unfold zcn
  have h1 := zsumN_le (f := zcx p c t) (M := 31) p.toNat (fun i _ => zcx_le hp i)
  omega
theorem zRo_fr {p : Int} (hp : p ≤ 31) {c : Nat → Nat → Int} {h h' : zH} (H : zRo p c h) (e : ∀ a j, (a = 141 ∧ j = 4) ∨ (143 ≤ a ∧ a ≤ 173) → h' a j = h a j) : zRo p c h' := by
  obtain ⟨s, h1, h2, h3⟩ := H
  refine ⟨s, by rw [e _ _ (by omega)]; exact h1, h2, fun t ht hb x hx => ?_⟩
  rw [e _ _ (by omega)]
  exact h3 t ht hb x hx
def zxt (p : Int) (c : Nat → Nat → Int) (W : Nat → Int) (t : Nat) : Prop := zhor (t : Int) p 49 W = 0 ∧ zcn p c (t : Int) = 0
/-- the eliminant W without its extraneous factors below t -/
noncomputable def zrs (p : Int) (c : Nat → Nat → Int) (W : Nat → Int) : Nat → Nat → Int
  | 0 => W
  | t + 1 => @ite _ (zxt p c W t) (Classical.propDecidable _) (zstr (t : Int) p 49 49 (zrs p c W t)).2 (zrs p c W t)
theorem zrs_y {p : Int} {c : Nat → Nat → Int} {W : Nat → Int} {t : Nat} (h : zxt p c W t) : zrs p c W (t + 1) = (zstr (t : Int) p 49 49 (zrs p c W t)).2 := if_pos h
theorem zrs_n {p : Int} {c : Nat → Nat → Int} {W : Nat → Int} {t : Nat} (h : ¬ zxt p c W t) : zrs p c W (t + 1) = zrs p c W t := if_neg h
theorem zrs_in {p : Int} (hp : 0 < p) {c : Nat → Nat → Int} {W : Nat → Int} (hW : ∀ e, e < 49 → 0 ≤ W e ∧ W e < p) : ∀ t e, e < 49 → 0 ≤ zrs p c W t e ∧ zrs p c W t e < p := by
  intro t
  induction t with
  | zero => exact hW
  | succ t ih =>
    by_cases q : zxt p c W t
    · rw [zrs_y q]
      exact zstr_in hp 49 _ ih
    · rw [zrs_n q]
      exact ih
theorem ztop_congr {f g : Nat → Int} : ∀ n, (∀ j, j < n → f j = g j) → ztop f n = ztop g n := by
  intro n
  induction n with
  | zero => intro _; rfl
  | succ n ih =>
    intro h
    show (if n = 0 then 0 else if f n = 0 then ztop f n else n) = (if n = 0 then 0 else if g n = 0 then ztop g n else n)
    rw [ih (fun j hj => h j (by omega)), h n (by omega)]
/-- a polynomial divided by its leading coefficient -/
def zmon (p : Int) (f : Nat → Int) (e : Nat) : Int := (f e * zinv (f (ztop f 49)) p) % p
def zRd (p : Int) (c : Nat → Nat → Int) (W : Nat → Int) (h : zH) : Prop := h 182 2 = (zmk (zxt p c W) p.toNat : Int) ∧ ∀ e, e < 49 → h 184 e = zmon p (zrs p c W p.toNat) e
def zFrd (a j : Nat) : Prop := zFRo a j ∨ a = 184 ∨ (a = 182 ∧ (j = 2 ∨ j = 11))

set_option maxRecDepth 100000 in
set_option maxHeartbeats 4000000 in
theorem t_X1_forget {h : zH} : CV yX1_forget mX1_forget [vR 182] h (fun h' => h' = zup (zup h 182 10 0) 182 11 0) := by
  refine inV [some (vR 182)] mvX1_forget rfl (Nat.le_of_ble_eq_true rfl) rfl ?_
  refine w_aload0 dX1_forget_0 (wp_iconst dX1_forget_1 (wp_putz dX1_forget_2 fl_RX1_50 is_182 rfl (by first | exact Or.inl rfl | exact Or.inr rfl) (w_aload0 dX1_forget_5 (wp_iconst dX1_forget_6 (wp_putz dX1_forget_7 fl_RX1_54 is_182 rfl (by first | exact Or.inl rfl | exact Or.inr rfl) ?_)))))
  refine r_v dX1_forget_10 rfl meX1_forget ?_
  rfl
set_option maxRecDepth 100000 in
set_option maxHeartbeats 4000000 in
theorem t_X1_listMembers {h : zH} {ss : Int} {a : Nat} {P : Nat → Prop} {N : Nat} (hN : N ≤ 8) (hS : ss = (zmk P N : Int)) (ha : zIs zN a (10, 8)) : CI yX1_listMembers mX1_listMembers [vI ss, vR a] h (fun r h' => h' = zfl h a (zct P N) (fun k => (zms P N k : Int)) ∧ r = (zct P N : Int)) := by
  refine inS [some (vI ss), some (vR a), none, none] mvX1_listMembers rfl (Nat.le_of_ble_eq_true rfl) rfl ?_
  have hmb := zmk_b8 (P := P) (i := N) (by omega)
  have hc8 := zct_le (P := P) N
  subst hS
  have L4 : ∀ (zm4 : Nat) (i : Nat) (h' : zH) (vk vi : Int), 8 - i = zm4 → (i ≤ 8) → (vi = (i : Int)) → (vk = (zct P (min i N) : Int)) → (h' = zfl h a (zct P (min i N)) (fun k => (zms P (min i N) k : Int))) → WP mX1_listMembers (zMQ mX1_listMembers (zKI (fun r h' => h' = zfl h a (zct P N) (fun k => (zms P N k : Int)) ∧ r = (zct P N : Int)))) 4 [some (vI (zmk P N : Int)), some (vR a), some (vI vk), some (vI vi)] [] zN zGR h' := by
    intro zm4
    induction zm4 using Nat.strongRecOn with | _ zm4 ih4 => ?_
    intro i h' vk vi hzm4 hi hvi hvk hh
    subst hzm4
    have hci := zct_le (P := P) (min i N)
    refine w_iload3 dX1_listMembers_4 (wp_bipush dX1_listMembers_5 (by decide) ?_)
    refine wp_icmp_ge 37 dX1_listMembers_7 rfl ⟨by omega, by omega⟩ ⟨by omega, by omega⟩ (fun c7 => ?_) (fun c7 => ?_)
    · skip
      refine w_iload2 dX1_listMembers_37 ?_
      refine r_i dX1_listMembers_38 rfl meX1_listMembers ?_
      have e : min i N = N := by omega
      rw [e] at hh hvk
      exact ⟨hh, hvk⟩
    · skip
      refine w_iload0 dX1_listMembers_10 (w_iload3 dX1_listMembers_11 (wp_ishr dX1_listMembers_12 ⟨by omega, by omega⟩ (by omega) (wp_iconst dX1_listMembers_13 (wp_iand dX1_listMembers_14 (by rw [hvi]; exact z_sh i hmb) (by omega) ?_))))
      rw [hvi, z_bt]
      refine wp_if_eq 31 dX1_listMembers_15 rfl ⟨by omega, by omega⟩ (fun c15 => ?_) (fun c15 => ?_)
      · skip
        refine w_iinc3 dX1_listMembers_31 rfl (by decide) (wp_goto 4 dX1_listMembers_34 rfl ?_)
        by_cases c9 : zmk P N / 2 ^ i % 2 = 1
        · first
          | (exfalso; omega)
          | (skip
             have hiN : i < N := by
               by_cases w : i < N
               · exact w
               · exfalso
                 have h1 := zmk_lt (P := P) N
                 have h2 : 2 ^ N ≤ 2 ^ i := Nat.pow_le_pow_right (by omega) (by omega)
                 rw [Nat.div_eq_of_lt (by omega)] at c9
                 exact absurd c9 (by decide)
             have hPi := (zmk_bit (P := P) N i hiN).mp c9
             rw [show min i N = i by omega] at hh hvk
             refine ih4 _ (by omega) (i + 1) _ _ _ rfl (by omega) (by omega) ?_ ?_
             · rw [show min (i + 1) N = i + 1 by omega, zct_y hPi]
               omega
             · rw [show min (i + 1) N = i + 1 by omega, zct_y hPi, zms_y hPi, hh, show min i N = i by omega]
               rw [zfl_congr (h := h) (a := a) (n := zct P i) (F := fun k => (zms P i k : Int)) (G := fun k => (zupN (zms P i) (zct P i) i k : Int)) (fun j hj => by
                 try dsimp only
                 unfold zupN
                 rw [if_neg (by omega)])]
               exact zfl_s (by
                 try dsimp only
                 unfold zupN
                 rw [if_pos rfl]
                 try exact hvi))
        · first
          | (exfalso; omega)
          | (skip
             refine ih4 _ (by omega) (i + 1) _ _ _ rfl (by omega) (by omega) ?_ ?_
             · by_cases w : i < N
               · rw [show min (i + 1) N = i + 1 by omega, zct_n (fun q => by have := (zmk_bit (P := P) N i w).mpr q; omega), hvk, show min i N = i by omega]
               · rw [show min (i + 1) N = min i N by omega]; exact hvk
             · by_cases w : i < N
               · rw [show min (i + 1) N = i + 1 by omega, zct_n (fun q => by have := (zmk_bit (P := P) N i w).mpr q; omega), zms_n (fun q => by have := (zmk_bit (P := P) N i w).mpr q; omega), hh, show min i N = i by omega]
               · rw [show min (i + 1) N = min i N by omega]; exact hh)
      · skip
        refine w_iload2 dX1_listMembers_18 (w_aload1 dX1_listMembers_19 (wp_alen dX1_listMembers_20 ha (by decide) ?_))
        refine wp_icmp_ge 31 dX1_listMembers_21 rfl ⟨by omega, by omega⟩ ⟨by omega, by omega⟩ (fun c21 => absurd c21 (by have := zct_le (P := P) i; omega)) (fun c21 => ?_)
        refine w_aload1 dX1_listMembers_24 (w_iload2 dX1_listMembers_25 (w_iload3 dX1_listMembers_26 (x_iast (zct P (min i N)) dX1_listMembers_27 ha hvk (by omega) (w_iinc2 dX1_listMembers_28 rfl (by decide) (w_iinc3 dX1_listMembers_31 rfl (by decide) (wp_goto 4 dX1_listMembers_34 rfl ?_))))))
        by_cases c9 : zmk P N / 2 ^ i % 2 = 1
        · first
          | (exfalso; omega)
          | (skip
             have hiN : i < N := by
               by_cases w : i < N
               · exact w
               · exfalso
                 have h1 := zmk_lt (P := P) N
                 have h2 : 2 ^ N ≤ 2 ^ i := Nat.pow_le_pow_right (by omega) (by omega)
                 rw [Nat.div_eq_of_lt (by omega)] at c9
                 exact absurd c9 (by decide)
             have hPi := (zmk_bit (P := P) N i hiN).mp c9
             rw [show min i N = i by omega] at hh hvk
             refine ih4 _ (by omega) (i + 1) _ _ _ rfl (by omega) (by omega) ?_ ?_
             · rw [show min (i + 1) N = i + 1 by omega, zct_y hPi]
               omega
             · rw [show min (i + 1) N = i + 1 by omega, zct_y hPi, zms_y hPi, hh, show min i N = i by omega]
               rw [zfl_congr (h := h) (a := a) (n := zct P i) (F := fun k => (zms P i k : Int)) (G := fun k => (zupN (zms P i) (zct P i) i k : Int)) (fun j hj => by
                 try dsimp only
                 unfold zupN
                 rw [if_neg (by omega)])]
               exact zfl_s (by
                 try dsimp only
                 unfold zupN
                 rw [if_pos rfl]
                 try exact hvi))
        · first
          | (exfalso; omega)
          | (skip
             refine ih4 _ (by omega) (i + 1) _ _ _ rfl (by omega) (by omega) ?_ ?_
             · by_cases w : i < N
               · rw [show min (i + 1) N = i + 1 by omega, zct_n (fun q => by have := (zmk_bit (P := P) N i w).mpr q; omega), hvk, show min i N = i by omega]
               · rw [show min (i + 1) N = min i N by omega]; exact hvk
             · by_cases w : i < N
               · rw [show min (i + 1) N = i + 1 by omega, zct_n (fun q => by have := (zmk_bit (P := P) N i w).mpr q; omega), zms_n (fun q => by have := (zmk_bit (P := P) N i w).mpr q; omega), hh, show min i N = i by omega]
               · rw [show min (i + 1) N = min i N by omega]; exact hh)
  refine wp_iconst dX1_listMembers_0 (w_istore2 dX1_listMembers_1 rfl (by decide) (wp_iconst dX1_listMembers_2 (w_istore3 dX1_listMembers_3 rfl (by decide) ?_)))
  exact L4 _ 0 h 0 0 rfl (Nat.zero_le _) rfl (by rw [Nat.zero_min]; rfl) (by rw [Nat.zero_min]; exact zfl_0.symm)
set_option maxRecDepth 100000 in
set_option maxHeartbeats 4000000 in
theorem t_X1_multiplicityOf {h : zH} {cc p : Int} (hc : 0 ≤ cc ∧ cc < p) (hp : 0 < p ∧ p ≤ 31) (hp0 : h 2 0 = p) (hf : ∀ j, j < 49 → 0 ≤ h 183 j ∧ h 183 j < p) : CI yX1_multiplicityOf mX1_multiplicityOf [vR 182, vI cc] h (fun r h' => zFr (fun a _ => a = 185) h h' ∧ r = ((zstr cc p 49 49 (h 183)).1 : Int)) := by
  refine inV [some (vR 182), some (vI cc)] mvX1_multiplicityOf rfl (Nat.le_of_ble_eq_true rfl) rfl ?_
  refine w_aload0 dX1_multiplicityOf_0 (wp_getr 183 dX1_multiplicityOf_1 fl_RX1_9 is_182 rfl (wp_iconst dX1_multiplicityOf_4 (w_aload0 dX1_multiplicityOf_5 (wp_getr 185 dX1_multiplicityOf_6 fl_RX1_18 is_182 rfl (wp_iconst dX1_multiplicityOf_9 (wp_bipush dX1_multiplicityOf_10 (by decide) (wp_copy dX1_multiplicityOf_12 lk_RX1_106 is_185 is_183 ⟨by omega, by omega⟩ ⟨by omega, by omega⟩ (by omega) (by decide) (Nat.le_of_ble_eq_true rfl) (w_aload0 dX1_multiplicityOf_15 (wp_getr 185 dX1_multiplicityOf_16 fl_RX1_18 is_182 rfl ?_)))))))))
  refine w_iload1 dX1_multiplicityOf_19 (w_aload0 dX1_multiplicityOf_20 (wp_getr 2 dX1_multiplicityOf_21 fl_RX1_32 is_182 rfl (wp_geti dX1_multiplicityOf_24 fl_RX1_98 is_2 ?_)))
  have k0 : zcpy h 183 (0 : Int).toNat 185 (0 : Int).toNat (49 : Int).toNat 2 0 = p := by rw [zcpy_a (by omega)]; exact hp0
  rw [k0]
  have kq : ∀ j, j < 49 → zcpy h 183 (0 : Int).toNat 185 (0 : Int).toNat (49 : Int).toNat 185 j = h 183 j := fun j hj => by
    unfold zcpy
    rw [if_pos ⟨rfl, Nat.zero_le _, by show j < 0 + 49; omega⟩, show (0 : Int).toNat + (j - (0 : Int).toNat) = j from by show 0 + (j - 0) = _; omega]
  apply s_i3 (M := mX1_multiplicityOf) dX1_multiplicityOf_27 lk_RX1_112 mvX3_strip (by decide) meX1_multiplicityOf (Nat.le_of_ble_eq_true rfl)
  · exact t_X3_strip is_185 hc hp (fun j hj => by rw [kq j hj]; exact hf j hj)
  intro x27 h27 hP27
  obtain ⟨eh, ex⟩ := hP27
  rw [eh]
  refine r_i dX1_multiplicityOf_30 rfl meX1_multiplicityOf ?_
  refine ⟨fun a j n => ?_, ?_⟩
  · rw [zfl_o (by omega), zcpy_a (by omega)]
  · rw [ex, (zstr_congr 49 _ _ kq).1]
set_option maxRecDepth 100000 in
set_option maxHeartbeats 4000000 in
theorem t_X1_divideByLeading {h : zH} {p : Int} (hp : 0 < p ∧ p ≤ 31) (hf : ∀ j, j < 49 → 0 ≤ h 184 j ∧ h 184 j < p) : CV yX1_divideByLeading mX1_divideByLeading [vR 182, vI p] h (fun h' => h' = zfl h 184 49 (fun e => (h 184 e * zinv (h 184 (ztop (h 184) 49)) p) % p)) := by
  refine inV [some (vR 182), some (vI p), none, none, none] mvX1_divideByLeading rfl (Nat.le_of_ble_eq_true rfl) rfl ?_
  have htl := ztop_lt (f := h 184) 49 (by decide)
  have hft := hf _ htl
  have w1 := zinvS_in (h 184 (ztop (h 184) 49)) p (p.toNat - 1)
  have w2 : 0 ≤ zinv (h 184 (ztop (h 184) 49)) p ∧ zinv (h 184 (ztop (h 184) 49)) p < p := ⟨w1.1, by unfold zinv; omega⟩
  have L36 : ∀ (zm36 : Nat) (i : Nat) (h' : zH) (vi : Int), 49 - i = zm36 → (i ≤ 49) → (vi = (i : Int)) → (h' = zfl h 184 i (fun e => (h 184 e * zinv (h 184 (ztop (h 184) 49)) p) % p)) → WP mX1_divideByLeading (zMQ mX1_divideByLeading (zKV (fun h' => h' = zfl h 184 49 (fun e => (h 184 e * zinv (h 184 (ztop (h 184) 49)) p) % p)))) 36 [some (vR 182), some (vI p), none, some (vI (zinv (h 184 (ztop (h 184) 49)) p)), some (vI vi)] [] zN zGR h' := by
    intro zm36
    induction zm36 using Nat.strongRecOn with | _ zm36 ih36 => ?_
    intro i h' vi hzm36 hi hvi hh
    subst hzm36
    refine w_iload4 dX1_divideByLeading_36 (wp_bipush dX1_divideByLeading_38 (by decide) ?_)
    refine wp_icmp_ge 69 dX1_divideByLeading_40 rfl ⟨by omega, by omega⟩ ⟨by omega, by omega⟩ (fun c40 => ?_) (fun c40 => ?_)
    · skip
      refine r_v dX1_divideByLeading_69 rfl meX1_divideByLeading ?_
      rw [hh, show i = 49 by omega]
    · skip
      refine w_aload0 dX1_divideByLeading_43 (wp_getr 184 dX1_divideByLeading_44 fl_RX1_15 is_182 rfl (w_iload4 dX1_divideByLeading_47 (w_aload0 dX1_divideByLeading_49 (wp_getr 184 dX1_divideByLeading_50 fl_RX1_15 is_182 rfl (w_iload4 dX1_divideByLeading_53 (x_iald i dX1_divideByLeading_55 is_184 hvi (by omega) ?_))))))
      have e1 : h' 184 i = h 184 i := by rw [hh, zfl_o (by omega)]
      rw [e1]
      have w3 := z_mb (hf i (by omega)) w2 hp.2
      refine w_iload3 dX1_divideByLeading_56 (wp_imul dX1_divideByLeading_57 (w_iload1 dX1_divideByLeading_58 ?_))
      apply s_i2 (M := mX1_divideByLeading) dX1_divideByLeading_59 lk_RX1_140 mvX3_residue (by decide) meX1_divideByLeading (Nat.le_of_ble_eq_true rfl)
      · exact t_X3_residue ⟨by omega, by omega⟩ (by omega)
      intro x59 h59 hP59
      obtain ⟨eh59, ex59⟩ := hP59
      replace eh59 := eh59.symm
      subst eh59
      replace ex59 := ex59.symm
      subst ex59
      refine x_iast i dX1_divideByLeading_62 is_184 hvi (by omega) (w_iinc4 dX1_divideByLeading_63 rfl (by decide) (wp_goto 36 dX1_divideByLeading_66 rfl ?_))
      exact ih36 _ (by omega) (i + 1) _ _ rfl (by omega) (by omega) (by rw [hh]; exact zfl_s rfl)
  refine w_aload0 dX1_divideByLeading_0 (wp_getr 184 dX1_divideByLeading_1 fl_RX1_15 is_182 rfl ?_)
  apply s_i1 (M := mX1_divideByLeading) dX1_divideByLeading_4 lk_RX1_133 mvX3_topOf (by decide) meX1_divideByLeading (Nat.le_of_ble_eq_true rfl)
  · exact t_X3_topOf is_184 (by decide) (fun e he => by have := hf e he; exact ⟨by omega, by omega⟩)
  intro x4 h4 hP4
  obtain ⟨eh4, ex4⟩ := hP4
  replace eh4 := eh4.symm
  subst eh4
  replace ex4 := ex4.symm
  subst ex4
  refine w_istore2 dX1_divideByLeading_7 rfl (by decide) (w_iload2 dX1_divideByLeading_8 ?_)
  refine wp_if_lt 31 dX1_divideByLeading_9 rfl ⟨by omega, by omega⟩ (fun c9 => absurd c9 (by omega)) (fun c9 => ?_)
  refine w_iload2 dX1_divideByLeading_12 (wp_bipush dX1_divideByLeading_13 (by decide) ?_)
  refine wp_icmp_ge 31 dX1_divideByLeading_15 rfl ⟨by omega, by omega⟩ ⟨by omega, by omega⟩ (fun c15 => absurd c15 (by omega)) (fun c15 => ?_)
  refine w_aload0 dX1_divideByLeading_18 (wp_getr 184 dX1_divideByLeading_19 fl_RX1_15 is_182 rfl (w_iload2 dX1_divideByLeading_22 (x_iald (ztop (h 184) 49) dX1_divideByLeading_23 is_184 rfl htl (w_iload1 dX1_divideByLeading_24 ?_))))
  apply s_i2 (M := mX1_divideByLeading) dX1_divideByLeading_25 lk_RX1_137 mvX3_inverse (by decide) meX1_divideByLeading (Nat.le_of_ble_eq_true rfl)
  · exact t_X3_inverse ⟨by omega, by omega⟩ ⟨by omega, by omega⟩
  intro x25 h25 hP25
  obtain ⟨eh25, ex25⟩ := hP25
  replace eh25 := eh25.symm
  subst eh25
  replace ex25 := ex25.symm
  subst ex25
  refine wp_goto 32 dX1_divideByLeading_28 rfl (w_istore3 dX1_divideByLeading_32 rfl (by decide) (wp_iconst dX1_divideByLeading_33 (w_istore4 dX1_divideByLeading_34 rfl (by decide) ?_)))
  refine w_forget2 ?_
  exact L36 _ 0 h 0 rfl (Nat.zero_le _) rfl zfl_0.symm
set_option maxRecDepth 100000 in
set_option maxHeartbeats 4000000 in
theorem t_X1_expand {h : zH} {ss : Int} {s : Nat} (hss : ss = s) (hs8 : s < 256) {p : Int} (hp : 0 < p ∧ p ≤ 31) (hp0 : h 2 0 = p) {E X : Nat → Nat → Int} {R : Nat} {C : Nat → Nat} (hRr : s ≠ 0 → h 186 (zb8 s - 1) = (R : Int) ∧ R < 8) (hC : ∀ c, c < 8 → s / 2 ^ c % 2 = 1 → h 187 c = (C c : Int) ∧ C c < 8) (hE : ∀ q, q < 64 → ∀ e, e < 7 → h (9 + q) e = E q e ∧ 0 ≤ E q e ∧ E q e < p) (hX : ∀ c, c < 8 → s / 2 ^ c % 2 = 1 → ∀ e, e < 6 * zb8 (s ^^^ 2 ^ c) + 1 → h (189 + (s ^^^ 2 ^ c)) e = X (s ^^^ 2 ^ c) e ∧ 0 ≤ X (s ^^^ 2 ^ c) e ∧ X (s ^^^ 2 ^ c) e < p) : CV yX1_expand mX1_expand [vR 182, vI ss] h (fun h' => h' = zfl h (189 + s) (6 * zb8 s + 1) (if s = 0 then fun _ => 1 else zxp p E R C X s)) := by
  refine inV [some (vR 182), some (vI ss), none, none, none, none, none] mvX1_expand rfl (Nat.le_of_ble_eq_true rfl) rfl ?_
  subst hss
  have hb0 := zb8_pos s hs8
  have hb00 : s = 0 → zb8 s = 0 := fun e => by rw [e]; decide
  have hb8 := zb8_le s hs8
  have hzb : s ≠ 0 → ∀ e c, c < 8 → -6300 ≤ zx1 E R C X s e c ∧ zx1 E R C X s e c ≤ 6300 := fun h0 e c hc => by
    have hR8 := (hRr h0).2
    unfold zx1
    split
    · next b => exact zcv_b (zsgn_or s c) hp.2 (fun a ha => (hE _ (by have := hC c hc b; omega) a ha).2) (fun b1 hb1 => (hX c hc b b1 hb1).2)
    · omega
  have L58 : ∀ (zm58 : Nat) (i : Nat) (h' : zH), 8 - i = zm58 → (s ≠ 0) → (i ≤ 8) → (h' = zfl h (189 + s) (6 * zb8 s + 1) (fun e => zsi (zx1 E R C X s e) i)) → WP mX1_expand (zMQ mX1_expand (zKV (fun h' => h' = zfl h (189 + s) (6 * zb8 s + 1) (if s = 0 then fun _ => 1 else zxp p E R C X s)))) 58 [some (vR 182), some (vI (s : Int)), some (vR (189 + s)), some (vI ((zb8 s : Int) - 1)), some (vI (i : Int)), none, none] [] zN zGR h' := by
    intro zm58
    induction zm58 using Nat.strongRecOn with | _ zm58 ih58 => ?_
    intro i h' hzm58 h0 hi hh
    subst hzm58
    obtain ⟨hR, hR8⟩ := hRr h0
    have hb1 := hb0 h0
    have hx8 := fun (w : i < 8) (b : s / 2 ^ i % 2 = 1) => zb8_x s hs8 i w b
    refine w_iload4 dX1_expand_58 (w_aload0 dX1_expand_60 (wp_getr 187 dX1_expand_61 fl_RX1_24 is_182 rfl (wp_alen dX1_expand_64 is_187 (by decide) ?_)))
    refine wp_icmp_ge 153 dX1_expand_65 rfl ⟨by omega, by omega⟩ ⟨by omega, by omega⟩ (fun c65 => ?_) (fun c65 => ?_)
    · skip
      refine w_aload2 dX1_expand_153 (w_aload0 dX1_expand_154 (wp_getr 2 dX1_expand_155 fl_RX1_32 is_182 rfl (wp_geti dX1_expand_158 fl_RX1_98 is_2 ?_)))
      rw [show h' 2 0 = p by rw [hh, zfl_o (by omega)]; exact hp0]
      have hb9 : ∀ e, e < 6 * zb8 s + 1 → zin (h' (189 + s) e) := fun e he => by
        rw [hh, zfl_i he]
        have := zsi_bdN (f := zx1 E R C X s e) (M := 6300) hi (fun c hc => hzb h0 e c (by omega)) (by decide)
        exact ⟨by omega, by omega⟩
      apply s_v2 (M := mX1_expand) dX1_expand_161 lk_RX1_103 mvX3_reduceAll (by decide) meX1_expand (Nat.le_of_ble_eq_true rfl)
      · exact t_X3_reduceAll (z_is189 hs8) (by omega) hb9
      intro h161 hP161
      replace hP161 := hP161.symm
      subst hP161
      refine r_v dX1_expand_164 rfl meX1_expand ?_
      rw [hh, show i = 8 by omega, zfl_fl, if_neg h0]
      refine zfl_congr (fun e he => ?_)
      rw [zfl_i he]
      rfl
    · skip
      refine w_iload1 dX1_expand_68 (w_iload4 dX1_expand_69 (wp_ishr dX1_expand_71 ⟨by omega, by omega⟩ (by omega) (wp_iconst dX1_expand_72 (wp_iand dX1_expand_73 (z_sh i (by omega)) (by omega) ?_))))
      rw [z_bt]
      refine wp_if_eq 147 dX1_expand_74 rfl ⟨by omega, by omega⟩ (fun c74 => ?_) (fun c74 => ?_)
      · skip
        refine w_iinc4 dX1_expand_147 rfl (by decide) (wp_goto 58 dX1_expand_150 rfl ?_)
        by_cases c9 : s / 2 ^ i % 2 = 1
        · first
          | (exfalso; omega)
          | (skip
             refine ih58 _ (by omega) (i + 1) _ rfl h0 (by omega) ?_
             rw [hh, zfl_fl]
             refine zfl_congr (fun j hj => ?_)
             rw [zfl_i hj]
             show _ = zsi (zx1 E R C X s j) i + zx1 E R C X s j i
             refine congrArg (fun z => zsi (zx1 E R C X s j) i + z) ?_
             have e1 : zx1 E R C X s j i = zcv (zsgn s i) (E (8 * R + C i)) (X (s ^^^ 2 ^ i)) 7 (6 * zb8 (s ^^^ 2 ^ i) + 1) j := if_pos c9
             rw [e1]
             first
             | rw [show zsgn s i = 1 from if_pos (by omega)]
             | rw [show zsgn s i = -1 from if_neg (by omega)]
             exact zcv_congr (fun a ha => by rw [zfl_o (by omega)]; exact (hE _ (by omega) a ha).1) (fun b hb => by rw [zfl_o (by omega)]; exact (hX i (by omega) c9 b hb).1))
        · first
          | (exfalso; omega)
          | (skip
             refine ih58 _ (by omega) (i + 1) _ rfl h0 (by omega) ?_
             rw [hh]
             refine zfl_congr (fun j hj => ?_)
             show _ = zsi (zx1 E R C X s j) i + zx1 E R C X s j i
             rw [show zx1 E R C X s j i = 0 from if_neg c9, Int.add_zero])
      · skip
        refine w_iload1 dX1_expand_77 (w_iload4 dX1_expand_78 (wp_iconst dX1_expand_80 (wp_iadd dX1_expand_81 (wp_ishr dX1_expand_82 ⟨by omega, by omega⟩ (by omega) ?_))))
        rw [z_s1]
        have hbt : s / 2 ^ i % 2 = 1 := by omega
        obtain ⟨y1, y2, y3⟩ := hx8 (by omega) hbt
        obtain ⟨d1, d2⟩ := hC i (by omega) hbt
        apply s_i1 (M := mX1_expand) dX1_expand_83 lk_RX1_44 mvJ6_bitCount_0f7a4 (by decide) meX1_expand (Nat.le_of_ble_eq_true rfl)
        · exact t_J6_bitCount_0f7a4 (m := s / 2 ^ (i + 1)) rfl (by omega)
        intro x83 h83 hP83
        obtain ⟨eh83, ex83⟩ := hP83
        replace eh83 := eh83.symm
        subst eh83
        replace ex83 := ex83.symm
        subst ex83
        rw [zpc_b8 (by omega)]
        have y4 := zb8_le (s / 2 ^ (i + 1)) (by omega)
        refine w_istore5 dX1_expand_86 rfl (by decide) (w_aload0 dX1_expand_88 (wp_getr 188 dX1_expand_89 fl_RX1_28 is_182 rfl (w_iload1 dX1_expand_92 (wp_iconst dX1_expand_93 (w_iload4 dX1_expand_94 (wp_ishl dX1_expand_96 (by omega) (wp_ixor dX1_expand_97 (by omega) (z_1s i (by omega)) (w_aload0 dX1_expand_98 (wp_getr 188 dX1_expand_99 fl_RX1_28 is_182 rfl ?_)))))))))
        refine wp_alen dX1_expand_102 is_188 (by decide) (wp_iconst dX1_expand_103 (wp_isub dX1_expand_104 (wp_iand dX1_expand_105 (z_xb hs8 (by omega)) (by omega) (x_aald (s ^^^ 2 ^ i) (189 + (s ^^^ 2 ^ i)) dX1_expand_106 is_188 (Or.inl rfl) (z_x255 hs8 (by omega)) (by omega) rfl (w_astore6 dX1_expand_107 rfl (by decide) (w_aload2 dX1_expand_109 (w_aload0 dX1_expand_110 (wp_getr 7 dX1_expand_111 fl_RX1_36 is_182 rfl (w_aload0 dX1_expand_114 ?_)))))))))
        refine wp_getr 186 dX1_expand_115 fl_RX1_21 is_182 rfl (w_iload3 dX1_expand_118 (x_iald (zb8 s - 1) dX1_expand_119 is_186 (by omega) (by omega) ?_))
        rw [show h' 186 (zb8 s - 1) = (R : Int) by rw [hh, zfl_o (by omega)]; exact hR]
        refine w_aload0 dX1_expand_120 (wp_getr 187 dX1_expand_121 fl_RX1_24 is_182 rfl (w_iload4 dX1_expand_124 (x_iald i dX1_expand_126 is_187 rfl (by omega) ?_)))
        rw [show h' 187 i = (C i : Int) by rw [hh, zfl_o (by omega)]; exact d1]
        apply v_r2 (M := mX1_expand) dX1_expand_127 lk_RX1_86 mvX0_at (by decide) meX1_expand is_7 (Nat.le_of_ble_eq_true rfl)
        · exact t_X0_at (q := 8 * R + C i) (by omega) (by omega) (by omega) (by omega)
        intro x127 h127 hP127
        obtain ⟨eh127, ex127⟩ := hP127
        replace eh127 := eh127.symm
        subst eh127
        replace ex127 := ex127.symm
        subst ex127
        refine w_aload6 dX1_expand_130 (w_iload5 dX1_expand_132 (wp_iconst dX1_expand_134 (wp_irem dX1_expand_135 (by omega) (by omega) ?_)))
        refine wp_if_ne 143 dX1_expand_136 rfl ⟨by omega, by omega⟩ (fun c136 => ?_) (fun c136 => ?_)
        · skip
          refine wp_iconst dX1_expand_143 ?_
          apply s_v4 (M := mX1_expand) dX1_expand_144 lk_RX1_92 mvX3_addProduct (by decide) meX1_expand (Nat.le_of_ble_eq_true rfl)
          · exact t_X3_addProduct (z_is189 hs8) (z_is9 (by omega)) (z_is189 (by omega)) (by decide) (by omega) (by first | exact Or.inl rfl | exact Or.inr rfl) (by omega) (by omega) (fun e he => by rw [hh, zfl_o (by omega)]; have := hE (8 * R + C i) (by omega) e he; omega)
          intro h144 hP144
          replace hP144 := hP144.symm
          subst hP144
          refine w_iinc4 dX1_expand_147 rfl (by decide) (wp_goto 58 dX1_expand_150 rfl ?_)
          refine w_forget5 ?_
          refine w_forget6 ?_
          by_cases c9 : s / 2 ^ i % 2 = 1
          · first
            | (exfalso; omega)
            | (skip
               refine ih58 _ (by omega) (i + 1) _ rfl h0 (by omega) ?_
               rw [hh, zfl_fl]
               refine zfl_congr (fun j hj => ?_)
               rw [zfl_i hj]
               show _ = zsi (zx1 E R C X s j) i + zx1 E R C X s j i
               refine congrArg (fun z => zsi (zx1 E R C X s j) i + z) ?_
               have e1 : zx1 E R C X s j i = zcv (zsgn s i) (E (8 * R + C i)) (X (s ^^^ 2 ^ i)) 7 (6 * zb8 (s ^^^ 2 ^ i) + 1) j := if_pos c9
               rw [e1]
               first
               | rw [show zsgn s i = 1 from if_pos (by omega)]
               | rw [show zsgn s i = -1 from if_neg (by omega)]
               exact zcv_congr (fun a ha => by rw [zfl_o (by omega)]; exact (hE _ (by omega) a ha).1) (fun b hb => by rw [zfl_o (by omega)]; exact (hX i (by omega) c9 b hb).1))
          · first
            | (exfalso; omega)
            | (skip
               refine ih58 _ (by omega) (i + 1) _ rfl h0 (by omega) ?_
               rw [hh]
               refine zfl_congr (fun j hj => ?_)
               show _ = zsi (zx1 E R C X s j) i + zx1 E R C X s j i
               rw [show zx1 E R C X s j i = 0 from if_neg c9, Int.add_zero])
        · skip
          refine wp_iconst dX1_expand_139 (wp_goto 144 dX1_expand_140 rfl ?_)
          apply s_v4 (M := mX1_expand) dX1_expand_144 lk_RX1_92 mvX3_addProduct (by decide) meX1_expand (Nat.le_of_ble_eq_true rfl)
          · exact t_X3_addProduct (z_is189 hs8) (z_is9 (by omega)) (z_is189 (by omega)) (by decide) (by omega) (by first | exact Or.inl rfl | exact Or.inr rfl) (by omega) (by omega) (fun e he => by rw [hh, zfl_o (by omega)]; have := hE (8 * R + C i) (by omega) e he; omega)
          intro h144 hP144
          replace hP144 := hP144.symm
          subst hP144
          refine w_iinc4 dX1_expand_147 rfl (by decide) (wp_goto 58 dX1_expand_150 rfl ?_)
          refine w_forget5 ?_
          refine w_forget6 ?_
          by_cases c9 : s / 2 ^ i % 2 = 1
          · first
            | (exfalso; omega)
            | (skip
               refine ih58 _ (by omega) (i + 1) _ rfl h0 (by omega) ?_
               rw [hh, zfl_fl]
               refine zfl_congr (fun j hj => ?_)
               rw [zfl_i hj]
               show _ = zsi (zx1 E R C X s j) i + zx1 E R C X s j i
               refine congrArg (fun z => zsi (zx1 E R C X s j) i + z) ?_
               have e1 : zx1 E R C X s j i = zcv (zsgn s i) (E (8 * R + C i)) (X (s ^^^ 2 ^ i)) 7 (6 * zb8 (s ^^^ 2 ^ i) + 1) j := if_pos c9
               rw [e1]
               first
               | rw [show zsgn s i = 1 from if_pos (by omega)]
               | rw [show zsgn s i = -1 from if_neg (by omega)]
               exact zcv_congr (fun a ha => by rw [zfl_o (by omega)]; exact (hE _ (by omega) a ha).1) (fun b hb => by rw [zfl_o (by omega)]; exact (hX i (by omega) c9 b hb).1))
          · first
            | (exfalso; omega)
            | (skip
               refine ih58 _ (by omega) (i + 1) _ rfl h0 (by omega) ?_
               rw [hh]
               refine zfl_congr (fun j hj => ?_)
               show _ = zsi (zx1 E R C X s j) i + zx1 E R C X s j i
               rw [show zx1 E R C X s j i = 0 from if_neg c9, Int.add_zero])
  refine w_aload0 dX1_expand_0 (wp_getr 188 dX1_expand_1 fl_RX1_28 is_182 rfl (w_iload1 dX1_expand_4 (w_aload0 dX1_expand_5 (wp_getr 188 dX1_expand_6 fl_RX1_28 is_182 rfl (wp_alen dX1_expand_9 is_188 (by decide) (wp_iconst dX1_expand_10 (wp_isub dX1_expand_11 (wp_iand dX1_expand_12 (by omega) (by omega) (x_aald s (189 + s) dX1_expand_13 is_188 (Or.inl rfl) (z_a255 hs8) hs8 rfl ?_)))))))))
  refine w_astore2 dX1_expand_14 rfl (by decide) (w_aload2 dX1_expand_15 (wp_ifnull dX1_expand_16 (by have := ((z_is189 hs8)).2.1; omega) (w_aload2 dX1_expand_19 (wp_alen dX1_expand_20 (z_is189 hs8) (by decide) ?_))))
  refine wp_if_ne 25 dX1_expand_21 rfl ⟨by omega, by omega⟩ (fun c21 => ?_) (fun c21 => absurd c21 (by omega))
  refine w_aload2 dX1_expand_25 (wp_iconst dX1_expand_26 ?_)
  apply s_v2 (M := mX1_expand) dX1_expand_27 lk_RX1_76 mvJ7_fill_53178 (by decide) meX1_expand (Nat.le_of_ble_eq_true rfl)
  · exact t_J7_fill_53178 (z_is189 hs8)
  intro h27 hP27
  replace hP27 := hP27.symm
  subst hP27
  refine w_iload1 dX1_expand_30 ?_
  apply s_i1 (M := mX1_expand) dX1_expand_31 lk_RX1_44 mvJ6_bitCount_0f7a4 (by decide) meX1_expand (Nat.le_of_ble_eq_true rfl)
  · exact t_J6_bitCount_0f7a4 (m := s) rfl (by omega)
  intro x31 h31 hP31
  obtain ⟨eh31, ex31⟩ := hP31
  replace eh31 := eh31.symm
  subst eh31
  replace ex31 := ex31.symm
  subst ex31
  rw [zpc_b8 hs8]
  refine wp_iconst dX1_expand_34 (wp_isub dX1_expand_35 (w_istore3 dX1_expand_36 rfl (by decide) (w_iload3 dX1_expand_37 ?_)))
  refine wp_if_lt 50 dX1_expand_38 rfl ⟨by omega, by omega⟩ (fun c38 => ?_) (fun c38 => ?_)
  · skip
    refine w_aload2 dX1_expand_50 (wp_iconst dX1_expand_51 (wp_iconst dX1_expand_52 (x_iast 0 dX1_expand_53 (z_is189 hs8) rfl (by omega) ?_)))
    refine r_v dX1_expand_54 rfl meX1_expand ?_
    have h0 : s = 0 := by
      by_cases e : s = 0
      · exact e
      · have := hb0 e; omega
    rw [if_pos h0, hb00 h0]
    funext b j
    unfold zup zfl
    try dsimp only
    by_cases e : b = 189 + s ∧ j = 0
    · rw [if_pos e, if_pos ⟨e.1, by omega⟩]
    · rw [if_neg e]
      by_cases e2 : b = 189 + s ∧ j < 1
      · exact absurd ⟨e2.1, by omega⟩ e
      · rw [if_neg e2, if_neg e2]
  · skip
    have h0 : s ≠ 0 := fun e => by have := hb00 e; omega
    obtain ⟨hR, hR8⟩ := hRr h0
    have hb1 := hb0 h0
    refine w_iload3 dX1_expand_41 (w_aload0 dX1_expand_42 (wp_getr 186 dX1_expand_43 fl_RX1_21 is_182 rfl (wp_alen dX1_expand_46 is_186 (by decide) ?_)))
    refine wp_icmp_lt 55 dX1_expand_47 rfl ⟨by omega, by omega⟩ ⟨by omega, by omega⟩ (fun c47 => ?_) (fun c47 => absurd c47 (by omega))
    refine wp_iconst dX1_expand_55 (w_istore4 dX1_expand_56 rfl (by decide) ?_)
    exact L58 _ 0 _ rfl h0 (Nat.zero_le _) rfl
set_option maxRecDepth 100000 in
set_option maxHeartbeats 4000000 in
theorem t_X1_compute {h : zH} {p : Int} (hp : 5 ≤ p ∧ p ≤ 31) (hp0 : h 2 0 = p) {E : Nat → Nat → Int} {Pr Pc : Nat → Prop} {N o : Nat} (hN : N ≤ 8) (ho : o = min (zct Pr N) (zct Pc N)) (hr : h 78 3 = (zmk Pr N : Int)) (hc : h 78 4 = (zmk Pc N : Int)) (hE : ∀ q, q < 64 → ∀ e, e < 7 → h (9 + q) e = E q e ∧ 0 ≤ E q e ∧ E q e < p) (hf : h 182 10 = 0 ∨ (h 182 10 = 1 ∧ ∀ e, e < 49 → h 183 e = zwh p E (zms Pr N) (zms Pc N) o e)) : CV yX1_compute mX1_compute [vR 182] h (fun h' => zFr zFcm h h' ∧ h' 182 10 = 1 ∧ ∀ e, e < 49 → h' 183 e = zwh p E (zms Pr N) (zms Pc N) o e) := by
  refine inV [some (vR 182), none, none, none] mvX1_compute rfl (Nat.le_of_ble_eq_true rfl) rfl ?_
  have hcr := zct_le (P := Pr) N
  have hcc := zct_le (P := Pc) N
  have ho8 : o < 9 := by omega
  have hof := zb8_f o ho8
  have L103 : ∀ (zm103 : Nat) (e : Nat) (h' : zH) (ve : Int), 6 * o + 1 - e = zm103 → (e ≤ 6 * o + 1) → (ve = (e : Int)) → (zFr zFcm h h') → (h' 182 10 = 1) → (∀ j, j < 49 → h' 183 j = if j < e then zMi p E (zms Pr N) (zms Pc N) (2 ^ o - 1) j else 0) → (∀ j, j < 6 * o + 1 → h' (189 + (2 ^ o - 1)) j = zMi p E (zms Pr N) (zms Pc N) (2 ^ o - 1) j) → WP mX1_compute (zMQ mX1_compute (zKV (fun h' => zFr zFcm h h' ∧ h' 182 10 = 1 ∧ ∀ e, e < 49 → h' 183 e = zwh p E (zms Pr N) (zms Pc N) o e))) 103 [some (vR 182), none, some (vR (189 + (2 ^ o - 1))), some (vI ve)] [] zN zGR h' := by
    intro zm103
    induction zm103 using Nat.strongRecOn with | _ zm103 ih103 => ?_
    intro e h' ve hzm103 he hve hF h10 hw hm
    subst hzm103
    refine w_aload2 dX1_compute_103 (wp_ifnull dX1_compute_104 (by have := ((z_is189 (s := 2 ^ o - 1) (by omega))).2.1; omega) (w_iload3 dX1_compute_107 (w_aload2 dX1_compute_108 (wp_alen dX1_compute_109 (z_is189 (s := 2 ^ o - 1) (by omega)) (by decide) ?_))))
    refine wp_icmp_ge 137 dX1_compute_110 rfl ⟨by omega, by omega⟩ ⟨by omega, by omega⟩ (fun c110 => ?_) (fun c110 => ?_)
    · skip
      refine r_v dX1_compute_137 rfl meX1_compute ?_
      refine ⟨hF, h10, fun j hj => ?_⟩
      rw [hw j hj, show e = 6 * o + 1 by omega]
      rfl
    · skip
      refine w_iload3 dX1_compute_113 (w_aload0 dX1_compute_114 (wp_getr 183 dX1_compute_115 fl_RX1_9 is_182 rfl (wp_alen dX1_compute_118 is_183 (by decide) ?_)))
      refine wp_icmp_ge 137 dX1_compute_119 rfl ⟨by omega, by omega⟩ ⟨by omega, by omega⟩ (fun c119 => absurd c119 (by omega)) (fun c119 => ?_)
      refine w_aload0 dX1_compute_122 (wp_getr 183 dX1_compute_123 fl_RX1_9 is_182 rfl (w_iload3 dX1_compute_126 (w_aload2 dX1_compute_127 (w_iload3 dX1_compute_128 (x_iald e dX1_compute_129 (z_is189 (s := 2 ^ o - 1) (by omega)) hve (by omega) (x_iast e dX1_compute_130 is_183 hve (by omega) (w_iinc3 dX1_compute_131 rfl (by decide) (wp_goto 103 dX1_compute_134 rfl ?_))))))))
      refine ih103 _ (by omega) (e + 1) _ _ rfl (by omega) (by omega) (hF.up (by unfold zFcm; omega)) (by rw [zup_o (by omega)]; exact h10) (fun j hj => ?_) (fun j hj => by rw [zup_o (by omega)]; exact hm j hj)
      unfold zup
      by_cases e9 : j = e
      · rw [if_pos ⟨rfl, e9⟩, if_pos (by omega), e9]
        exact hm e (by omega)
      · rw [if_neg (fun q => e9 q.2), hw j hj]
        by_cases e8 : j < e
        · rw [if_pos e8, if_pos (by omega)]
        · rw [if_neg e8, if_neg (by omega)]
  have L55 : ∀ (zm55 : Nat) (i : Nat) (h' : zH) (vo vi : Int), 2 ^ o - i = zm55 → (i ≤ 2 ^ o) → (vi = (i : Int)) → (vo = (o : Int)) → (zFr zFcm h h') → (h' 182 10 = 1) → (∀ e, e < 49 → h' 183 e = 0) → (∀ k, k < zct Pr N → h' 186 k = (zms Pr N k : Int)) → (∀ k, k < zct Pc N → h' 187 k = (zms Pc N k : Int)) → (∀ s, s < i → ∀ e, e < 6 * zb8 s + 1 → h' (189 + s) e = zMi p E (zms Pr N) (zms Pc N) s e) → WP mX1_compute (zMQ mX1_compute (zKV (fun h' => zFr zFcm h h' ∧ h' 182 10 = 1 ∧ ∀ e, e < 49 → h' 183 e = zwh p E (zms Pr N) (zms Pc N) o e))) 55 [some (vR 182), some (vI vo), some (vI vi), none] [] zN zGR h' := by
    intro zm55
    induction zm55 using Nat.strongRecOn with | _ zm55 ih55 => ?_
    intro i h' vo vi hzm55 hi hvi hvo hF h10 hw hrr hcl hm
    subst hzm55
    subst hvo
    refine w_iload2 dX1_compute_55 (w_aload0 dX1_compute_56 (wp_getr 188 dX1_compute_57 fl_RX1_28 is_182 rfl (wp_alen dX1_compute_60 is_188 (by decide) ?_)))
    refine wp_icmp_ge 82 dX1_compute_61 rfl ⟨by omega, by omega⟩ ⟨by omega, by omega⟩ (fun c61 => ?_) (fun c61 => ?_)
    · skip
      refine w_aload0 dX1_compute_82 (wp_getr 188 dX1_compute_83 fl_RX1_28 is_182 rfl (wp_iconst dX1_compute_86 (w_iload1 dX1_compute_87 (wp_ishl dX1_compute_88 (by omega) (wp_iconst dX1_compute_89 (wp_isub dX1_compute_90 (w_aload0 dX1_compute_91 (wp_getr 188 dX1_compute_92 fl_RX1_28 is_182 rfl (wp_alen dX1_compute_95 is_188 (by decide) ?_)))))))))
      refine wp_iconst dX1_compute_96 (wp_isub dX1_compute_97 (wp_iand dX1_compute_98 (z_o1b ho8) (by omega) (x_aald (2 ^ o - 1) (189 + (2 ^ o - 1)) dX1_compute_99 is_188 (Or.inl rfl) (z_o255 ho8) (by omega) rfl (w_astore2 dX1_compute_100 rfl (by decide) (wp_iconst dX1_compute_101 (w_istore3 dX1_compute_102 rfl (by decide) ?_))))))
      refine w_forget1 ?_
      have hi9 : i = 2 ^ o := by omega
      refine L103 _ 0 _ _ rfl (Nat.zero_le _) rfl hF h10 (fun j hj => by rw [if_neg (Nat.not_lt_zero j)]; exact hw j hj) (fun j hj => hm _ (by omega) j (by omega))
    · skip
      refine w_iload2 dX1_compute_64 (wp_iconst dX1_compute_65 (w_iload1 dX1_compute_66 (wp_ishl dX1_compute_67 (by omega) ?_)))
      rw [z_o2 ho8]
      refine wp_icmp_ge 82 dX1_compute_68 rfl ⟨by omega, by omega⟩ ⟨by omega, by omega⟩ (fun c68 => ?_) (fun c68 => ?_)
      · skip
        refine w_aload0 dX1_compute_82 (wp_getr 188 dX1_compute_83 fl_RX1_28 is_182 rfl (wp_iconst dX1_compute_86 (w_iload1 dX1_compute_87 (wp_ishl dX1_compute_88 (by omega) (wp_iconst dX1_compute_89 (wp_isub dX1_compute_90 (w_aload0 dX1_compute_91 (wp_getr 188 dX1_compute_92 fl_RX1_28 is_182 rfl (wp_alen dX1_compute_95 is_188 (by decide) ?_)))))))))
        refine wp_iconst dX1_compute_96 (wp_isub dX1_compute_97 (wp_iand dX1_compute_98 (z_o1b ho8) (by omega) (x_aald (2 ^ o - 1) (189 + (2 ^ o - 1)) dX1_compute_99 is_188 (Or.inl rfl) (z_o255 ho8) (by omega) rfl (w_astore2 dX1_compute_100 rfl (by decide) (wp_iconst dX1_compute_101 (w_istore3 dX1_compute_102 rfl (by decide) ?_))))))
        refine w_forget1 ?_
        have hi9 : i = 2 ^ o := by omega
        refine L103 _ 0 _ _ rfl (Nat.zero_le _) rfl hF h10 (fun j hj => by rw [if_neg (Nat.not_lt_zero j)]; exact hw j hj) (fun j hj => hm _ (by omega) j (by omega))
      · skip
        refine w_aload0 dX1_compute_71 (w_iload2 dX1_compute_72 ?_)
        have hi8 : i < 256 := by omega
        have kp : h' 2 0 = p := by rw [hF _ _ (by unfold zFcm; omega)]; exact hp0
        apply v_v1 (M := mX1_compute) dX1_compute_73 lk_RX1_82 mvX1_expand (by decide) meX1_compute is_182 (Nat.le_of_ble_eq_true rfl)
        · refine t_X1_expand (p := p) (E := E) (X := zMi p E (zms Pr N) (zms Pc N)) (R := zms Pr N (zb8 i - 1)) (C := zms Pc N) hvi hi8 ⟨by omega, hp.2⟩ kp (fun h0 => ?_) (fun c hc b => ?_) (fun q hq e he => ?_) (fun c hc b e he => ?_)
          · have w1 := zb8_pos i hi8 h0
            have w2 := zb8_o o ho8 i hi8 (by omega)
            have w3 := zms_lt (P := Pr) N (zb8 i - 1) (by omega)
            exact ⟨hrr _ (by omega), by omega⟩
          · have w2 := zb8_c o ho8 i hi8 (by omega) c hc b
            have w3 := zms_lt (P := Pc) N c (by omega)
            exact ⟨hcl _ (by omega), by omega⟩
          · rw [hF _ _ (by unfold zFcm; omega)]
            exact hE q hq e he
          · have w1 := zb8_x i hi8 c hc b
            exact ⟨hm _ (by omega) e he, zmn_in (by omega) _ _ _⟩
        intro h73 hP73
        replace hP73 := hP73.symm
        subst hP73
        refine w_iinc2 dX1_compute_76 rfl (by decide) (wp_goto 55 dX1_compute_79 rfl ?_)
        refine ih55 _ (by omega) (i + 1) _ _ _ rfl (by omega) (by omega) rfl (fun a j n => ?_) ?_ (fun e he => ?_) (fun k hk => ?_) (fun k hk => ?_) (fun s hs e he => ?_)
        · have n2 := n
          unfold zFcm at n2
          rw [zfl_o (by omega)]
          exact hF a j n
        · rw [zfl_o (by omega)]; exact h10
        · rw [zfl_o (by omega)]; exact hw e he
        · rw [zfl_o (by omega)]; exact hrr k hk
        · rw [zfl_o (by omega)]; exact hcl k hk
        · by_cases e9 : s = i
          · rw [e9] at he ⊢
            rw [zfl_i he]
            by_cases h0 : i = 0
            · rw [if_pos h0, h0, zMi_0]
            · rw [if_neg h0, zMi_s hi8 h0]
          · rw [zfl_o (by omega)]
            exact hm s (by omega) e he
  refine w_aload0 dX1_compute_0 (wp_getz dX1_compute_1 fl_RX1_50 is_182 ?_)
  refine wp_if_eq 8 dX1_compute_4 rfl ⟨by omega, by omega⟩ (fun c4 => ?_) (fun c4 => ?_)
  · skip
    refine w_aload0 dX1_compute_8 (wp_iconst dX1_compute_9 (wp_putz dX1_compute_10 fl_RX1_50 is_182 rfl (by first | exact Or.inl rfl | exact Or.inr rfl) (w_aload0 dX1_compute_13 (wp_getr 78 dX1_compute_14 fl_RX1_40 is_182 rfl (wp_geti dX1_compute_17 fl_RX1_57 is_78 (w_aload0 dX1_compute_20 (wp_getr 186 dX1_compute_21 fl_RX1_21 is_182 rfl ?_)))))))
    rw [show zup h 182 10 1 78 3 = (zmk Pr N : Int) by rw [zup_o (by omega)]; exact hr]
    apply s_i2 (M := mX1_compute) dX1_compute_24 lk_RX1_63 mvX1_listMembers (by decide) meX1_compute (Nat.le_of_ble_eq_true rfl)
    · exact t_X1_listMembers hN rfl is_186
    intro x24 h24 hP24
    obtain ⟨eh24, ex24⟩ := hP24
    subst eh24
    subst ex24
    refine w_aload0 dX1_compute_27 (wp_getr 78 dX1_compute_28 fl_RX1_40 is_182 rfl (wp_geti dX1_compute_31 fl_RX1_67 is_78 (w_aload0 dX1_compute_34 (wp_getr 187 dX1_compute_35 fl_RX1_24 is_182 rfl ?_))))
    rw [show zfl (zup h 182 10 1) 186 (zct Pr N) (fun k => (zms Pr N k : Int)) 78 4 = (zmk Pc N : Int) by rw [zfl_o (by omega), zup_o (by omega)]; exact hc]
    apply s_i2 (M := mX1_compute) dX1_compute_38 lk_RX1_63 mvX1_listMembers (by decide) meX1_compute (Nat.le_of_ble_eq_true rfl)
    · exact t_X1_listMembers hN rfl is_187
    intro x38 h38 hP38
    obtain ⟨eh38, ex38⟩ := hP38
    subst eh38
    subst ex38
    refine x_mmin dX1_compute_41 lk_RX1_70 ⟨by omega, by omega⟩ ⟨by omega, by omega⟩ (by decide) (Nat.le_of_ble_eq_true rfl) meX1_compute (w_istore1 dX1_compute_44 rfl (by decide) (w_aload0 dX1_compute_45 (wp_getr 183 dX1_compute_46 fl_RX1_9 is_182 rfl (wp_iconst dX1_compute_49 ?_))))
    apply s_v2 (M := mX1_compute) dX1_compute_50 lk_RX1_76 mvJ7_fill_53178 (by decide) meX1_compute (Nat.le_of_ble_eq_true rfl)
    · exact t_J7_fill_53178 is_183
    intro h50 hP50
    replace hP50 := hP50.symm
    subst hP50
    refine wp_iconst dX1_compute_53 (w_istore2 dX1_compute_54 rfl (by decide) ?_)
    refine L55 _ 0 _ _ 0 rfl (Nat.zero_le _) rfl (by omega) (fun a j n => ?_) ?_ (fun e he => zfl_i he) (fun k hk => ?_) (fun k hk => ?_) (fun s hs => absurd hs (Nat.not_lt_zero s))
    · unfold zFcm at n
      rw [zfl_o (by omega), zfl_o (by omega), zfl_o (by omega), zup_o (by omega)]
    · rw [zfl_o (by omega), zfl_o (by omega), zfl_o (by omega), zup_s]
    · rw [zfl_o (by omega), zfl_o (by omega), zfl_i hk]
    · rw [zfl_o (by omega), zfl_i hk]
  · skip
    refine r_v dX1_compute_7 rfl meX1_compute ?_
    exact ⟨zFr.rf, by omega, hf.elim (fun q => absurd q (by omega)) (fun q => q.2)⟩
set_option maxRecDepth 100000 in
set_option maxHeartbeats 4000000 in
theorem t_X1_reduce {h : zH} {p : Int} {c : Nat → Nat → Int} (hs : zSt p c) (hP : zPol p c 2 h) (hR : zRo p c h) {W : Nat → Int} (hW : ∀ e, e < 49 → h 183 e = W e ∧ 0 ≤ W e ∧ W e < p) (hf : h 182 11 = 0 ∨ (h 182 11 = 1 ∧ zRd p c W h)) : CV yX1_reduce mX1_reduce [vR 182, vR 141] h (fun h' => zFr zFrd h h' ∧ zRo p c h' ∧ h' 182 11 = 1 ∧ zRd p c W h') := by
  refine inV [some (vR 182), some (vR 141), none, none] mvX1_reduce rfl (Nat.le_of_ble_eq_true rfl) rfl ?_
  have hp := hs.p
  have hpp : 0 < p := by omega
  have L43 : ∀ (zm43 : Nat) (i : Nat) (h' : zH) (vi : Int), p.toNat - i = zm43 → ((i : Int) ≤ p) → (vi = (i : Int)) → (zFr zFrd h h') → (zRo p c h') → (h' 182 11 = 1) → (h' 182 2 = (zmk (zxt p c W) i : Int)) → (∀ e, e < 49 → h' 184 e = zrs p c W i e) → WP mX1_reduce (zMQ mX1_reduce (zKV (fun h' => zFr zFrd h h' ∧ zRo p c h' ∧ h' 182 11 = 1 ∧ zRd p c W h'))) 43 [some (vR 182), some (vR 141), some (vI p), some (vI vi)] [] zN zGR h' := by
    intro zm43
    induction zm43 using Nat.strongRecOn with | _ zm43 ih43 => ?_
    intro i h' vi hzm43 hi hvi hF hR' h11 hm hz
    subst hzm43
    have hP' : zPol p c 2 h' := zPol_eq hP (fun b j hb1 hb2 => hF _ _ (by unfold zFrd zFRo; omega))
    have hW' : ∀ e, e < 49 → h' 183 e = W e := fun e he => by rw [hF _ _ (by unfold zFrd zFRo; omega)]; exact (hW e he).1
    have hWi : zhor vi p 49 (h' 183) = zhor (i : Int) p 49 W := by rw [hvi]; exact zhor_congr 49 _ _ hW'
    have hzb := zhor_in (t := (i : Int)) hpp 49 W
    have hzc := zcn_le hp.2 (c := c) (t := (i : Int))
    refine w_iload3 dX1_reduce_43 (w_iload2 dX1_reduce_44 ?_)
    refine wp_icmp_ge 101 dX1_reduce_45 rfl ⟨by omega, by omega⟩ ⟨by omega, by omega⟩ (fun c45 => ?_) (fun c45 => ?_)
    · skip
      refine w_aload0 dX1_reduce_101 (w_iload2 dX1_reduce_102 ?_)
      apply v_v1 (M := mX1_reduce) dX1_reduce_103 lk_RX1_130 mvX1_divideByLeading (by decide) meX1_reduce is_182 (Nat.le_of_ble_eq_true rfl)
      · exact t_X1_divideByLeading ⟨hpp, hp.2⟩ (fun j hj => by rw [hz j hj]; exact zrs_in hpp (fun e he => (hW e he).2) i j hj)
      intro h103 hP103
      replace hP103 := hP103.symm
      subst hP103
      refine r_v dX1_reduce_106 rfl meX1_reduce ?_
      have hi9 : i = p.toNat := by omega
      refine ⟨fun a j n => ?_, zRo_fr hp.2 hR' (fun a j n => zfl_o (by omega)), by rw [zfl_o (by omega)]; exact h11, by rw [zfl_o (by omega), hm, hi9], fun e he => ?_⟩
      · have n2 := n
        unfold zFrd at n2
        rw [zfl_o (by omega)]; exact hF a j n
      · rw [zfl_i he]
        unfold zmon
        rw [hi9] at hz
        rw [hz e he, ztop_congr 49 hz, hz _ (ztop_lt 49 (by decide))]
    · skip
      refine w_aload0 dX1_reduce_48 (wp_getr 183 dX1_reduce_49 fl_RX1_9 is_182 rfl (w_iload3 dX1_reduce_52 (w_iload2 dX1_reduce_53 ?_)))
      apply s_i3 (M := mX1_reduce) dX1_reduce_54 lk_RX1_119 mvX3_horner (by decide) meX1_reduce (Nat.le_of_ble_eq_true rfl)
      · exact t_X3_horner is_183 ⟨by omega, by omega⟩ ⟨hpp, hp.2⟩ (fun j hj => by rw [hW' j hj]; exact (hW j hj).2)
      intro x54 h54 hP54
      obtain ⟨eh54, ex54⟩ := hP54
      replace eh54 := eh54.symm
      subst eh54
      replace ex54 := ex54.symm
      subst ex54
      refine wp_if_ne 95 dX1_reduce_57 rfl ⟨by omega, by omega⟩ (fun c57 => ?_) (fun c57 => ?_)
      · skip
        refine w_iinc3 dX1_reduce_95 rfl (by decide) (wp_goto 43 dX1_reduce_98 rfl ?_)
        first
        | (have c9 : zhor vi p 49 (h' 183) ≠ 0 := c57
           have n9 : ¬ zxt p c W i := fun q => c9 (hWi.trans q.1)
           refine ih43 _ (by omega) (i + 1) _ _ rfl (by omega) (by omega) hF hR' h11 ?_ ?_
           · rw [zmk_n n9]; exact hm
           · rw [zrs_n n9]; exact hz)
        | (have c9 : ((zcn p c (i : Int) : Nat) : Int) ≠ 0 := c70
           have n9 : ¬ zxt p c W i := fun q => c9 (by rw [q.2]; rfl)
           refine ih43 _ (by omega) (i + 1) _ _ rfl (by omega) (by omega) (fun a j n => ?_) q2 ?_ ?_ (fun e he => ?_)
           · rw [q1 _ _ (fun q => n (Or.inl q))]; exact hF a j n
           · rw [q1 _ _ (by unfold zFRo; omega)]; exact h11
           · rw [q1 _ _ (by unfold zFRo; omega), zmk_n n9]; exact hm
           · rw [q1 _ _ (by unfold zFRo; omega), zrs_n n9]; exact hz e he)
        | (refine ih43 _ (by omega) (i + 1) _ _ rfl (by omega) (by omega) (fun a j n => ?_) ?_ ?_ ?_ (fun e he => ?_)
           · have n2 := n
             unfold zFrd at n2
             rw [zfl_o (by omega), zup_o (by omega), q1 _ _ (fun q => n (Or.inl q))]; exact hF a j n
           · exact zRo_fr hp.2 q2 (fun a j n => by rw [zfl_o (by omega), zup_o (by omega)])
           · rw [zfl_o (by omega), zup_o (by omega), q1 _ _ (by unfold zFRo; omega)]; exact h11
           · rw [zfl_o (by omega), zup_s, hvi, z_or1, zmk_or, zmk_y c9]
           · rw [zfl_i he, zrs_y c9, ← hvi]
             refine (zstr_congr 49 _ _ (fun j hj => ?_)).2 e he
             rw [zup_o (by omega), q1 _ _ (by unfold zFRo; omega)]; exact hz j hj)
      · skip
        refine w_aload1 dX1_reduce_60 (w_iload3 dX1_reduce_61 ?_)
        apply v_v1 (M := mX1_reduce) dX1_reduce_62 lk_RX1_122 mvX6_search (by decide) meX1_reduce is_141 (Nat.le_of_ble_eq_true rfl)
        · exact t_X6_search hvi hs (by omega) hP' hR'
        intro h62 hP62
        obtain ⟨q1, q2, q3⟩ := hP62
        refine w_aload1 dX1_reduce_65 (w_iload3 dX1_reduce_66 ?_)
        apply v_i1 (M := mX1_reduce) dX1_reduce_67 lk_RX1_127 mvX6_countAt (by decide) meX1_reduce is_141 (Nat.le_of_ble_eq_true rfl)
        · exact t_X6_countAt hvi hp (by omega) q3
        intro x67 h67 hP67
        obtain ⟨eh67, ex67⟩ := hP67
        replace eh67 := eh67.symm
        subst eh67
        replace ex67 := ex67.symm
        subst ex67
        refine wp_if_ne 95 dX1_reduce_70 rfl ⟨by omega, by omega⟩ (fun c70 => ?_) (fun c70 => ?_)
        · skip
          refine w_iinc3 dX1_reduce_95 rfl (by decide) (wp_goto 43 dX1_reduce_98 rfl ?_)
          first
          | (have c9 : zhor vi p 49 (h' 183) ≠ 0 := c57
             have n9 : ¬ zxt p c W i := fun q => c9 (hWi.trans q.1)
             refine ih43 _ (by omega) (i + 1) _ _ rfl (by omega) (by omega) hF hR' h11 ?_ ?_
             · rw [zmk_n n9]; exact hm
             · rw [zrs_n n9]; exact hz)
          | (have c9 : ((zcn p c (i : Int) : Nat) : Int) ≠ 0 := c70
             have n9 : ¬ zxt p c W i := fun q => c9 (by rw [q.2]; rfl)
             refine ih43 _ (by omega) (i + 1) _ _ rfl (by omega) (by omega) (fun a j n => ?_) q2 ?_ ?_ (fun e he => ?_)
             · rw [q1 _ _ (fun q => n (Or.inl q))]; exact hF a j n
             · rw [q1 _ _ (by unfold zFRo; omega)]; exact h11
             · rw [q1 _ _ (by unfold zFRo; omega), zmk_n n9]; exact hm
             · rw [q1 _ _ (by unfold zFRo; omega), zrs_n n9]; exact hz e he)
          | (refine ih43 _ (by omega) (i + 1) _ _ rfl (by omega) (by omega) (fun a j n => ?_) ?_ ?_ ?_ (fun e he => ?_)
             · have n2 := n
               unfold zFrd at n2
               rw [zfl_o (by omega), zup_o (by omega), q1 _ _ (fun q => n (Or.inl q))]; exact hF a j n
             · exact zRo_fr hp.2 q2 (fun a j n => by rw [zfl_o (by omega), zup_o (by omega)])
             · rw [zfl_o (by omega), zup_o (by omega), q1 _ _ (by unfold zFRo; omega)]; exact h11
             · rw [zfl_o (by omega), zup_s, hvi, z_or1, zmk_or, zmk_y c9]
             · rw [zfl_i he, zrs_y c9, ← hvi]
               refine (zstr_congr 49 _ _ (fun j hj => ?_)).2 e he
               rw [zup_o (by omega), q1 _ _ (by unfold zFRo; omega)]; exact hz j hj)
        · skip
          refine w_aload0 dX1_reduce_73 (wp_dup dX1_reduce_74 rfl ?_)
          have k2 : h62 182 2 = (zmk (zxt p c W) i : Int) := by rw [q1 _ _ (by unfold zFRo; omega)]; exact hm
          have hmb := zmk_b8 (P := zxt p c W) (i := i) (by omega)
          have c9 : zxt p c W i := ⟨by rw [← hWi]; first | exact c57 | omega, by omega⟩
          refine wp_geti dX1_reduce_75 fl_RX1_116 is_182 (wp_iconst dX1_reduce_78 (w_iload3 dX1_reduce_79 (wp_ishl dX1_reduce_80 (by omega) ?_)))
          rw [k2]
          refine wp_ior dX1_reduce_81 ⟨by omega, by omega⟩ (by rw [hvi]; exact z_1s i (by omega)) (wp_puti dX1_reduce_82 fl_RX1_116 is_182 rfl (w_aload0 dX1_reduce_85 (wp_getr 184 dX1_reduce_86 fl_RX1_15 is_182 rfl (w_iload3 dX1_reduce_89 (w_iload2 dX1_reduce_90 ?_)))))
          apply s_i3 (M := mX1_reduce) dX1_reduce_91 lk_RX1_112 mvX3_strip (by decide) meX1_reduce (Nat.le_of_ble_eq_true rfl)
          · exact t_X3_strip is_184 ⟨by omega, by omega⟩ ⟨hpp, hp.2⟩ (fun j hj => by rw [zup_o (by omega), q1 _ _ (by unfold zFRo; omega), hz j hj]; exact zrs_in hpp (fun e he => (hW e he).2) i j hj)
          intro x91 h91 hP91
          obtain ⟨eh91, ex91⟩ := hP91
          subst eh91
          refine wp_pop dX1_reduce_94 rfl (w_iinc3 dX1_reduce_95 rfl (by decide) (wp_goto 43 dX1_reduce_98 rfl ?_))
          first
          | (have c9 : zhor vi p 49 (h' 183) ≠ 0 := c57
             have n9 : ¬ zxt p c W i := fun q => c9 (hWi.trans q.1)
             refine ih43 _ (by omega) (i + 1) _ _ rfl (by omega) (by omega) hF hR' h11 ?_ ?_
             · rw [zmk_n n9]; exact hm
             · rw [zrs_n n9]; exact hz)
          | (have c9 : ((zcn p c (i : Int) : Nat) : Int) ≠ 0 := c70
             have n9 : ¬ zxt p c W i := fun q => c9 (by rw [q.2]; rfl)
             refine ih43 _ (by omega) (i + 1) _ _ rfl (by omega) (by omega) (fun a j n => ?_) q2 ?_ ?_ (fun e he => ?_)
             · rw [q1 _ _ (fun q => n (Or.inl q))]; exact hF a j n
             · rw [q1 _ _ (by unfold zFRo; omega)]; exact h11
             · rw [q1 _ _ (by unfold zFRo; omega), zmk_n n9]; exact hm
             · rw [q1 _ _ (by unfold zFRo; omega), zrs_n n9]; exact hz e he)
          | (refine ih43 _ (by omega) (i + 1) _ _ rfl (by omega) (by omega) (fun a j n => ?_) ?_ ?_ ?_ (fun e he => ?_)
             · have n2 := n
               unfold zFrd at n2
               rw [zfl_o (by omega), zup_o (by omega), q1 _ _ (fun q => n (Or.inl q))]; exact hF a j n
             · exact zRo_fr hp.2 q2 (fun a j n => by rw [zfl_o (by omega), zup_o (by omega)])
             · rw [zfl_o (by omega), zup_o (by omega), q1 _ _ (by unfold zFRo; omega)]; exact h11
             · rw [zfl_o (by omega), zup_s, hvi, z_or1, zmk_or, zmk_y c9]
             · rw [zfl_i he, zrs_y c9, ← hvi]
               refine (zstr_congr 49 _ _ (fun j hj => ?_)).2 e he
               rw [zup_o (by omega), q1 _ _ (by unfold zFRo; omega)]; exact hz j hj)
  refine w_aload0 dX1_reduce_0 (wp_getz dX1_reduce_1 fl_RX1_54 is_182 ?_)
  refine wp_if_eq 8 dX1_reduce_4 rfl ⟨by omega, by omega⟩ (fun c4 => ?_) (fun c4 => ?_)
  · skip
    refine w_aload0 dX1_reduce_8 (wp_iconst dX1_reduce_9 (wp_putz dX1_reduce_10 fl_RX1_54 is_182 rfl (by first | exact Or.inl rfl | exact Or.inr rfl) (w_aload0 dX1_reduce_13 (wp_iconst dX1_reduce_14 (wp_puti dX1_reduce_15 fl_RX1_116 is_182 rfl (w_aload0 dX1_reduce_18 (wp_getr 2 dX1_reduce_19 fl_RX1_32 is_182 rfl (wp_geti dX1_reduce_22 fl_RX1_98 is_2 ?_))))))))
    rw [show zup (zup h 182 11 1) 182 2 0 2 0 = p by rw [zup_o (by omega), zup_o (by omega)]; exact hP.1]
    refine w_istore2 dX1_reduce_25 rfl (by decide) (w_aload0 dX1_reduce_26 (wp_getr 183 dX1_reduce_27 fl_RX1_9 is_182 rfl (wp_iconst dX1_reduce_30 (w_aload0 dX1_reduce_31 (wp_getr 184 dX1_reduce_32 fl_RX1_15 is_182 rfl (wp_iconst dX1_reduce_35 (wp_bipush dX1_reduce_36 (by decide) (wp_copy dX1_reduce_38 lk_RX1_106 is_184 is_183 ⟨by omega, by omega⟩ ⟨by omega, by omega⟩ (by omega) (by decide) (Nat.le_of_ble_eq_true rfl) (wp_iconst dX1_reduce_41 ?_)))))))))
    refine w_istore3 dX1_reduce_42 rfl (by decide) ?_
    refine L43 _ 0 _ _ rfl (by omega) rfl (fun a j n => ?_) ?_ ?_ ?_ (fun e he => ?_)
    · unfold zFrd at n
      rw [zcpy_a (by omega), zup_o (by omega), zup_o (by omega)]
    · exact zRo_fr hp.2 hR (fun a j n => by rw [zcpy_a (by omega), zup_o (by omega), zup_o (by omega)])
    · rw [zcpy_a (by omega), zup_o (by omega), zup_s]
    · rw [zcpy_a (by omega), zup_s]
      rfl
    · unfold zcpy
      rw [if_pos ⟨rfl, Nat.zero_le _, by show e < 0 + 49; omega⟩, show (0 : Int).toNat + (e - (0 : Int).toNat) = e from by show 0 + (e - 0) = _; omega, zup_o (by omega), zup_o (by omega)]
      exact (hW e he).1
  · skip
    refine r_v dX1_reduce_7 rfl meX1_reduce ?_
    exact ⟨zFr.rf, hR, by omega, hf.elim (fun q => absurd q (by omega)) (fun q => q.2)⟩
