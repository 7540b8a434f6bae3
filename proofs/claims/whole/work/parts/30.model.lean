
/-! ===== congruence ===== -/
def zcg (p a b : Int) : Prop := ∃ k, a = b + p * k
theorem zcg.rf {p a : Int} : zcg p a a := ⟨0, by omega⟩
theorem zcg.of {p a b : Int} (h : a = b) : zcg p a b := ⟨0, by omega⟩
theorem zcg.sy {p a b : Int} (h : zcg p a b) : zcg p b a := by
  obtain ⟨k, hk⟩ := h
  exact ⟨-k, by grind⟩
theorem zcg.tr {p a b c : Int} (h : zcg p a b) (h2 : zcg p b c) : zcg p a c := by
  obtain ⟨k, hk⟩ := h
  obtain ⟨l, hl⟩ := h2
  exact ⟨k + l, by grind⟩
theorem zcg.ad {p a b c d : Int} (h : zcg p a b) (h2 : zcg p c d) : zcg p (a + c) (b + d) := by
  obtain ⟨k, hk⟩ := h
  obtain ⟨l, hl⟩ := h2
  exact ⟨k + l, by grind⟩
theorem zcg.sb {p a b c d : Int} (h : zcg p a b) (h2 : zcg p c d) : zcg p (a - c) (b - d) := by
  obtain ⟨k, hk⟩ := h
  obtain ⟨l, hl⟩ := h2
  exact ⟨k - l, by grind⟩
theorem zcg.ml {p a b c d : Int} (h : zcg p a b) (h2 : zcg p c d) : zcg p (a * c) (b * d) := by
  obtain ⟨k, hk⟩ := h
  obtain ⟨l, hl⟩ := h2
  exact ⟨k * d + b * l + p * (k * l), by grind⟩
theorem zcg.md {p a : Int} : zcg p (a % p) a := ⟨-(a / p), by have := Int.emod_def a p; grind⟩
theorem zcg.em {p a b : Int} (h : zcg p a b) : a % p = b % p := by
  obtain ⟨k, hk⟩ := h
  rw [hk, Int.add_mul_emod_self_left]
theorem zcg.of_em {p a b : Int} (h : a % p = b % p) : zcg p a b := (zcg.md.sy).tr ((zcg.of h).tr zcg.md)
theorem zcg.inj {p a b : Int} (h : zcg p a b) (ha : 0 ≤ a ∧ a < p) (hb : 0 ≤ b ∧ b < p) : a = b := by
  have := h.em
  rw [Int.emod_eq_of_lt ha.1 ha.2, Int.emod_eq_of_lt hb.1 hb.2] at this
  exact this
theorem zcg.si {p : Int} {f g : Nat → Int} : ∀ n, (∀ i, i < n → zcg p (f i) (g i)) → zcg p (zsi f n) (zsi g n) := by
  intro n
  induction n with
  | zero => intro _; exact zcg.rf
  | succ n ih =>
    intro h
    exact (ih (fun i hi => h i (by omega))).ad (h n (by omega))
theorem zhor3 {p x : Int} {f : Nat → Int} : zcg p (zhor x p 3 f) (f 0 + x * (f 1 + x * f 2)) := by
  have h2 : zcg p (zhor x p 1 (fun e => f (e + 2))) (f 2) := zcg.md.tr (zcg.of (by show (0 : Int) * x + f (0 + 2) = f 2; rw [Int.zero_mul, Int.zero_add]))
  have h1 : zcg p (zhor x p 2 (fun e => f (e + 1))) (f 2 * x + f 1) := zcg.md.tr ((h2.ml zcg.rf).ad (zcg.of rfl))
  exact (zcg.md.tr ((h1.ml zcg.rf).ad (zcg.of rfl))).tr (zcg.of (by grind))
/-- the powers that the model takes -/
def zpow (p v : Int) (e : Nat) : Int := if e = 0 then 1 else if e = 1 then v else v * v % p
theorem zpow_in {p v : Int} (hp : 1 < p) (hv : 0 ≤ v ∧ v < p) (e : Nat) : 0 ≤ zpow p v e ∧ zpow p v e < p := by
  unfold zpow
  split
  · omega
  · split
    · exact hv
    · exact z_mod (by omega) _
def zvC (p : Int) (c : Nat → Nat → Int) (k : Nat) (x y t : Int) (i j e : Nat) : Int := c k (9 * i + 3 * j + e) * ((zpow p x i * zpow p y j % p) * zpow p t e % p)
def zvB (p : Int) (c : Nat → Nat → Int) (k : Nat) (x y t : Int) (i j : Nat) : Int := zsi (zvC p c k x y t i j) 3
def zvA (p : Int) (c : Nat → Nat → Int) (k : Nat) (x y t : Int) (i : Nat) : Int := zsi (zvB p c k x y t i) 3
theorem zvC_b {p : Int} {c : Nat → Nat → Int} (hs : zSt p c) {k : Nat} {x y t : Int} {i j e : Nat} : -900 ≤ zvC p c k x y t i j e ∧ zvC p c k x y t i j e ≤ 900 := by
  have hp := hs.p
  have h := z_mb (hs.2 k (9 * i + 3 * j + e)) (z_mod (by omega) ((zpow p x i * zpow p y j % p) * zpow p t e)) hp.2
  unfold zvC
  omega
theorem zvB_b {p : Int} {c : Nat → Nat → Int} (hs : zSt p c) {k : Nat} {x y t : Int} {i j n : Nat} (hn : n ≤ 3) : -2700 ≤ zsi (zvC p c k x y t i j) n ∧ zsi (zvC p c k x y t i j) n ≤ 2700 := by
  have := zsi_bdN (f := zvC p c k x y t i j) (M := 900) hn (fun e _ => zvC_b hs) (by decide)
  omega
theorem zvA_b {p : Int} {c : Nat → Nat → Int} (hs : zSt p c) {k : Nat} {x y t : Int} {i n : Nat} (hn : n ≤ 3) : -8100 ≤ zsi (zvB p c k x y t i) n ∧ zsi (zvB p c k x y t i) n ≤ 8100 := by
  have := zsi_bdN (f := zvB p c k x y t i) (M := 2700) hn (fun j _ => zvB_b hs (Nat.le_refl _)) (by decide)
  omega
theorem zv_b {p : Int} {c : Nat → Nat → Int} (hs : zSt p c) {k : Nat} {x y t : Int} {n : Nat} (hn : n ≤ 3) : -24300 ≤ zsi (zvA p c k x y t) n ∧ zsi (zvA p c k x y t) n ≤ 24300 := by
  have := zsi_bdN (f := zvA p c k x y t) (M := 8100) hn (fun j _ => zvA_b hs (Nat.le_refl _)) (by decide)
  omega
theorem zpow_cg {p v : Int} : zcg p (zpow p v 0) 1 ∧ zcg p (zpow p v 1) v ∧ zcg p (zpow p v 2) (v * v) := ⟨zcg.rf, zcg.rf, zcg.md⟩
theorem zcut_cg {p : Int} {c : Nat → Nat → Int} {k w : Nat} {t : Int} : zcg p (zcut p c k w t) (c k (3 * w) + t * (c k (3 * w + 1) + t * c k (3 * w + 2))) := zcg.md
theorem zsi3 (f : Nat → Int) : zsi f 3 = f 0 + f 1 + f 2 := by
  show 0 + f 0 + f 1 + f 2 = _
  omega
theorem zvB_cg {p : Int} {c : Nat → Nat → Int} {k : Nat} {x y t X Y : Int} {i j : Nat} (hX : zcg p (zpow p x i) X) (hY : zcg p (zpow p y j) Y) : zcg p (zvB p c k x y t i j) (X * Y * (c k (3 * (3 * i + j)) + t * (c k (3 * (3 * i + j) + 1) + t * c k (3 * (3 * i + j) + 2)))) := by
  have hXY := (zcg.md (p := p) (a := zpow p x i * zpow p y j)).tr (hX.ml hY)
  obtain ⟨t0, t1, t2⟩ := zpow_cg (p := p) (v := t)
  have g : ∀ e T, zcg p (zpow p t e) T → zcg p (zvC p c k x y t i j e) (c k (9 * i + 3 * j + e) * (X * Y * T)) := fun e T hT => zcg.rf.ml (zcg.md.tr (hXY.ml hT))
  unfold zvB
  rw [zsi3]
  refine (((g 0 1 t0).ad (g 1 t t1)).ad (g 2 (t * t) t2)).tr (zcg.of ?_)
  rw [show 9 * i + 3 * j + 0 = 3 * (3 * i + j) by omega, show 9 * i + 3 * j + 1 = 3 * (3 * i + j) + 1 by omega, show 9 * i + 3 * j + 2 = 3 * (3 * i + j) + 2 by omega]
  generalize c k (3 * (3 * i + j)) = A
  generalize c k (3 * (3 * i + j) + 1) = B
  generalize c k (3 * (3 * i + j) + 2) = C
  grind
theorem zval_m {p : Int} (hp : 0 < p) {c : Nat → Nat → Int} {k : Nat} {x y t : Int} : zsi (zvA p c k x y t) 3 % p = zval p c k x y t := by
  obtain ⟨x0, x1, x2⟩ := zpow_cg (p := p) (v := x)
  obtain ⟨y0, y1, y2⟩ := zpow_cg (p := p) (v := y)
  have hA : ∀ i X, zcg p (zpow p x i) X → zcg p (zvA p c k x y t i) (X * zhor y p 3 (fun j => zcut p c k (3 * i + j) t)) := by
    intro i X hX
    have h1 : zcg p (zvA p c k x y t i) (X * 1 * (c k (3 * (3 * i + 0)) + t * (c k (3 * (3 * i + 0) + 1) + t * c k (3 * (3 * i + 0) + 2))) + X * y * (c k (3 * (3 * i + 1)) + t * (c k (3 * (3 * i + 1) + 1) + t * c k (3 * (3 * i + 1) + 2))) + X * (y * y) * (c k (3 * (3 * i + 2)) + t * (c k (3 * (3 * i + 2) + 1) + t * c k (3 * (3 * i + 2) + 2)))) := by
      unfold zvA
      rw [zsi3]
      exact ((zvB_cg hX y0).ad (zvB_cg hX y1)).ad (zvB_cg hX y2)
    have h2 : zcg p (zhor y p 3 (fun j => zcut p c k (3 * i + j) t)) (_ + y * (_ + y * _)) := zhor3.tr (zcut_cg.ad (zcg.rf.ml (zcut_cg.ad (zcg.rf.ml zcut_cg))))
    refine h1.tr (zcg.sy ((zcg.rf.ml h2).tr (zcg.of ?_)))
    generalize c k (3 * (3 * i + 0)) = a0
    generalize c k (3 * (3 * i + 0) + 1) = a1
    generalize c k (3 * (3 * i + 0) + 2) = a2
    generalize c k (3 * (3 * i + 1)) = b0
    generalize c k (3 * (3 * i + 1) + 1) = b1
    generalize c k (3 * (3 * i + 1) + 2) = b2
    generalize c k (3 * (3 * i + 2)) = d0
    generalize c k (3 * (3 * i + 2) + 1) = d1
    generalize c k (3 * (3 * i + 2) + 2) = d2
    grind
  have h3 : zcg p (zsi (zvA p c k x y t) 3) (zval p c k x y t) := by
    rw [zsi3]
    refine (((hA 0 1 x0).ad (hA 1 x x1)).ad (hA 2 (x * x) x2)).tr (zcg.sy ((zhor3 (x := x) (f := fun i => zhor y p 3 (fun j => zcut p c k (3 * i + j) t))).tr (zcg.of ?_)))
    try dsimp only
    generalize zhor y p 3 (fun j => zcut p c k (3 * 0 + j) t) = a0
    generalize zhor y p 3 (fun j => zcut p c k (3 * 1 + j) t) = a1
    generalize zhor y p 3 (fun j => zcut p c k (3 * 2 + j) t) = a2
    grind
  have h4 := zhor_in (t := x) hp 3 (fun i => zhor y p 3 (fun j => zcut p c k (3 * i + j) t))
  exact ((zcg.md.tr h3).inj (z_mod hp _) h4)
theorem zcut_m {p : Int} {c : Nat → Nat → Int} {k i j : Nat} {t : Int} : (c k (9 * i + 3 * j + 0) + c k (9 * i + 3 * j + 1) * t + c k (9 * i + 3 * j + 2) * (t * t % p)) % p = zcut p c k (3 * i + j) t := by
  unfold zcut
  rw [show 9 * i + 3 * j + 0 = 3 * (3 * i + j) by omega, show 9 * i + 3 * j + 1 = 3 * (3 * i + j) + 1 by omega, show 9 * i + 3 * j + 2 = 3 * (3 * i + j) + 2 by omega]
  refine zcg.em (((zcg.rf.ad zcg.rf).ad (zcg.rf.ml zcg.md)).tr (zcg.of ?_))
  generalize c k (3 * (3 * i + j)) = A
  generalize c k (3 * (3 * i + j) + 1) = B
  generalize c k (3 * (3 * i + j) + 2) = C
  grind
/-- an inverse is the only one -/
theorem z_invu {p v w u : Int} (hw : 0 ≤ w ∧ w < p) (hu : 0 ≤ u ∧ u < p) (h1 : v * w % p = 1) (h2 : v * u % p = 1) : w = u := by
  have a1 : zcg p (v * w) 1 := zcg.md.sy.tr (zcg.of h1)
  have a2 : zcg p (v * u) 1 := zcg.md.sy.tr (zcg.of h2)
  have b1 : zcg p (w * (v * u)) (w * 1) := zcg.rf.ml a2
  have b2 : zcg p (u * (v * w)) (u * 1) := zcg.rf.ml a1
  have e : w * (v * u) = u * (v * w) := by grind
  rw [e] at b1
  exact (((zcg.of (Int.mul_one w).symm).tr b1.sy).tr (b2.tr (zcg.of (Int.mul_one u)))).inj hw hu
theorem zinvS_ok {x p : Int} : ∀ k, zinvS x p k ≠ 0 → x * zinvS x p k % p = 1 := by
  intro k
  induction k with
  | zero => intro h; exact absurd rfl h
  | succ k ih =>
    intro h
    unfold zinvS at h ⊢
    split
    · next q => exact ih q
    · next q =>
      rw [if_neg q] at h
      split
      · assumption
      · next q2 =>
        rw [if_neg q2] at h
        exact absurd rfl h
def zgN (c : Nat → Nat → Int) (v : Nat) : Nat → Nat
  | 0 => 0
  | k + 1 => max (zgN c v k) (zdeg (c k) v 27)
theorem zgN_3 {c : Nat → Nat → Int} {v : Nat} : zgN c v 3 = zgd c v := by
  unfold zgd
  show max (max (max 0 (zdeg (c 0) v 27)) (zdeg (c 1) v 27)) (zdeg (c 2) v 27) = max (zdeg (c 0) v 27) (max (zdeg (c 1) v 27) (zdeg (c 2) v 27))
  omega
theorem zsd_mn {c : Nat → Nat → Int} : zsd c ≠ 0 ↔ 0 < zgd c 0 ∧ 0 < zgd c 1 := by
  constructor
  · intro h
    unfold zsd at h
    split at h
    · omega
    · exact absurd rfl h
  · intro h
    have g0 := zgd_le c 0
    unfold zsd
    rw [if_pos (by omega)]
    rcases (show zgd c 0 = 1 ∨ zgd c 0 = 2 by omega) with e | e <;> rw [e] <;> omega
theorem zsd_v {c : Nat → Nat → Int} (h : zsd c ≠ 0) : zsd c = 2 * zgd c 0 * zgd c 1 := by
  have := zsd_mn.mp h
  unfold zsd
  rw [if_pos (by omega)]
/-! ===== the model's world: cells from 445 ===== -/
def zMr (p : Int) (c : Nat → Nat → Int) (h : zH) : Prop := h 446 0 = p ∧ ∀ k, k < 3 → ∀ j, j < 27 → h 446 (1 + 27 * k + j) = c k j
theorem zMr_fr {p : Int} {c : Nat → Nat → Int} {h h' : zH} (H : zMr p c h) (e : ∀ j, j < 82 → h' 446 j = h 446 j) : zMr p c h' := ⟨by rw [e _ (by omega)]; exact H.1, fun k hk j hj => by rw [e _ (by omega)]; exact H.2 k hk j hj⟩
def zbk (q : Int × (Nat → Nat → Int)) (s : Nat) (h : zH) : Prop := h 447 (82 * s) = q.1 ∧ ∀ k, k < 3 → ∀ j, j < 27 → h 447 (82 * s + (1 + 27 * k + j)) = q.2 k j
def zMb (hs : List (Int × (Nat → Nat → Int))) (h : zH) : Prop := h 445 2 = (hs.length : Int) ∧ hs.length ≤ 8 ∧ ∀ i q, hs[i]? = some q → zbk q (hs.length - 1 - i) h
theorem zMb_fr {hs : List (Int × (Nat → Nat → Int))} {h h' : zH} (H : zMb hs h) (e : ∀ a j, (a = 445 ∧ j = 2) ∨ a = 447 → h' a j = h a j) : zMb hs h' := ⟨by rw [e _ _ (by omega)]; exact H.1, H.2.1, fun i q hq => by
  have := H.2.2 i q hq
  exact ⟨by rw [e _ _ (by omega)]; exact this.1, fun k hk j hj => by rw [e _ _ (by omega)]; exact this.2 k hk j hj⟩⟩
/-- the text, read up to i -/
def zTy (tx : Nat → Int) (L i : Nat) (h : zH) : Prop := h 445 4 = (L : Int) ∧ L ≤ 60 ∧ h 445 5 = (i : Int) ∧ i ≤ L ∧ ∀ j, j < L → h 448 j = tx j ∧ 0 ≤ tx j ∧ tx j < 200
theorem zTy_up {tx : Nat → Int} {L i : Nat} {h : zH} (H : zTy tx L i h) {i' : Nat} (hi : i' ≤ L) : zTy tx L i' (zup h 445 5 (i' : Int)) := by
  obtain ⟨h1, h2, h3, h4, h5⟩ := H
  refine ⟨by rw [zup_o (by omega)]; exact h1, h2, zup_s, hi, fun j hj => ?_⟩
  rw [zup_o (by omega)]
  exact h5 j hj
/-- what stands here, for the model -/
def zhr (tx : Nat → Int) (L i : Nat) : Int := if i < L then tx i else -9
theorem zhr_pk {tx : Nat → Int} {L i : Nat} : (i < L → zhr tx L i = tx i ∧ zpeek tx L i = tx i) ∧ (¬ i < L → zhr tx L i = -9 ∧ zpeek tx L i = -1) := ⟨fun h => ⟨if_pos h, if_pos h⟩, fun h => ⟨if_neg h, if_neg h⟩⟩
theorem zTy_c {tx : Nat → Int} {L i : Nat} {h : zH} (H : zTy tx L i h) (q : Nat) : (q < L ∧ zhr tx L q = tx q ∧ zpeek tx L q = tx q ∧ 0 ≤ tx q ∧ tx q < 200) ∨ (L ≤ q ∧ zhr tx L q = -9 ∧ zpeek tx L q = -1) := by
  by_cases w : q < L
  · exact Or.inl ⟨w, (zhr_pk.1 w).1, (zhr_pk.1 w).2, (H.2.2.2.2 q w).2⟩
  · exact Or.inr ⟨by omega, (zhr_pk.2 w).1, (zhr_pk.2 w).2⟩

theorem zgN_le {c : Nat → Nat → Int} {v : Nat} : ∀ k, zgN c v k ≤ 2 := by
  intro k
  induction k with
  | zero => exact Nat.zero_le _
  | succ k ih =>
    have := zdeg_le (f := c k) (v := v) 27 (Nat.le_refl _)
    show max (zgN c v k) (zdeg (c k) v 27) ≤ 2
    omega

theorem zsi_nn {f : Nat → Int} : ∀ n, (∀ i, i < n → 0 ≤ f i) → 0 ≤ zsi f n := by
  intro n
  induction n with
  | zero => intro _; exact Int.le_refl 0
  | succ n ih =>
    intro h
    have h1 := ih (fun i hi => h i (by omega))
    have h2 := h n (by omega)
    show 0 ≤ zsi f n + f n
    omega

set_option maxRecDepth 100000 in
set_option maxHeartbeats 4000000 in
theorem t_X10_in {h : zH} {v lo hi : Int} (zv1 : zin v) (zl : zin lo) (zh : zin hi) : CI yX10_in mX10_in [vI v, vI lo, vI hi] h (fun r h' => h' = h ∧ (r = 0 ∨ r = 1) ∧ (r = 1 ↔ lo ≤ v ∧ v ≤ hi)) := by
  refine inS [some (vI v), some (vI lo), some (vI hi)] mvX10_in rfl (Nat.le_of_ble_eq_true rfl) rfl ?_
  have a1 := zv1.1
  have a2 := zv1.2
  have a3 := zl.1
  have a4 := zl.2
  have a5 := zh.1
  have a6 := zh.2
  have L15 : ∀ (w : Int), ((w = 0 ∨ w = 1) ∧ (w = 1 ↔ lo ≤ v ∧ v ≤ hi)) → WP mX10_in (zMQ mX10_in (zKI (fun r h' => h' = h ∧ (r = 0 ∨ r = 1) ∧ (r = 1 ↔ lo ≤ v ∧ v ≤ hi)))) 15 [none, none, none] [vI w] zN zGR h := by
    intro w hv
    refine r_z dX10_in_15 rfl meX10_in (by first | exact Or.inl rfl | exact Or.inr rfl | omega) ?_
    exact ⟨rfl, hv⟩
  refine w_iload0 dX10_in_0 (w_iload1 dX10_in_1 ?_)
  refine wp_icmp_lt 14 dX10_in_2 rfl ⟨by omega, by omega⟩ ⟨by omega, by omega⟩ (fun c2 => ?_) (fun c2 => ?_)
  · skip
    refine wp_iconst dX10_in_14 ?_
    refine w_forget0 ?_
    refine w_forget1 ?_
    refine w_forget2 ?_
    exact L15 _ (by omega)
  · skip
    refine w_iload0 dX10_in_5 (w_iload2 dX10_in_6 ?_)
    refine wp_icmp_gt 14 dX10_in_7 rfl ⟨by omega, by omega⟩ ⟨by omega, by omega⟩ (fun c7 => ?_) (fun c7 => ?_)
    · skip
      refine wp_iconst dX10_in_14 ?_
      refine w_forget0 ?_
      refine w_forget1 ?_
      refine w_forget2 ?_
      exact L15 _ (by omega)
    · skip
      refine wp_iconst dX10_in_10 (wp_goto 15 dX10_in_11 rfl ?_)
      refine w_forget0 ?_
      refine w_forget1 ?_
      refine w_forget2 ?_
      exact L15 _ (by omega)
set_option maxRecDepth 100000 in
set_option maxHeartbeats 4000000 in
theorem t_X10_p {h : zH} {p : Int} (hp0 : h 446 0 = p) : CI yX10_p mX10_p [vR 445] h (fun r h' => h' = h ∧ r = p) := by
  refine inV [some (vR 445)] mvX10_p rfl (Nat.le_of_ble_eq_true rfl) rfl ?_
  refine w_aload0 dX10_p_0 (wp_getr 446 dX10_p_1 fl_RX10_7 is_445 rfl (wp_iconst dX10_p_4 (x_iald 0 dX10_p_5 is_446 rfl (by decide) ?_)))
  refine r_i dX10_p_6 rfl meX10_p ?_
  exact ⟨rfl, hp0⟩
set_option maxRecDepth 100000 in
set_option maxHeartbeats 4000000 in
theorem t_X10_mod {h : zH} {x p : Int} (hx : zin x) (hp : 5 ≤ p ∧ p ≤ 31) (hp0 : h 446 0 = p) : CI yX10_mod mX10_mod [vR 445, vI x] h (fun r h' => h' = h ∧ r = x % p) := by
  refine inV [some (vR 445), some (vI x), none] mvX10_mod rfl (Nat.le_of_ble_eq_true rfl) rfl ?_
  have hpp : 0 < p := by omega
  have hb := tmod_bounds (a := x) hpp
  have hx1 := hx.1
  have hx2 := hx.2
  refine w_iload1 dX10_mod_0 (w_aload0 dX10_mod_1 ?_)
  apply v_i0 (M := mX10_mod) dX10_mod_2 lk_RX10_76 mvX10_p (by decide) meX10_mod is_445 (Nat.le_of_ble_eq_true rfl)
  · exact t_X10_p hp0
  intro x2 h2 hP2
  obtain ⟨eh2, ex2⟩ := hP2
  replace eh2 := eh2.symm
  subst eh2
  replace ex2 := ex2.symm
  subst ex2
  refine wp_iremT dX10_mod_5 ⟨by omega, by omega⟩ (by omega) (w_istore2 dX10_mod_6 rfl (by decide) (w_iload2 dX10_mod_7 ?_))
  refine wp_if_ge 20 dX10_mod_8 rfl ⟨by omega, by omega⟩ (fun c8 => ?_) (fun c8 => ?_)
  · skip
    refine w_iload2 dX10_mod_20 ?_
    refine r_i dX10_mod_21 rfl meX10_mod ?_
    refine ⟨rfl, ?_⟩
    first | exact z_tmod_pos hpp (by omega) | exact z_tmod_neg hpp (by omega)
  · skip
    refine w_iload2 dX10_mod_11 (w_aload0 dX10_mod_12 ?_)
    apply v_i0 (M := mX10_mod) dX10_mod_13 lk_RX10_76 mvX10_p (by decide) meX10_mod is_445 (Nat.le_of_ble_eq_true rfl)
    · exact t_X10_p hp0
    intro x13 h13 hP13
    obtain ⟨eh13, ex13⟩ := hP13
    replace eh13 := eh13.symm
    subst eh13
    replace ex13 := ex13.symm
    subst ex13
    refine wp_iadd dX10_mod_16 (wp_goto 21 dX10_mod_17 rfl ?_)
    refine r_i dX10_mod_21 rfl meX10_mod ?_
    refine ⟨rfl, ?_⟩
    first | exact z_tmod_pos hpp (by omega) | exact z_tmod_neg hpp (by omega)
set_option maxRecDepth 100000 in
set_option maxHeartbeats 4000000 in
theorem t_X10_isNumber {h : zH} {v p : Int} (zv1 : zin v) (hp : 5 ≤ p ∧ p ≤ 31) (hp0 : h 446 0 = p) : CI yX10_isNumber mX10_isNumber [vR 445, vI v] h (fun r h' => h' = h ∧ (r = 0 ∨ r = 1) ∧ (r = 1 ↔ 0 ≤ v ∧ v < p)) := by
  refine inV [some (vR 445), some (vI v)] mvX10_isNumber rfl (Nat.le_of_ble_eq_true rfl) rfl ?_
  refine w_iload1 dX10_isNumber_0 (wp_iconst dX10_isNumber_1 (w_aload0 dX10_isNumber_2 ?_))
  apply v_i0 (M := mX10_isNumber) dX10_isNumber_3 lk_RX10_76 mvX10_p (by decide) meX10_isNumber is_445 (Nat.le_of_ble_eq_true rfl)
  · exact t_X10_p hp0
  intro x3 h3 hP3
  obtain ⟨eh3, ex3⟩ := hP3
  replace eh3 := eh3.symm
  subst eh3
  replace ex3 := ex3.symm
  subst ex3
  refine wp_iconst dX10_isNumber_6 (wp_isub dX10_isNumber_7 ?_)
  apply s_i3 (M := mX10_isNumber) dX10_isNumber_8 lk_RX10_80 mvX10_in (by decide) meX10_isNumber (Nat.le_of_ble_eq_true rfl)
  · exact t_X10_in zv1 ⟨by decide, by decide⟩ ⟨by omega, by omega⟩
  intro x8 h8 hP8
  obtain ⟨eh8, hP8⟩ := hP8
  replace eh8 := eh8.symm
  subst eh8
  refine r_z dX10_isNumber_11 rfl meX10_isNumber hP8.1 ?_
  exact ⟨rfl, hP8.1, by omega⟩
set_option maxRecDepth 100000 in
set_option maxHeartbeats 4000000 in
theorem t_X10_at {h : zH} {k i j e : Int} : CI yX10_at mX10_at [vI k, vI i, vI j, vI e] h (fun r h' => h' = h ∧ r = 1 + 27 * k + 9 * i + 3 * j + e) := by
  refine inS [some (vI k), some (vI i), some (vI j), some (vI e)] mvX10_at rfl (Nat.le_of_ble_eq_true rfl) rfl ?_
  refine wp_iconst dX10_at_0 (wp_bipush dX10_at_1 (by decide) (w_iload0 dX10_at_3 (wp_imul dX10_at_4 (wp_iadd dX10_at_5 (wp_bipush dX10_at_6 (by decide) (w_iload1 dX10_at_8 (wp_imul dX10_at_9 (wp_iadd dX10_at_10 (wp_iconst dX10_at_11 ?_)))))))))
  refine w_iload2 dX10_at_12 (wp_imul dX10_at_13 (wp_iadd dX10_at_14 (w_iload3 dX10_at_15 (wp_iadd dX10_at_16 ?_))))
  refine r_i dX10_at_17 rfl meX10_at ?_
  exact ⟨rfl, rfl⟩
set_option maxRecDepth 100000 in
set_option maxHeartbeats 4000000 in
theorem t_X10_of {h : zH} {kk ii jj ee : Int} {k w : Nat} (hk : kk = k) (hk3 : k < 3) (hw : 9 * ii + 3 * jj + ee = w) (hw3 : w < 27) {p : Int} {c : Nat → Nat → Int} (hR : zMr p c h) : CI yX10_of mX10_of [vR 445, vI kk, vI ii, vI jj, vI ee] h (fun r h' => h' = h ∧ r = c k w) := by
  refine inV [some (vR 445), some (vI kk), some (vI ii), some (vI jj), some (vI ee)] mvX10_of rfl (Nat.le_of_ble_eq_true rfl) rfl ?_
  refine w_aload0 dX10_of_0 (wp_getr 446 dX10_of_1 fl_RX10_7 is_445 rfl (w_iload1 dX10_of_4 (w_iload2 dX10_of_5 (w_iload3 dX10_of_6 (w_iload4 dX10_of_7 ?_)))))
  apply s_i4 (M := mX10_of) dX10_of_9 lk_RX10_84 mvX10_at (by decide) meX10_of (Nat.le_of_ble_eq_true rfl)
  · exact t_X10_at
  intro x9 h9 hP9
  obtain ⟨eh9, ex9⟩ := hP9
  replace eh9 := eh9.symm
  subst eh9
  replace ex9 := ex9.symm
  subst ex9
  refine x_iald (1 + 27 * k + w) dX10_of_12 is_446 (by omega) (by omega) ?_
  refine r_i dX10_of_13 rfl meX10_of ?_
  exact ⟨rfl, hR.2 k hk3 w hw3⟩
set_option maxRecDepth 100000 in
set_option maxHeartbeats 4000000 in
theorem t_X10_inverse {h : zH} {v p : Int} (hv : 0 ≤ v ∧ v < 1000) (hp : 5 ≤ p ∧ p ≤ 31) (hp0 : h 446 0 = p) : CI yX10_inverse mX10_inverse [vR 445, vI v] h (fun r h' => h' = h ∧ r = zinv v p) := by
  refine inV [some (vR 445), some (vI v), none, none] mvX10_inverse rfl (Nat.le_of_ble_eq_true rfl) rfl ?_
  have L4 : ∀ (zm4 : Nat) (i : Nat) (s : Int), p.toNat - i = zm4 → (1 ≤ i ∧ (i : Int) ≤ p) → (s = zinvS v p (i - 1)) → WP mX10_inverse (zMQ mX10_inverse (zKI (fun r h' => h' = h ∧ r = zinv v p))) 4 [some (vR 445), some (vI v), some (vI s), some (vI (i : Int))] [] zN zGR h := by
    intro zm4
    induction zm4 using Nat.strongRecOn with | _ zm4 ih4 => ?_
    intro i s hzm4 hi hs
    subst hzm4
    have hsb := zinvS_in v p (i - 1)
    have hvb : 0 ≤ v * (i : Int) ∧ v * (i : Int) < 1000000 := by
      refine ⟨Int.mul_nonneg hv.1 (by omega), ?_⟩
      have h1 : v * (i : Int) ≤ 999 * (i : Int) := Int.mul_le_mul_of_nonneg_right (by omega) (by omega)
      omega
    have hvm := z_mod (by omega) (x := v * (i : Int)) (p := p)
    have L29 : ∀ (u : Int), ((i : Int) < p) → (u = if v * (i : Int) % p = 1 then (i : Int) else s) → WP mX10_inverse (zMQ mX10_inverse (zKI (fun r h' => h' = h ∧ r = zinv v p))) 29 [some (vR 445), some (vI v), none, some (vI (i : Int))] [vI u] zN zGR h := by
      intro u hip hu
      refine w_istore2 dX10_inverse_29 rfl (by decide) (w_iinc3 dX10_inverse_30 rfl (by decide) (wp_goto 4 dX10_inverse_33 rfl ?_))
      refine ih4 _ (by omega) (i + 1) _ rfl ⟨by omega, by omega⟩ ?_
      rw [hu, show i + 1 - 1 = i - 1 + 1 by omega]
      show _ = (if zinvS v p (i - 1) ≠ 0 then zinvS v p (i - 1) else if v * ((i - 1 + 1 : Nat) : Int) % p = 1 then ((i - 1 + 1 : Nat) : Int) else 0)
      rw [show i - 1 + 1 = i by omega]
      by_cases q : v * (i : Int) % p = 1
      · rw [if_pos q, if_pos q]
        by_cases q2 : zinvS v p (i - 1) ≠ 0
        · have q3 := z_invu (w := zinvS v p (i - 1)) (u := (i : Int)) (by omega) (by omega) (zinvS_ok _ q2) q
          exact absurd q3 (by omega)
        · rw [if_neg q2]
      · rw [if_neg q, if_neg q, hs]
        by_cases q2 : zinvS v p (i - 1) ≠ 0
        · rw [if_pos q2]
        · rw [if_neg q2]
          exact Classical.not_not.mp q2
    refine w_iload3 dX10_inverse_4 (w_aload0 dX10_inverse_5 ?_)
    apply v_i0 (M := mX10_inverse) dX10_inverse_6 lk_RX10_76 mvX10_p (by decide) meX10_inverse is_445 (Nat.le_of_ble_eq_true rfl)
    · exact t_X10_p hp0
    intro x6 h6 hP6
    obtain ⟨eh6, ex6⟩ := hP6
    replace eh6 := eh6.symm
    subst eh6
    replace ex6 := ex6.symm
    subst ex6
    refine wp_icmp_ge 36 dX10_inverse_9 rfl ⟨by omega, by omega⟩ ⟨by omega, by omega⟩ (fun c9 => ?_) (fun c9 => ?_)
    · skip
      refine w_iload2 dX10_inverse_36 ?_
      refine r_i dX10_inverse_37 rfl meX10_inverse ?_
      refine ⟨rfl, ?_⟩
      unfold zinv
      rw [hs, show p.toNat - 1 = i - 1 by omega]
    · skip
      refine w_iload1 dX10_inverse_12 (w_iload3 dX10_inverse_13 (wp_imul dX10_inverse_14 (w_aload0 dX10_inverse_15 ?_)))
      apply v_i0 (M := mX10_inverse) dX10_inverse_16 lk_RX10_76 mvX10_p (by decide) meX10_inverse is_445 (Nat.le_of_ble_eq_true rfl)
      · exact t_X10_p hp0
      intro x16 h16 hP16
      obtain ⟨eh16, ex16⟩ := hP16
      replace eh16 := eh16.symm
      subst eh16
      replace ex16 := ex16.symm
      subst ex16
      refine wp_irem dX10_inverse_19 (by omega) (by omega) (wp_iconst dX10_inverse_20 ?_)
      refine wp_icmp_ne 28 dX10_inverse_21 rfl ⟨by omega, by omega⟩ ⟨by omega, by omega⟩ (fun c21 => ?_) (fun c21 => ?_)
      · skip
        refine w_iload2 dX10_inverse_28 ?_
        refine w_forget2 ?_
        first
        | exact L29 _ (by omega) (by rw [if_pos (by omega)])
        | exact L29 _ (by omega) (by rw [if_neg (by omega)])
      · skip
        refine w_iload3 dX10_inverse_24 (wp_goto 29 dX10_inverse_25 rfl ?_)
        refine w_forget2 ?_
        first
        | exact L29 _ (by omega) (by rw [if_pos (by omega)])
        | exact L29 _ (by omega) (by rw [if_neg (by omega)])
  refine wp_iconst dX10_inverse_0 (w_istore2 dX10_inverse_1 rfl (by decide) (wp_iconst dX10_inverse_2 (w_istore3 dX10_inverse_3 rfl (by decide) ?_)))
  exact L4 _ 1 _ rfl ⟨by omega, by omega⟩ rfl
set_option maxRecDepth 100000 in
set_option maxHeartbeats 4000000 in
theorem t_X10_isPlace {h : zH} {k i j e : Int} (zk : zin k) (zi : zin i) (zj : zin j) (ze : zin e) : CI yX10_isPlace mX10_isPlace [vI k, vI i, vI j, vI e] h (fun r h' => h' = h ∧ (r = 0 ∨ r = 1) ∧ (r = 1 ↔ zoT k i j e)) := by
  refine inS [some (vI k), some (vI i), some (vI j), some (vI e)] mvX10_isPlace rfl (Nat.le_of_ble_eq_true rfl) rfl ?_
  have L41 : ∀ (w : Int), ((w = 0 ∨ w = 1) ∧ (w = 1 ↔ zoT k i j e)) → WP mX10_isPlace (zMQ mX10_isPlace (zKI (fun r h' => h' = h ∧ (r = 0 ∨ r = 1) ∧ (r = 1 ↔ zoT k i j e)))) 41 [none, none, none, none] [vI w] zN zGR h := by
    intro w hv
    refine r_z dX10_isPlace_41 rfl meX10_isPlace (by first | exact Or.inl rfl | exact Or.inr rfl | omega) ?_
    exact ⟨rfl, hv⟩
  refine w_iload0 dX10_isPlace_0 (wp_iconst dX10_isPlace_1 (wp_iconst dX10_isPlace_2 ?_))
  apply s_i3 (M := mX10_isPlace) dX10_isPlace_3 lk_RX10_80 mvX10_in (by decide) meX10_isPlace (Nat.le_of_ble_eq_true rfl)
  · exact t_X10_in zk ⟨by decide, by decide⟩ ⟨by decide, by decide⟩
  intro x3 h3 hP3
  obtain ⟨eh3, hP3⟩ := hP3
  replace eh3 := eh3.symm
  subst eh3
  refine wp_if_eq 40 dX10_isPlace_6 rfl ⟨by omega, by omega⟩ (fun c6 => ?_) (fun c6 => ?_)
  · skip
    refine wp_iconst dX10_isPlace_40 ?_
    refine w_forget0 ?_
    refine w_forget1 ?_
    refine w_forget2 ?_
    refine w_forget3 ?_
    exact L41 _ (by unfold zoT; omega)
  · skip
    refine w_iload1 dX10_isPlace_9 (wp_iconst dX10_isPlace_10 (wp_iconst dX10_isPlace_11 ?_))
    apply s_i3 (M := mX10_isPlace) dX10_isPlace_12 lk_RX10_80 mvX10_in (by decide) meX10_isPlace (Nat.le_of_ble_eq_true rfl)
    · exact t_X10_in zi ⟨by decide, by decide⟩ ⟨by decide, by decide⟩
    intro x12 h12 hP12
    obtain ⟨eh12, hP12⟩ := hP12
    replace eh12 := eh12.symm
    subst eh12
    refine wp_if_eq 40 dX10_isPlace_15 rfl ⟨by omega, by omega⟩ (fun c15 => ?_) (fun c15 => ?_)
    · skip
      refine wp_iconst dX10_isPlace_40 ?_
      refine w_forget0 ?_
      refine w_forget1 ?_
      refine w_forget2 ?_
      refine w_forget3 ?_
      exact L41 _ (by unfold zoT; omega)
    · skip
      refine w_iload2 dX10_isPlace_18 (wp_iconst dX10_isPlace_19 (wp_iconst dX10_isPlace_20 ?_))
      apply s_i3 (M := mX10_isPlace) dX10_isPlace_21 lk_RX10_80 mvX10_in (by decide) meX10_isPlace (Nat.le_of_ble_eq_true rfl)
      · exact t_X10_in zj ⟨by decide, by decide⟩ ⟨by decide, by decide⟩
      intro x21 h21 hP21
      obtain ⟨eh21, hP21⟩ := hP21
      replace eh21 := eh21.symm
      subst eh21
      refine wp_if_eq 40 dX10_isPlace_24 rfl ⟨by omega, by omega⟩ (fun c24 => ?_) (fun c24 => ?_)
      · skip
        refine wp_iconst dX10_isPlace_40 ?_
        refine w_forget0 ?_
        refine w_forget1 ?_
        refine w_forget2 ?_
        refine w_forget3 ?_
        exact L41 _ (by unfold zoT; omega)
      · skip
        refine w_iload3 dX10_isPlace_27 (wp_iconst dX10_isPlace_28 (wp_iconst dX10_isPlace_29 ?_))
        apply s_i3 (M := mX10_isPlace) dX10_isPlace_30 lk_RX10_80 mvX10_in (by decide) meX10_isPlace (Nat.le_of_ble_eq_true rfl)
        · exact t_X10_in ze ⟨by decide, by decide⟩ ⟨by decide, by decide⟩
        intro x30 h30 hP30
        obtain ⟨eh30, hP30⟩ := hP30
        replace eh30 := eh30.symm
        subst eh30
        refine wp_if_eq 40 dX10_isPlace_33 rfl ⟨by omega, by omega⟩ (fun c33 => ?_) (fun c33 => ?_)
        · skip
          refine wp_iconst dX10_isPlace_40 ?_
          refine w_forget0 ?_
          refine w_forget1 ?_
          refine w_forget2 ?_
          refine w_forget3 ?_
          exact L41 _ (by unfold zoT; omega)
        · skip
          refine wp_iconst dX10_isPlace_36 (wp_goto 41 dX10_isPlace_37 rfl ?_)
          refine w_forget0 ?_
          refine w_forget1 ?_
          refine w_forget2 ?_
          refine w_forget3 ?_
          exact L41 _ (by unfold zoT; omega)
set_option maxRecDepth 100000 in
set_option maxHeartbeats 4000000 in
theorem t_X10_forgets {h : zH} : CV yX10_forgets mX10_forgets [vR 445] h (fun h' => h' = zup (zup h 445 8 0) 445 32 0) := by
  refine inV [some (vR 445)] mvX10_forgets rfl (Nat.le_of_ble_eq_true rfl) rfl ?_
  refine w_aload0 dX10_forgets_0 (wp_iconst dX10_forgets_1 (wp_putz dX10_forgets_2 fl_RX10_95 is_445 rfl (by first | exact Or.inl rfl | exact Or.inr rfl) (w_aload0 dX10_forgets_5 (wp_iconst dX10_forgets_6 (wp_putz dX10_forgets_7 fl_RX10_99 is_445 rfl (by first | exact Or.inl rfl | exact Or.inr rfl) ?_)))))
  refine r_v dX10_forgets_10 rfl meX10_forgets ?_
  rfl
set_option maxRecDepth 100000 in
set_option maxHeartbeats 4000000 in
theorem t_X10_power {h : zH} {v p ee : Int} {e : Nat} (he : ee = e) (he3 : e < 3) (hv : 0 ≤ v ∧ v < p) (hp : 5 ≤ p ∧ p ≤ 31) (hp0 : h 446 0 = p) : CI yX10_power mX10_power [vR 445, vI v, vI ee] h (fun r h' => h' = h ∧ r = zpow p v e) := by
  refine inV [some (vR 445), some (vI v), some (vI ee)] mvX10_power rfl (Nat.le_of_ble_eq_true rfl) rfl ?_
  have hvv := z_mb hv hv hp.2
  refine w_iload2 dX10_power_0 ?_
  refine wp_if_ne 8 dX10_power_1 rfl ⟨by omega, by omega⟩ (fun c1 => ?_) (fun c1 => ?_)
  · skip
    refine w_iload2 dX10_power_8 (wp_iconst dX10_power_9 ?_)
    refine wp_icmp_ne 17 dX10_power_10 rfl ⟨by omega, by omega⟩ ⟨by omega, by omega⟩ (fun c10 => ?_) (fun c10 => ?_)
    · skip
      refine w_iload1 dX10_power_17 (w_iload1 dX10_power_18 (wp_imul dX10_power_19 (w_aload0 dX10_power_20 ?_)))
      apply v_i0 (M := mX10_power) dX10_power_21 lk_RX10_76 mvX10_p (by decide) meX10_power is_445 (Nat.le_of_ble_eq_true rfl)
      · exact t_X10_p hp0
      intro x21 h21 hP21
      obtain ⟨eh21, ex21⟩ := hP21
      replace eh21 := eh21.symm
      subst eh21
      replace ex21 := ex21.symm
      subst ex21
      refine wp_irem dX10_power_24 (by omega) (by omega) ?_
      refine r_i dX10_power_25 rfl meX10_power ?_
      refine ⟨rfl, ?_⟩
      unfold zpow
      first | rw [if_pos (by omega)] | rw [if_neg (by omega), if_pos (by omega)] | rw [if_neg (by omega), if_neg (by omega)]
    · skip
      refine w_iload1 dX10_power_13 (wp_goto 25 dX10_power_14 rfl ?_)
      refine r_i dX10_power_25 rfl meX10_power ?_
      refine ⟨rfl, ?_⟩
      unfold zpow
      first | rw [if_pos (by omega)] | rw [if_neg (by omega), if_pos (by omega)] | rw [if_neg (by omega), if_neg (by omega)]
  · skip
    refine wp_iconst dX10_power_4 (wp_goto 25 dX10_power_5 rfl ?_)
    refine r_i dX10_power_25 rfl meX10_power ?_
    refine ⟨rfl, ?_⟩
    unfold zpow
    first | rw [if_pos (by omega)] | rw [if_neg (by omega), if_pos (by omega)] | rw [if_neg (by omega), if_neg (by omega)]
set_option maxRecDepth 100000 in
set_option maxHeartbeats 4000000 in
theorem t_X10_valueOf {h : zH} {kk x y t p : Int} {k : Nat} (hk : kk = k) (hk3 : k < 3) {c : Nat → Nat → Int} (hs : zSt p c) (hR : zMr p c h) (hx : 0 ≤ x ∧ x < p) (hy : 0 ≤ y ∧ y < p) (ht : 0 ≤ t ∧ t < p) : CI yX10_valueOf mX10_valueOf [vR 445, vI kk, vI x, vI y, vI t] h (fun r h' => h' = h ∧ r = zval p c k x y t) := by
  refine inV [some (vR 445), some (vI kk), some (vI x), some (vI y), some (vI t), none, none, none, none, none] mvX10_valueOf rfl (Nat.le_of_ble_eq_true rfl) rfl ?_
  have hp := hs.p
  have hp0 := hR.1
  have hp1 : 1 < p := by omega
  have hnn : ∀ i j e, 0 ≤ zvC p c k x y t i j e := fun i j e => (z_mb (hs.2 k (9 * i + 3 * j + e)) (z_mod (by omega) ((zpow p x i * zpow p y j % p) * zpow p t e)) hp.2).1
  have hnn3 : ∀ n, 0 ≤ zsi (zvA p c k x y t) n := fun n => zsi_nn n (fun i _ => zsi_nn 3 (fun j _ => zsi_nn 3 (fun e _ => hnn i j e)))
  have L6 : ∀ (zm6 : Nat) (i : Nat) (s vi : Int), 3 - i = zm6 → (i ≤ 3) → (vi = (i : Int)) → (s = zsi (zvA p c k x y t) i) → WP mX10_valueOf (zMQ mX10_valueOf (zKI (fun r h' => h' = h ∧ r = zval p c k x y t))) 6 [some (vR 445), some (vI kk), some (vI x), some (vI y), some (vI t), some (vI s), some (vI vi), none, none, none] [] zN zGR h := by
    intro zm6
    induction zm6 using Nat.strongRecOn with | _ zm6 ih6 => ?_
    intro i s vi hzm6 hi hvi hss
    subst hzm6
    have b1 := zv_b hs (k := k) (x := x) (y := y) (t := t) hi
    have q1 := zpow_in hp1 hx i
    have L15 : ∀ (zm15 : Nat) (j : Nat) (s2 vj : Int), 3 - j = zm15 → (i < 3) → (j ≤ 3) → (vj = (j : Int)) → (s2 = zsi (zvA p c k x y t) i + zsi (zvB p c k x y t i) j) → WP mX10_valueOf (zMQ mX10_valueOf (zKI (fun r h' => h' = h ∧ r = zval p c k x y t))) 15 [some (vR 445), some (vI kk), some (vI x), some (vI y), some (vI t), some (vI s2), some (vI vi), some (vI vj), none, none] [] zN zGR h := by
      intro zm15
      induction zm15 using Nat.strongRecOn with | _ zm15 ih15 => ?_
      intro j s2 vj hzm15 hi3 hj hvj hs2
      subst hzm15
      have b2 := zvA_b hs (k := k) (x := x) (y := y) (t := t) (i := i) hj
      have q2 := zpow_in hp1 hy j
      have L24 : ∀ (zm24 : Nat) (e : Nat) (s3 ve : Int), 3 - e = zm24 → (j < 3) → (e ≤ 3) → (ve = (e : Int)) → (s3 = zsi (zvA p c k x y t) i + zsi (zvB p c k x y t i) j + zsi (zvC p c k x y t i j) e) → WP mX10_valueOf (zMQ mX10_valueOf (zKI (fun r h' => h' = h ∧ r = zval p c k x y t))) 24 [some (vR 445), some (vI kk), some (vI x), some (vI y), some (vI t), some (vI s3), some (vI vi), some (vI vj), some (vI ve), none] [] zN zGR h := by
        intro zm24
        induction zm24 using Nat.strongRecOn with | _ zm24 ih24 => ?_
        intro e s3 ve hzm24 hj3 he hve hs3
        subst hzm24
        have b3 := zvB_b hs (k := k) (x := x) (y := y) (t := t) (i := i) (j := j) he
        have q3 := zpow_in hp1 ht e
        have m1 := z_mb q1 q2 hp.2
        have m2 := z_mod (by omega) (zpow p x i * zpow p y j) (p := p)
        have m3 := z_mb m2 q3 hp.2
        have m4 := zvC_b hs (k := k) (x := x) (y := y) (t := t) (i := i) (j := j) (e := e)
        refine w_iload8 dX10_valueOf_24 (wp_iconst dX10_valueOf_26 ?_)
        refine wp_icmp_ge 91 dX10_valueOf_27 rfl ⟨by omega, by omega⟩ ⟨by omega, by omega⟩ (fun c27 => ?_) (fun c27 => ?_)
        · skip
          refine w_iinc7 dX10_valueOf_91 rfl (by decide) (wp_goto 15 dX10_valueOf_94 rfl ?_)
          refine w_forget8 ?_
          refine ih15 _ (by omega) (j + 1) _ _ rfl (by omega) (by omega) (by omega) ?_
          rw [hs3, show e = 3 by omega, Int.add_assoc]
          rfl
        · skip
          refine w_aload0 dX10_valueOf_30 (w_iload2 dX10_valueOf_31 (w_iload6 dX10_valueOf_32 ?_))
          apply v_i2 (M := mX10_valueOf) dX10_valueOf_34 lk_RX10_153 mvX10_power (by decide) meX10_valueOf is_445 (Nat.le_of_ble_eq_true rfl)
          · exact t_X10_power hvi (by omega) hx hp hp0
          intro x34 h34 hP34
          obtain ⟨eh34, ex34⟩ := hP34
          replace eh34 := eh34.symm
          subst eh34
          replace ex34 := ex34.symm
          subst ex34
          refine w_aload0 dX10_valueOf_37 (w_iload3 dX10_valueOf_38 (w_iload7 dX10_valueOf_39 ?_))
          apply v_i2 (M := mX10_valueOf) dX10_valueOf_41 lk_RX10_153 mvX10_power (by decide) meX10_valueOf is_445 (Nat.le_of_ble_eq_true rfl)
          · exact t_X10_power hvj (by omega) hy hp hp0
          intro x41 h41 hP41
          obtain ⟨eh41, ex41⟩ := hP41
          replace eh41 := eh41.symm
          subst eh41
          replace ex41 := ex41.symm
          subst ex41
          refine wp_imul dX10_valueOf_44 (w_aload0 dX10_valueOf_45 ?_)
          apply v_i0 (M := mX10_valueOf) dX10_valueOf_46 lk_RX10_76 mvX10_p (by decide) meX10_valueOf is_445 (Nat.le_of_ble_eq_true rfl)
          · exact t_X10_p hp0
          intro x46 h46 hP46
          obtain ⟨eh46, ex46⟩ := hP46
          replace eh46 := eh46.symm
          subst eh46
          replace ex46 := ex46.symm
          subst ex46
          refine wp_irem dX10_valueOf_49 (by omega) (by omega) (w_istore9 dX10_valueOf_50 rfl (by decide) (w_iload5 dX10_valueOf_52 (w_aload0 dX10_valueOf_54 (w_iload1 dX10_valueOf_55 (w_iload6 dX10_valueOf_56 (w_iload7 dX10_valueOf_58 (w_iload8 dX10_valueOf_60 ?_)))))))
          apply v_i4 (M := mX10_valueOf) dX10_valueOf_62 lk_RX10_146 mvX10_of (by decide) meX10_valueOf is_445 (Nat.le_of_ble_eq_true rfl)
          · exact t_X10_of (k := k) (w := 9 * i + 3 * j + e) hk hk3 (by omega) (by omega) hR
          intro x62 h62 hP62
          obtain ⟨eh62, ex62⟩ := hP62
          replace eh62 := eh62.symm
          subst eh62
          replace ex62 := ex62.symm
          subst ex62
          refine w_iload9 dX10_valueOf_65 (w_aload0 dX10_valueOf_67 (w_iload4 dX10_valueOf_68 (w_iload8 dX10_valueOf_70 ?_)))
          apply v_i2 (M := mX10_valueOf) dX10_valueOf_72 lk_RX10_153 mvX10_power (by decide) meX10_valueOf is_445 (Nat.le_of_ble_eq_true rfl)
          · exact t_X10_power hve (by omega) ht hp hp0
          intro x72 h72 hP72
          obtain ⟨eh72, ex72⟩ := hP72
          replace eh72 := eh72.symm
          subst eh72
          replace ex72 := ex72.symm
          subst ex72
          refine wp_imul dX10_valueOf_75 (w_aload0 dX10_valueOf_76 ?_)
          apply v_i0 (M := mX10_valueOf) dX10_valueOf_77 lk_RX10_76 mvX10_p (by decide) meX10_valueOf is_445 (Nat.le_of_ble_eq_true rfl)
          · exact t_X10_p hp0
          intro x77 h77 hP77
          obtain ⟨eh77, ex77⟩ := hP77
          replace eh77 := eh77.symm
          subst eh77
          replace ex77 := ex77.symm
          subst ex77
          refine wp_irem dX10_valueOf_80 (by omega) (by omega) (wp_imul dX10_valueOf_81 (wp_iadd dX10_valueOf_82 (w_istore5 dX10_valueOf_83 rfl (by decide) (w_iinc8 dX10_valueOf_85 rfl (by decide) (wp_goto 24 dX10_valueOf_88 rfl ?_)))))
          refine w_forget9 ?_
          refine ih24 _ (by omega) (e + 1) _ _ rfl (by omega) (by omega) (by omega) ?_
          rw [hs3, Int.add_assoc (zsi (zvA p c k x y t) i + zsi (zvB p c k x y t i) j)]
          rfl
      refine w_iload7 dX10_valueOf_15 (wp_iconst dX10_valueOf_17 ?_)
      refine wp_icmp_ge 97 dX10_valueOf_18 rfl ⟨by omega, by omega⟩ ⟨by omega, by omega⟩ (fun c18 => ?_) (fun c18 => ?_)
      · skip
        refine w_iinc6 dX10_valueOf_97 rfl (by decide) (wp_goto 6 dX10_valueOf_100 rfl ?_)
        refine w_forget7 ?_
        refine ih6 _ (by omega) (i + 1) _ _ rfl (by omega) (by omega) ?_
        rw [hs2, show j = 3 by omega]
        rfl
      · skip
        refine wp_iconst dX10_valueOf_21 (w_istore8 dX10_valueOf_22 rfl (by decide) ?_)
        exact L24 _ 0 _ _ rfl (by omega) (Nat.zero_le _) rfl (by rw [hs2]; exact (Int.add_zero _).symm)
    refine w_iload6 dX10_valueOf_6 (wp_iconst dX10_valueOf_8 ?_)
    refine wp_icmp_ge 103 dX10_valueOf_9 rfl ⟨by omega, by omega⟩ ⟨by omega, by omega⟩ (fun c9 => ?_) (fun c9 => ?_)
    · skip
      refine w_iload5 dX10_valueOf_103 (w_aload0 dX10_valueOf_105 ?_)
      apply v_i0 (M := mX10_valueOf) dX10_valueOf_106 lk_RX10_76 mvX10_p (by decide) meX10_valueOf is_445 (Nat.le_of_ble_eq_true rfl)
      · exact t_X10_p hp0
      intro x106 h106 hP106
      obtain ⟨eh106, ex106⟩ := hP106
      replace eh106 := eh106.symm
      subst eh106
      replace ex106 := ex106.symm
      subst ex106
      have hz9 := hnn3 i
      refine wp_irem dX10_valueOf_109 (by omega) (by omega) ?_
      refine r_i dX10_valueOf_110 rfl meX10_valueOf ?_
      exact ⟨rfl, by rw [hss, show i = 3 by omega]; exact zval_m (by omega)⟩
    · skip
      refine wp_iconst dX10_valueOf_12 (w_istore7 dX10_valueOf_13 rfl (by decide) ?_)
      exact L15 _ 0 _ _ rfl (by omega) (Nat.zero_le _) rfl (by rw [hss]; exact (Int.add_zero _).symm)
  refine wp_iconst dX10_valueOf_0 (w_istore5 dX10_valueOf_1 rfl (by decide) (wp_iconst dX10_valueOf_3 (w_istore6 dX10_valueOf_4 rfl (by decide) ?_)))
  exact L6 _ 0 _ _ rfl (Nat.zero_le _) rfl rfl
set_option maxRecDepth 100000 in
set_option maxHeartbeats 4000000 in
theorem t_X10_termsOf {h : zH} {kk p : Int} {k : Nat} (hk : kk = k) (hk3 : k < 3) {f : Nat → Int} (hf : ∀ j, j < 27 → h 446 (1 + 27 * k + j) = f j ∧ 0 ≤ f j ∧ f j < 31) : CI yX10_termsOf mX10_termsOf [vR 445, vI kk] h (fun r h' => h' = h ∧ r = zcnt f 27) := by
  refine inV [some (vR 445), some (vI kk), none, none] mvX10_termsOf rfl (Nat.le_of_ble_eq_true rfl) rfl ?_
  have L4 : ∀ (zm4 : Nat) (i : Nat) (s vi : Int), 27 - i = zm4 → (i ≤ 27) → (vi = (i : Int)) → (s = zcnt f i) → WP mX10_termsOf (zMQ mX10_termsOf (zKI (fun r h' => h' = h ∧ r = zcnt f 27))) 4 [some (vR 445), some (vI kk), some (vI s), some (vI vi)] [] zN zGR h := by
    intro zm4
    induction zm4 using Nat.strongRecOn with | _ zm4 ih4 => ?_
    intro i s vi hzm4 hi hvi hs
    subst hzm4
    refine w_iload3 dX10_termsOf_4 (wp_bipush dX10_termsOf_5 (by decide) ?_)
    refine wp_icmp_ge 40 dX10_termsOf_7 rfl ⟨by omega, by omega⟩ ⟨by omega, by omega⟩ (fun c7 => ?_) (fun c7 => ?_)
    · skip
      refine w_iload2 dX10_termsOf_40 ?_
      refine r_i dX10_termsOf_41 rfl meX10_termsOf ?_
      exact ⟨rfl, by rw [hs, show i = 27 by omega]⟩
    · skip
      refine w_iload2 dX10_termsOf_10 (w_aload0 dX10_termsOf_11 (wp_getr 446 dX10_termsOf_12 fl_RX10_7 is_445 rfl (wp_iconst dX10_termsOf_15 (wp_bipush dX10_termsOf_16 (by decide) (w_iload1 dX10_termsOf_18 (wp_imul dX10_termsOf_19 (wp_iadd dX10_termsOf_20 (w_iload3 dX10_termsOf_21 (wp_iadd dX10_termsOf_22 ?_)))))))))
      refine x_iald (1 + 27 * k + i) dX10_termsOf_23 is_446 (by omega) (by omega) ?_
      obtain ⟨hfi, hf0, hf1⟩ := hf i (by omega)
      rw [hfi]
      refine wp_if_eq 31 dX10_termsOf_24 rfl ⟨by omega, by omega⟩ (fun c24 => ?_) (fun c24 => ?_)
      · skip
        refine wp_iconst dX10_termsOf_31 (wp_iadd dX10_termsOf_32 (w_istore2 dX10_termsOf_33 rfl (by decide) (w_iinc3 dX10_termsOf_34 rfl (by decide) (wp_goto 4 dX10_termsOf_37 rfl ?_))))
        refine ih4 _ (by omega) (i + 1) _ _ rfl (by omega) (by omega) ?_
        show _ = zcnt f i + (if f i = 0 then 0 else 1)
        first | rw [if_pos (by omega), hs] | rw [if_neg (by omega), hs]
      · skip
        refine wp_iconst dX10_termsOf_27 (wp_goto 32 dX10_termsOf_28 rfl (wp_iadd dX10_termsOf_32 (w_istore2 dX10_termsOf_33 rfl (by decide) (w_iinc3 dX10_termsOf_34 rfl (by decide) (wp_goto 4 dX10_termsOf_37 rfl ?_)))))
        refine ih4 _ (by omega) (i + 1) _ _ rfl (by omega) (by omega) ?_
        show _ = zcnt f i + (if f i = 0 then 0 else 1)
        first | rw [if_pos (by omega), hs] | rw [if_neg (by omega), hs]
  refine wp_iconst dX10_termsOf_0 (w_istore2 dX10_termsOf_1 rfl (by decide) (wp_iconst dX10_termsOf_2 (w_istore3 dX10_termsOf_3 rfl (by decide) ?_)))
  exact L4 _ 0 _ _ rfl (Nat.zero_le _) rfl rfl
set_option maxRecDepth 100000 in
set_option maxHeartbeats 4000000 in
theorem t_X10_terms {h : zH} {p : Int} {c : Nat → Nat → Int} (hs : zSt p c) (hR : zMr p c h) : CI yX10_terms mX10_terms [vR 445] h (fun r h' => h' = h ∧ r = ztot c) := by
  refine inV [some (vR 445)] mvX10_terms rfl (Nat.le_of_ble_eq_true rfl) rfl ?_
  have hf : ∀ k, k < 3 → ∀ j, j < 27 → h 446 (1 + 27 * k + j) = c k j ∧ 0 ≤ c k j ∧ c k j < 31 := fun k hk j hj => ⟨hR.2 k hk j hj, zSt_f hs k j⟩
  refine w_aload0 dX10_terms_0 (wp_iconst dX10_terms_1 ?_)
  apply v_i1 (M := mX10_terms) dX10_terms_2 lk_RX10_102 mvX10_termsOf (by decide) meX10_terms is_445 (Nat.le_of_ble_eq_true rfl)
  · exact t_X10_termsOf (p := p) rfl (by decide) (hf 0 (by decide))
  intro x2 h2 hP2
  obtain ⟨eh2, ex2⟩ := hP2
  replace eh2 := eh2.symm
  subst eh2
  replace ex2 := ex2.symm
  subst ex2
  refine w_aload0 dX10_terms_5 (wp_iconst dX10_terms_6 ?_)
  apply v_i1 (M := mX10_terms) dX10_terms_7 lk_RX10_102 mvX10_termsOf (by decide) meX10_terms is_445 (Nat.le_of_ble_eq_true rfl)
  · exact t_X10_termsOf (p := p) rfl (by decide) (hf 1 (by decide))
  intro x7 h7 hP7
  obtain ⟨eh7, ex7⟩ := hP7
  replace eh7 := eh7.symm
  subst eh7
  replace ex7 := ex7.symm
  subst ex7
  refine wp_iadd dX10_terms_10 (w_aload0 dX10_terms_11 (wp_iconst dX10_terms_12 ?_))
  apply v_i1 (M := mX10_terms) dX10_terms_13 lk_RX10_102 mvX10_termsOf (by decide) meX10_terms is_445 (Nat.le_of_ble_eq_true rfl)
  · exact t_X10_termsOf (p := p) rfl (by decide) (hf 2 (by decide))
  intro x13 h13 hP13
  obtain ⟨eh13, ex13⟩ := hP13
  replace eh13 := eh13.symm
  subst eh13
  replace ex13 := ex13.symm
  subst ex13
  refine wp_iadd dX10_terms_16 ?_
  refine r_i dX10_terms_17 rfl meX10_terms ?_
  exact ⟨rfl, rfl⟩
set_option maxRecDepth 100000 in
set_option maxHeartbeats 4000000 in
theorem t_X10_degreeOf {h : zH} {kk vv : Int} {k v : Nat} (hk : kk = k) (hk3 : k < 3) (hv : vv = v) (hv3 : v < 3) {f : Nat → Int} (hf : ∀ j, j < 27 → h 446 (1 + 27 * k + j) = f j ∧ 0 ≤ f j ∧ f j < 31) : CI yX10_degreeOf mX10_degreeOf [vR 445, vI kk, vI vv] h (fun r h' => h' = h ∧ r = (zdeg f v 27 : Int)) := by
  refine inV [some (vR 445), some (vI kk), some (vI vv), none, none, none] mvX10_degreeOf rfl (Nat.le_of_ble_eq_true rfl) rfl ?_
  have L5 : ∀ (zm5 : Nat) (i : Nat) (s vi : Int), 27 - i = zm5 → (i ≤ 27) → (vi = (i : Int)) → (s = (zdeg f v i : Int)) → WP mX10_degreeOf (zMQ mX10_degreeOf (zKI (fun r h' => h' = h ∧ r = (zdeg f v 27 : Int)))) 5 [some (vR 445), some (vI kk), some (vI vv), some (vI s), some (vI vi), none] [] zN zGR h := by
    intro zm5
    induction zm5 using Nat.strongRecOn with | _ zm5 ih5 => ?_
    intro i s vi hzm5 hi hvi hs
    subst hzm5
    have hdl := zdeg_le (f := f) (v := v) i hi
    have L43 : ∀ (u : Int), (i < 27) → (u = (zexp v i : Int)) → WP mX10_degreeOf (zMQ mX10_degreeOf (zKI (fun r h' => h' = h ∧ r = (zdeg f v 27 : Int)))) 43 [some (vR 445), some (vI kk), some (vI vv), some (vI s), some (vI vi), none] [vI u] zN zGR h := by
      intro u hi27 hu
      have hxl := zexp_le (v := v) hi27
      obtain ⟨hfi, hf0, hf1⟩ := hf i hi27
      have L74 : ∀ (w : Int), (w = (zdeg f v (i + 1) : Int)) → WP mX10_degreeOf (zMQ mX10_degreeOf (zKI (fun r h' => h' = h ∧ r = (zdeg f v 27 : Int)))) 74 [some (vR 445), some (vI kk), some (vI vv), none, some (vI vi), none] [vI w] zN zGR h := by
        intro w hw
        refine w_istore3 dX10_degreeOf_74 rfl (by decide) (w_iinc4 dX10_degreeOf_75 rfl (by decide) (wp_goto 5 dX10_degreeOf_78 rfl ?_))
        refine ih5 _ (by omega) (i + 1) _ _ rfl (by omega) (by omega) hw
      refine w_istore5 dX10_degreeOf_43 rfl (by decide) (w_aload0 dX10_degreeOf_45 (wp_getr 446 dX10_degreeOf_46 fl_RX10_7 is_445 rfl (wp_iconst dX10_degreeOf_49 (wp_bipush dX10_degreeOf_50 (by decide) (w_iload1 dX10_degreeOf_52 (wp_imul dX10_degreeOf_53 (wp_iadd dX10_degreeOf_54 (w_iload4 dX10_degreeOf_55 (wp_iadd dX10_degreeOf_57 ?_)))))))))
      refine x_iald (1 + 27 * k + i) dX10_degreeOf_58 is_446 (by omega) (by omega) ?_
      rw [hfi]
      refine wp_if_eq 73 dX10_degreeOf_59 rfl ⟨by omega, by omega⟩ (fun c59 => ?_) (fun c59 => ?_)
      · skip
        refine w_iload3 dX10_degreeOf_73 ?_
        refine w_forget3 ?_
        refine w_forget5 ?_
        refine L74 _ ?_
        unfold zdeg
        first
        | (rw [if_pos (by omega)]; omega)
        | (rw [if_neg (by omega)]; omega)
      · skip
        refine w_iload5 dX10_degreeOf_62 (w_iload3 dX10_degreeOf_64 ?_)
        refine wp_icmp_le 73 dX10_degreeOf_65 rfl ⟨by omega, by omega⟩ ⟨by omega, by omega⟩ (fun c65 => ?_) (fun c65 => ?_)
        · skip
          refine w_iload3 dX10_degreeOf_73 ?_
          refine w_forget3 ?_
          refine w_forget5 ?_
          refine L74 _ ?_
          unfold zdeg
          first
          | (rw [if_pos (by omega)]; omega)
          | (rw [if_neg (by omega)]; omega)
        · skip
          refine w_iload5 dX10_degreeOf_68 (wp_goto 74 dX10_degreeOf_70 rfl ?_)
          refine w_forget3 ?_
          refine w_forget5 ?_
          refine L74 _ ?_
          unfold zdeg
          first
          | (rw [if_pos (by omega)]; omega)
          | (rw [if_neg (by omega)]; omega)
    refine w_iload4 dX10_degreeOf_5 (wp_bipush dX10_degreeOf_7 (by decide) ?_)
    refine wp_icmp_ge 81 dX10_degreeOf_9 rfl ⟨by omega, by omega⟩ ⟨by omega, by omega⟩ (fun c9 => ?_) (fun c9 => ?_)
    · skip
      refine w_iload3 dX10_degreeOf_81 ?_
      refine r_i dX10_degreeOf_82 rfl meX10_degreeOf ?_
      exact ⟨rfl, by rw [hs, show i = 27 by omega]⟩
    · skip
      refine w_iload2 dX10_degreeOf_12 ?_
      refine wp_if_ne 24 dX10_degreeOf_13 rfl ⟨by omega, by omega⟩ (fun c13 => ?_) (fun c13 => ?_)
      · skip
        refine w_iload2 dX10_degreeOf_24 (wp_iconst dX10_degreeOf_25 ?_)
        refine wp_icmp_ne 39 dX10_degreeOf_26 rfl ⟨by omega, by omega⟩ ⟨by omega, by omega⟩ (fun c26 => ?_) (fun c26 => ?_)
        · skip
          refine w_iload4 dX10_degreeOf_39 (wp_iconst dX10_degreeOf_41 (wp_irem dX10_degreeOf_42 (by omega) (by omega) ?_))
          refine L43 _ (by omega) ?_
          unfold zexp
          first | (rw [if_pos (by omega)]; omega) | (rw [if_neg (by omega), if_pos (by omega)]; omega) | (rw [if_neg (by omega), if_neg (by omega)]; omega)
        · skip
          refine w_iload4 dX10_degreeOf_29 (wp_bipush dX10_degreeOf_31 (by decide) (wp_irem dX10_degreeOf_33 (by omega) (by omega) (wp_iconst dX10_degreeOf_34 (wp_idiv dX10_degreeOf_35 (by omega) (by omega) (wp_goto 43 dX10_degreeOf_36 rfl ?_)))))
          refine L43 _ (by omega) ?_
          unfold zexp
          first | (rw [if_pos (by omega)]; omega) | (rw [if_neg (by omega), if_pos (by omega)]; omega) | (rw [if_neg (by omega), if_neg (by omega)]; omega)
      · skip
        refine w_iload4 dX10_degreeOf_16 (wp_bipush dX10_degreeOf_18 (by decide) (wp_idiv dX10_degreeOf_20 (by omega) (by omega) (wp_goto 43 dX10_degreeOf_21 rfl ?_)))
        refine L43 _ (by omega) ?_
        unfold zexp
        first | (rw [if_pos (by omega)]; omega) | (rw [if_neg (by omega), if_pos (by omega)]; omega) | (rw [if_neg (by omega), if_neg (by omega)]; omega)
  refine wp_iconst dX10_degreeOf_0 (w_istore3 dX10_degreeOf_1 rfl (by decide) (wp_iconst dX10_degreeOf_2 (w_istore4 dX10_degreeOf_3 rfl (by decide) ?_)))
  exact L5 _ 0 _ _ rfl (Nat.zero_le _) rfl rfl
set_option maxRecDepth 100000 in
set_option maxHeartbeats 4000000 in
theorem t_X10_cut {h : zH} {kk ii jj t p : Int} {k i j : Nat} (hk : kk = k) (hk3 : k < 3) (hi : ii = i) (hi3 : i < 3) (hj : jj = j) (hj3 : j < 3) {c : Nat → Nat → Int} (hs : zSt p c) (hR : zMr p c h) (ht : 0 ≤ t ∧ t < p) : CI yX10_cut mX10_cut [vR 445, vI kk, vI ii, vI jj, vI t] h (fun r h' => h' = h ∧ r = zcut p c k (3 * i + j) t) := by
  refine inV [some (vR 445), some (vI kk), some (vI ii), some (vI jj), some (vI t)] mvX10_cut rfl (Nat.le_of_ble_eq_true rfl) rfl ?_
  have hp := hs.p
  have hp0 := hR.1
  have htt := z_mb ht ht hp.2
  have htm := z_mod (by omega) (t * t) (p := p)
  have c0 := hs.2 k (9 * i + 3 * j + 0)
  have c1 := z_mb (hs.2 k (9 * i + 3 * j + 1)) ht hp.2
  have c2 := z_mb (hs.2 k (9 * i + 3 * j + 2)) htm hp.2
  refine w_aload0 dX10_cut_0 (w_iload1 dX10_cut_1 (w_iload2 dX10_cut_2 (w_iload3 dX10_cut_3 (wp_iconst dX10_cut_4 ?_))))
  apply v_i4 (M := mX10_cut) dX10_cut_5 lk_RX10_146 mvX10_of (by decide) meX10_cut is_445 (Nat.le_of_ble_eq_true rfl)
  · exact t_X10_of (k := k) (w := 9 * i + 3 * j + 0) hk hk3 (by omega) (by omega) hR
  intro x5 h5 hP5
  obtain ⟨eh5, ex5⟩ := hP5
  replace eh5 := eh5.symm
  subst eh5
  replace ex5 := ex5.symm
  subst ex5
  refine w_aload0 dX10_cut_8 (w_iload1 dX10_cut_9 (w_iload2 dX10_cut_10 (w_iload3 dX10_cut_11 (wp_iconst dX10_cut_12 ?_))))
  apply v_i4 (M := mX10_cut) dX10_cut_13 lk_RX10_146 mvX10_of (by decide) meX10_cut is_445 (Nat.le_of_ble_eq_true rfl)
  · exact t_X10_of (k := k) (w := 9 * i + 3 * j + 1) hk hk3 (by omega) (by omega) hR
  intro x13 h13 hP13
  obtain ⟨eh13, ex13⟩ := hP13
  replace eh13 := eh13.symm
  subst eh13
  replace ex13 := ex13.symm
  subst ex13
  refine w_iload4 dX10_cut_16 (wp_imul dX10_cut_18 (wp_iadd dX10_cut_19 (w_aload0 dX10_cut_20 (w_iload1 dX10_cut_21 (w_iload2 dX10_cut_22 (w_iload3 dX10_cut_23 (wp_iconst dX10_cut_24 ?_)))))))
  apply v_i4 (M := mX10_cut) dX10_cut_25 lk_RX10_146 mvX10_of (by decide) meX10_cut is_445 (Nat.le_of_ble_eq_true rfl)
  · exact t_X10_of (k := k) (w := 9 * i + 3 * j + 2) hk hk3 (by omega) (by omega) hR
  intro x25 h25 hP25
  obtain ⟨eh25, ex25⟩ := hP25
  replace eh25 := eh25.symm
  subst eh25
  replace ex25 := ex25.symm
  subst ex25
  refine w_iload4 dX10_cut_28 (w_iload4 dX10_cut_30 (wp_imul dX10_cut_32 (w_aload0 dX10_cut_33 ?_)))
  apply v_i0 (M := mX10_cut) dX10_cut_34 lk_RX10_76 mvX10_p (by decide) meX10_cut is_445 (Nat.le_of_ble_eq_true rfl)
  · exact t_X10_p hp0
  intro x34 h34 hP34
  obtain ⟨eh34, ex34⟩ := hP34
  replace eh34 := eh34.symm
  subst eh34
  replace ex34 := ex34.symm
  subst ex34
  refine wp_irem dX10_cut_37 (by omega) (by omega) (wp_imul dX10_cut_38 (wp_iadd dX10_cut_39 (w_aload0 dX10_cut_40 ?_)))
  apply v_i0 (M := mX10_cut) dX10_cut_41 lk_RX10_76 mvX10_p (by decide) meX10_cut is_445 (Nat.le_of_ble_eq_true rfl)
  · exact t_X10_p hp0
  intro x41 h41 hP41
  obtain ⟨eh41, ex41⟩ := hP41
  replace eh41 := eh41.symm
  subst eh41
  replace ex41 := ex41.symm
  subst ex41
  refine wp_irem dX10_cut_44 (by omega) (by omega) ?_
  refine r_i dX10_cut_45 rfl meX10_cut ?_
  exact ⟨rfl, zcut_m⟩
set_option maxRecDepth 100000 in
set_option maxHeartbeats 4000000 in
theorem t_X10_cutDegree {h : zH} {kk vv t p : Int} {k v : Nat} (hk : kk = k) (hk3 : k < 3) (hv : vv = v) (hv2 : v < 2) {c : Nat → Nat → Int} (hs : zSt p c) (hR : zMr p c h) (ht : 0 ≤ t ∧ t < p) : CI yX10_cutDegree mX10_cutDegree [vR 445, vI kk, vI vv, vI t] h (fun r h' => h' = h ∧ r = (zdgA p c k v t 9 : Int)) := by
  refine inV [some (vR 445), some (vI kk), some (vI vv), some (vI t), none, none, none, none] mvX10_cutDegree rfl (Nat.le_of_ble_eq_true rfl) rfl ?_
  have hp := hs.p
  have L6 : ∀ (zm6 : Nat) (i : Nat) (s vi : Int), 3 - i = zm6 → (i ≤ 3) → (vi = (i : Int)) → (s = (zdgA p c k v t (3 * i) : Int)) → WP mX10_cutDegree (zMQ mX10_cutDegree (zKI (fun r h' => h' = h ∧ r = (zdgA p c k v t 9 : Int)))) 6 [some (vR 445), some (vI kk), some (vI vv), some (vI t), some (vI s), some (vI vi), none, none] [] zN zGR h := by
    intro zm6
    induction zm6 using Nat.strongRecOn with | _ zm6 ih6 => ?_
    intro i s vi hzm6 hi hvi hss
    subst hzm6
    have L15 : ∀ (zm15 : Nat) (j : Nat) (s2 vj : Int), 3 - j = zm15 → (i < 3) → (j ≤ 3) → (vj = (j : Int)) → (s2 = (zdgA p c k v t (3 * i + j) : Int)) → WP mX10_cutDegree (zMQ mX10_cutDegree (zKI (fun r h' => h' = h ∧ r = (zdgA p c k v t 9 : Int)))) 15 [some (vR 445), some (vI kk), some (vI vv), some (vI t), some (vI s2), some (vI vi), some (vI vj), none] [] zN zGR h := by
      intro zm15
      induction zm15 using Nat.strongRecOn with | _ zm15 ih15 => ?_
      intro j s2 vj hzm15 hi3 hj hvj hs2
      subst hzm15
      have hdl := zdgA_le (p := p) (c := c) (k := k) (v := v) (t := t) (3 * i + j) (by omega)
      have hcb := zcut_in hs k (3 * i + j) t
      have L32 : ∀ (u : Int), (j < 3) → (u = if v = 0 then (i : Int) else (j : Int)) → WP mX10_cutDegree (zMQ mX10_cutDegree (zKI (fun r h' => h' = h ∧ r = (zdgA p c k v t 9 : Int)))) 32 [some (vR 445), some (vI kk), some (vI vv), some (vI t), some (vI s2), some (vI vi), some (vI vj), none] [vI u] zN zGR h := by
        intro u hj3 hu
        have hub : 0 ≤ u ∧ u < 3 := by rw [hu]; split <;> omega
        have hu2 : u = ((if v = 0 then (3 * i + j) / 3 else (3 * i + j) % 3 : Nat) : Int) := by rw [hu]; split <;> omega
        have L61 : ∀ (w : Int), (w = (zdgA p c k v t (3 * i + (j + 1)) : Int)) → WP mX10_cutDegree (zMQ mX10_cutDegree (zKI (fun r h' => h' = h ∧ r = (zdgA p c k v t 9 : Int)))) 61 [some (vR 445), some (vI kk), some (vI vv), some (vI t), none, some (vI vi), some (vI vj), none] [vI w] zN zGR h := by
          intro w hw
          refine w_istore4 dX10_cutDegree_61 rfl (by decide) (w_iinc6 dX10_cutDegree_63 rfl (by decide) (wp_goto 15 dX10_cutDegree_66 rfl ?_))
          refine ih15 _ (by omega) (j + 1) _ _ rfl (by omega) (by omega) (by omega) hw
        refine w_istore7 dX10_cutDegree_32 rfl (by decide) (w_iload7 dX10_cutDegree_34 (w_iload4 dX10_cutDegree_36 ?_))
        refine wp_icmp_le 59 dX10_cutDegree_38 rfl ⟨by omega, by omega⟩ ⟨by omega, by omega⟩ (fun c38 => ?_) (fun c38 => ?_)
        · skip
          refine w_iload4 dX10_cutDegree_59 ?_
          refine w_forget4 ?_
          refine w_forget7 ?_
          refine L61 _ ?_
          show _ = ((if zcut p c k (3 * i + j) t = 0 then zdgA p c k v t (3 * i + j) else max (zdgA p c k v t (3 * i + j)) (if v = 0 then (3 * i + j) / 3 else (3 * i + j) % 3) : Nat) : Int)
          by_cases q : zcut p c k (3 * i + j) t = 0
          · rw [if_pos q]
            omega
          · rw [if_neg q]
            omega
        · skip
          refine w_aload0 dX10_cutDegree_41 (w_iload1 dX10_cutDegree_42 (w_iload5 dX10_cutDegree_43 (w_iload6 dX10_cutDegree_45 (w_iload3 dX10_cutDegree_47 ?_))))
          apply v_i4 (M := mX10_cutDegree) dX10_cutDegree_48 lk_RX10_163 mvX10_cut (by decide) meX10_cutDegree is_445 (Nat.le_of_ble_eq_true rfl)
          · exact t_X10_cut (k := k) (i := i) (j := j) hk hk3 hvi (by omega) hvj (by omega) hs hR ht
          intro x48 h48 hP48
          obtain ⟨eh48, ex48⟩ := hP48
          replace eh48 := eh48.symm
          subst eh48
          replace ex48 := ex48.symm
          subst ex48
          refine wp_if_eq 59 dX10_cutDegree_51 rfl ⟨by omega, by omega⟩ (fun c51 => ?_) (fun c51 => ?_)
          · skip
            refine w_iload4 dX10_cutDegree_59 ?_
            refine w_forget4 ?_
            refine w_forget7 ?_
            refine L61 _ ?_
            show _ = ((if zcut p c k (3 * i + j) t = 0 then zdgA p c k v t (3 * i + j) else max (zdgA p c k v t (3 * i + j)) (if v = 0 then (3 * i + j) / 3 else (3 * i + j) % 3) : Nat) : Int)
            by_cases q : zcut p c k (3 * i + j) t = 0
            · rw [if_pos q]
              omega
            · rw [if_neg q]
              omega
          · skip
            refine w_iload7 dX10_cutDegree_54 (wp_goto 61 dX10_cutDegree_56 rfl ?_)
            refine w_forget4 ?_
            refine w_forget7 ?_
            refine L61 _ ?_
            show _ = ((if zcut p c k (3 * i + j) t = 0 then zdgA p c k v t (3 * i + j) else max (zdgA p c k v t (3 * i + j)) (if v = 0 then (3 * i + j) / 3 else (3 * i + j) % 3) : Nat) : Int)
            by_cases q : zcut p c k (3 * i + j) t = 0
            · rw [if_pos q]
              omega
            · rw [if_neg q]
              omega
      refine w_iload6 dX10_cutDegree_15 (wp_iconst dX10_cutDegree_17 ?_)
      refine wp_icmp_ge 69 dX10_cutDegree_18 rfl ⟨by omega, by omega⟩ ⟨by omega, by omega⟩ (fun c18 => ?_) (fun c18 => ?_)
      · skip
        refine w_iinc5 dX10_cutDegree_69 rfl (by decide) (wp_goto 6 dX10_cutDegree_72 rfl ?_)
        refine w_forget6 ?_
        refine ih6 _ (by omega) (i + 1) _ _ rfl (by omega) (by omega) ?_
        rw [hs2, show 3 * (i + 1) = 3 * i + j by omega]
      · skip
        refine w_iload2 dX10_cutDegree_21 ?_
        refine wp_if_ne 30 dX10_cutDegree_22 rfl ⟨by omega, by omega⟩ (fun c22 => ?_) (fun c22 => ?_)
        · skip
          refine w_iload6 dX10_cutDegree_30 ?_
          first | exact L32 _ (by omega) (by rw [if_pos (by omega)]; exact hvi) | exact L32 _ (by omega) (by rw [if_neg (by omega)]; exact hvj)
        · skip
          refine w_iload5 dX10_cutDegree_25 (wp_goto 32 dX10_cutDegree_27 rfl ?_)
          first | exact L32 _ (by omega) (by rw [if_pos (by omega)]; exact hvi) | exact L32 _ (by omega) (by rw [if_neg (by omega)]; exact hvj)
    refine w_iload5 dX10_cutDegree_6 (wp_iconst dX10_cutDegree_8 ?_)
    refine wp_icmp_ge 75 dX10_cutDegree_9 rfl ⟨by omega, by omega⟩ ⟨by omega, by omega⟩ (fun c9 => ?_) (fun c9 => ?_)
    · skip
      refine w_iload4 dX10_cutDegree_75 ?_
      refine r_i dX10_cutDegree_77 rfl meX10_cutDegree ?_
      exact ⟨rfl, by rw [hss, show i = 3 by omega]⟩
    · skip
      refine wp_iconst dX10_cutDegree_12 (w_istore6 dX10_cutDegree_13 rfl (by decide) ?_)
      exact L15 _ 0 _ _ rfl (by omega) (Nat.zero_le _) rfl hss
  refine wp_iconst dX10_cutDegree_0 (w_istore4 dX10_cutDegree_1 rfl (by decide) (wp_iconst dX10_cutDegree_3 (w_istore5 dX10_cutDegree_4 rfl (by decide) ?_)))
  exact L6 _ 0 _ _ rfl (Nat.zero_le _) rfl rfl
set_option maxRecDepth 100000 in
set_option maxHeartbeats 4000000 in
theorem t_X10_greatest {h : zH} {vv p : Int} {v : Nat} (hv : vv = v) (hv3 : v < 3) {c : Nat → Nat → Int} (hs : zSt p c) (hR : zMr p c h) : CI yX10_greatest mX10_greatest [vR 445, vI vv] h (fun r h' => h' = h ∧ r = (zgd c v : Int)) := by
  refine inV [some (vR 445), some (vI vv), none, none] mvX10_greatest rfl (Nat.le_of_ble_eq_true rfl) rfl ?_
  have hf : ∀ k, k < 3 → ∀ j, j < 27 → h 446 (1 + 27 * k + j) = c k j ∧ 0 ≤ c k j ∧ c k j < 31 := fun k hk j hj => ⟨hR.2 k hk j hj, zSt_f hs k j⟩
  have L4 : ∀ (zm4 : Nat) (k : Nat) (s vk : Int), 3 - k = zm4 → (k ≤ 3) → (vk = (k : Int)) → (s = (zgN c v k : Int)) → WP mX10_greatest (zMQ mX10_greatest (zKI (fun r h' => h' = h ∧ r = (zgd c v : Int)))) 4 [some (vR 445), some (vI vv), some (vI s), some (vI vk)] [] zN zGR h := by
    intro zm4
    induction zm4 using Nat.strongRecOn with | _ zm4 ih4 => ?_
    intro k s vk hzm4 hk hvk hss
    subst hzm4
    have hdl := zdeg_le (f := c k) (v := v) 27 (Nat.le_refl _)
    have hgl : zgN c v k ≤ 2 := zgN_le k
    refine w_iload3 dX10_greatest_4 (wp_iconst dX10_greatest_5 ?_)
    refine wp_icmp_ge 36 dX10_greatest_6 rfl ⟨by omega, by omega⟩ ⟨by omega, by omega⟩ (fun c6 => ?_) (fun c6 => ?_)
    · skip
      refine w_iload2 dX10_greatest_36 ?_
      refine r_i dX10_greatest_37 rfl meX10_greatest ?_
      exact ⟨rfl, by rw [hss, show k = 3 by omega, zgN_3]⟩
    · skip
      refine w_aload0 dX10_greatest_9 (w_iload3 dX10_greatest_10 (w_iload1 dX10_greatest_11 ?_))
      apply v_i2 (M := mX10_greatest) dX10_greatest_12 lk_RX10_160 mvX10_degreeOf (by decide) meX10_greatest is_445 (Nat.le_of_ble_eq_true rfl)
      · exact t_X10_degreeOf hvk (by omega) hv hv3 (hf k (by omega))
      intro x12 h12 hP12
      obtain ⟨eh12, ex12⟩ := hP12
      replace eh12 := eh12.symm
      subst eh12
      replace ex12 := ex12.symm
      subst ex12
      refine w_iload2 dX10_greatest_15 ?_
      refine wp_icmp_le 28 dX10_greatest_16 rfl ⟨by omega, by omega⟩ ⟨by omega, by omega⟩ (fun c16 => ?_) (fun c16 => ?_)
      · skip
        refine w_iload2 dX10_greatest_28 (w_istore2 dX10_greatest_29 rfl (by decide) (w_iinc3 dX10_greatest_30 rfl (by decide) (wp_goto 4 dX10_greatest_33 rfl ?_)))
        refine ih4 _ (by omega) (k + 1) _ _ rfl (by omega) (by omega) ?_
        show _ = ((max (zgN c v k) (zdeg (c k) v 27) : Nat) : Int)
        omega
      · skip
        refine w_aload0 dX10_greatest_19 (w_iload3 dX10_greatest_20 (w_iload1 dX10_greatest_21 ?_))
        apply v_i2 (M := mX10_greatest) dX10_greatest_22 lk_RX10_160 mvX10_degreeOf (by decide) meX10_greatest is_445 (Nat.le_of_ble_eq_true rfl)
        · exact t_X10_degreeOf hvk (by omega) hv hv3 (hf k (by omega))
        intro x22 h22 hP22
        obtain ⟨eh22, ex22⟩ := hP22
        replace eh22 := eh22.symm
        subst eh22
        replace ex22 := ex22.symm
        subst ex22
        refine wp_goto 29 dX10_greatest_25 rfl (w_istore2 dX10_greatest_29 rfl (by decide) (w_iinc3 dX10_greatest_30 rfl (by decide) (wp_goto 4 dX10_greatest_33 rfl ?_)))
        refine ih4 _ (by omega) (k + 1) _ _ rfl (by omega) (by omega) ?_
        show _ = ((max (zgN c v k) (zdeg (c k) v 27) : Nat) : Int)
        omega
  refine wp_iconst dX10_greatest_0 (w_istore2 dX10_greatest_1 rfl (by decide) (wp_iconst dX10_greatest_2 (w_istore3 dX10_greatest_3 rfl (by decide) ?_)))
  exact L4 _ 0 _ _ rfl (Nat.zero_le _) rfl rfl
set_option maxRecDepth 100000 in
set_option maxHeartbeats 4000000 in
theorem t_X10_isMatrix {h : zH} {p : Int} {c : Nat → Nat → Int} (hs : zSt p c) (hR : zMr p c h) : CI yX10_isMatrix mX10_isMatrix [vR 445] h (fun r h' => h' = h ∧ (r = 0 ∨ r = 1) ∧ (r = 1 ↔ zsd c ≠ 0)) := by
  refine inV [some (vR 445)] mvX10_isMatrix rfl (Nat.le_of_ble_eq_true rfl) rfl ?_
  have g0 := zgd_le c 0
  have g1 := zgd_le c 1
  have gz := zsd_mn (c := c)
  have L21 : ∀ (w : Int), ((w = 0 ∨ w = 1) ∧ (w = 1 ↔ zsd c ≠ 0)) → WP mX10_isMatrix (zMQ mX10_isMatrix (zKI (fun r h' => h' = h ∧ (r = 0 ∨ r = 1) ∧ (r = 1 ↔ zsd c ≠ 0)))) 21 [none] [vI w] zN zGR h := by
    intro w hv
    refine r_z dX10_isMatrix_21 rfl meX10_isMatrix (by first | exact Or.inl rfl | exact Or.inr rfl | omega) ?_
    exact ⟨rfl, hv⟩
  refine w_aload0 dX10_isMatrix_0 (wp_iconst dX10_isMatrix_1 ?_)
  apply v_i1 (M := mX10_isMatrix) dX10_isMatrix_2 lk_RX10_170 mvX10_greatest (by decide) meX10_isMatrix is_445 (Nat.le_of_ble_eq_true rfl)
  · exact t_X10_greatest (v := 0) rfl (by decide) hs hR
  intro x2 h2 hP2
  obtain ⟨eh2, ex2⟩ := hP2
  replace eh2 := eh2.symm
  subst eh2
  replace ex2 := ex2.symm
  subst ex2
  refine wp_if_le 20 dX10_isMatrix_5 rfl ⟨by omega, by omega⟩ (fun c5 => ?_) (fun c5 => ?_)
  · skip
    refine wp_iconst dX10_isMatrix_20 ?_
    refine w_forget0 ?_
    first
    | exact L21 _ ⟨Or.inr rfl, fun _ => gz.mpr (by omega), fun _ => rfl⟩
    | exact L21 _ ⟨Or.inl rfl, fun q => absurd q (by decide), fun q => by have := gz.mp q; omega⟩
  · skip
    refine w_aload0 dX10_isMatrix_8 (wp_iconst dX10_isMatrix_9 ?_)
    apply v_i1 (M := mX10_isMatrix) dX10_isMatrix_10 lk_RX10_170 mvX10_greatest (by decide) meX10_isMatrix is_445 (Nat.le_of_ble_eq_true rfl)
    · exact t_X10_greatest (v := 1) rfl (by decide) hs hR
    intro x10 h10 hP10
    obtain ⟨eh10, ex10⟩ := hP10
    replace eh10 := eh10.symm
    subst eh10
    replace ex10 := ex10.symm
    subst ex10
    refine wp_if_le 20 dX10_isMatrix_13 rfl ⟨by omega, by omega⟩ (fun c13 => ?_) (fun c13 => ?_)
    · skip
      refine wp_iconst dX10_isMatrix_20 ?_
      refine w_forget0 ?_
      first
      | exact L21 _ ⟨Or.inr rfl, fun _ => gz.mpr (by omega), fun _ => rfl⟩
      | exact L21 _ ⟨Or.inl rfl, fun q => absurd q (by decide), fun q => by have := gz.mp q; omega⟩
    · skip
      refine wp_iconst dX10_isMatrix_16 (wp_goto 21 dX10_isMatrix_17 rfl ?_)
      refine w_forget0 ?_
      first
      | exact L21 _ ⟨Or.inr rfl, fun _ => gz.mpr (by omega), fun _ => rfl⟩
      | exact L21 _ ⟨Or.inl rfl, fun q => absurd q (by decide), fun q => by have := gz.mp q; omega⟩
set_option maxRecDepth 100000 in
set_option maxHeartbeats 4000000 in
theorem t_X10_here {h : zH} {tx : Nat → Int} {L i : Nat} (H : zTy tx L i h) : CI yX10_here mX10_here [vR 445] h (fun r h' => h' = h ∧ r = zhr tx L i) := by
  refine inV [some (vR 445)] mvX10_here rfl (Nat.le_of_ble_eq_true rfl) rfl ?_
  obtain ⟨h1, h2, h3, h4, h5⟩ := H
  refine w_aload0 dX10_here_0 (wp_geti dX10_here_1 fl_RX10_112 is_445 (w_aload0 dX10_here_4 (wp_geti dX10_here_5 fl_RX10_109 is_445 ?_)))
  rw [h1, h3]
  refine wp_icmp_ge 23 dX10_here_8 rfl ⟨by omega, by omega⟩ ⟨by omega, by omega⟩ (fun c8 => ?_) (fun c8 => ?_)
  · skip
    refine wp_bipush dX10_here_23 (by decide) ?_
    refine r_i dX10_here_25 rfl meX10_here ?_
    refine ⟨rfl, ?_⟩
    unfold zhr
    first | (rw [if_pos (by omega)]; exact (h5 i (by omega)).1) | rw [if_neg (by omega)]
  · skip
    refine w_aload0 dX10_here_11 (wp_getr 448 dX10_here_12 fl_RX10_16 is_445 rfl (w_aload0 dX10_here_15 (wp_geti dX10_here_16 fl_RX10_112 is_445 ?_)))
    rw [h3]
    refine x_iald i dX10_here_19 is_448 rfl (by omega) (wp_goto 25 dX10_here_20 rfl ?_)
    refine r_i dX10_here_25 rfl meX10_here ?_
    refine ⟨rfl, ?_⟩
    unfold zhr
    first | (rw [if_pos (by omega)]; exact (h5 i (by omega)).1) | rw [if_neg (by omega)]
set_option maxRecDepth 100000 in
set_option maxHeartbeats 4000000 in
theorem t_X10_skips {h : zH} {tx : Nat → Int} {L i : Nat} (H : zTy tx L i h) : CV yX10_skips mX10_skips [vR 445] h (fun h' => h' = zup h 445 5 (zsk tx L i : Int)) := by
  refine inV [some (vR 445)] mvX10_skips rfl (Nat.le_of_ble_eq_true rfl) rfl ?_
  have L0 : ∀ (zm0 : Nat) (q : Nat) (h' : zH), L - q = zm0 → (q ≤ L) → (h' = zup h 445 5 (q : Int)) → (zsk tx L q = zsk tx L i) → WP mX10_skips (zMQ mX10_skips (zKV (fun h' => h' = zup h 445 5 (zsk tx L i : Int)))) 0 [some (vR 445)] [] zN zGR h' := by
    intro zm0
    induction zm0 using Nat.strongRecOn with | _ zm0 ih0 => ?_
    intro q h' hzm0 hq hh hz
    subst hzm0
    have H' : zTy tx L q h' := by rw [hh]; exact zTy_up H hq
    have hc := zTy_c H q
    have k5 : h' 445 5 = (q : Int) := H'.2.2.1
    refine w_aload0 dX10_skips_0 ?_
    apply v_i0 (M := mX10_skips) dX10_skips_1 lk_RX10_115 mvX10_here (by decide) meX10_skips is_445 (Nat.le_of_ble_eq_true rfl)
    · exact t_X10_here H'
    intro x1 h1 hP1
    obtain ⟨eh1, ex1⟩ := hP1
    replace eh1 := eh1.symm
    subst eh1
    replace ex1 := ex1.symm
    subst ex1
    refine wp_bipush dX10_skips_4 (by decide) ?_
    refine wp_icmp_ne 22 dX10_skips_6 rfl ⟨by omega, by omega⟩ ⟨by omega, by omega⟩ (fun c6 => ?_) (fun c6 => ?_)
    · skip
      refine r_v dX10_skips_22 rfl meX10_skips ?_
      rw [hh, ← hz, zsk_stop (by omega)]
    · skip
      refine w_aload0 dX10_skips_9 (wp_dup dX10_skips_10 rfl (wp_geti dX10_skips_11 fl_RX10_112 is_445 ?_))
      rw [k5]
      refine wp_iconst dX10_skips_14 (wp_iadd dX10_skips_15 (wp_puti dX10_skips_16 fl_RX10_112 is_445 rfl (wp_goto 0 dX10_skips_19 rfl ?_)))
      refine ih0 _ (by omega) (q + 1) _ rfl (by omega) ?_ ?_
      · rw [hh, zup_up, show (q : Int) + 1 = ((q + 1 : Nat) : Int) by omega]
      · rw [← hz, zsk_step (tx := tx) (L := L) (i := q) ⟨by omega, by omega⟩]
  exact L0 _ i h rfl H.2.2.2.1 (zup_id H.2.2.1).symm rfl
set_option maxRecDepth 100000 in
set_option maxHeartbeats 4000000 in
theorem t_X10_isDigit {h : zH} {tx : Nat → Int} {L i : Nat} (H : zTy tx L i h) : CI yX10_isDigit mX10_isDigit [vR 445] h (fun r h' => h' = h ∧ (r = 0 ∨ r = 1) ∧ (r = 1 ↔ 48 ≤ zpeek tx L i ∧ zpeek tx L i ≤ 57)) := by
  refine inV [some (vR 445)] mvX10_isDigit rfl (Nat.le_of_ble_eq_true rfl) rfl ?_
  have hc := zTy_c H i
  refine w_aload0 dX10_isDigit_0 ?_
  apply v_i0 (M := mX10_isDigit) dX10_isDigit_1 lk_RX10_115 mvX10_here (by decide) meX10_isDigit is_445 (Nat.le_of_ble_eq_true rfl)
  · exact t_X10_here H
  intro x1 h1 hP1
  obtain ⟨eh1, ex1⟩ := hP1
  replace eh1 := eh1.symm
  subst eh1
  replace ex1 := ex1.symm
  subst ex1
  refine wp_bipush dX10_isDigit_4 (by decide) (wp_bipush dX10_isDigit_6 (by decide) ?_)
  apply s_i3 (M := mX10_isDigit) dX10_isDigit_8 lk_RX10_80 mvX10_in (by decide) meX10_isDigit (Nat.le_of_ble_eq_true rfl)
  · exact t_X10_in ⟨by omega, by omega⟩ ⟨by decide, by decide⟩ ⟨by decide, by decide⟩
  intro x8 h8 hP8
  obtain ⟨eh8, hP8⟩ := hP8
  replace eh8 := eh8.symm
  subst eh8
  refine r_z dX10_isDigit_11 rfl meX10_isDigit hP8.1 ?_
  exact ⟨rfl, hP8.1, by omega⟩
set_option maxRecDepth 100000 in
set_option maxHeartbeats 4000000 in
theorem t_X10_bits {h : zH} {ss : Int} {m : Nat} (hm : ss = m) (hm31 : m < 2147483648) : CI yX10_bits mX10_bits [vI ss] h (fun r h' => h' = h ∧ r = (zbc m 31 : Int)) := by
  refine inS [some (vI ss), none, none] mvX10_bits rfl (Nat.le_of_ble_eq_true rfl) rfl ?_
  subst hm
  have L4 : ∀ (zm4 : Nat) (i : Nat) (s vi : Int), 31 - i = zm4 → (i ≤ 31) → (vi = (i : Int)) → (s = (zbc m i : Int)) → WP mX10_bits (zMQ mX10_bits (zKI (fun r h' => h' = h ∧ r = (zbc m 31 : Int)))) 4 [some (vI (m : Int)), some (vI s), some (vI vi)] [] zN zGR h := by
    intro zm4
    induction zm4 using Nat.strongRecOn with | _ zm4 ih4 => ?_
    intro i s vi hzm4 hi hvi hs
    subst hzm4
    refine w_iload2 dX10_bits_4 (wp_bipush dX10_bits_5 (by decide) ?_)
    refine wp_icmp_ge 24 dX10_bits_7 rfl ⟨by omega, by omega⟩ ⟨by omega, by omega⟩ (fun c7 => ?_) (fun c7 => ?_)
    · skip
      refine w_iload1 dX10_bits_24 ?_
      refine r_i dX10_bits_25 rfl meX10_bits ?_
      exact ⟨rfl, by rw [hs, show i = 31 by omega]⟩
    · skip
      refine w_iload1 dX10_bits_10 (w_iload0 dX10_bits_11 (w_iload2 dX10_bits_12 (wp_ishr dX10_bits_13 ⟨by omega, by omega⟩ (by omega) (wp_iconst dX10_bits_14 (wp_iand dX10_bits_15 (by rw [hvi]; exact z_sh i hm31) (by omega) (wp_iadd dX10_bits_16 (w_istore1 dX10_bits_17 rfl (by decide) (w_iinc2 dX10_bits_18 rfl (by decide) (wp_goto 4 dX10_bits_21 rfl ?_)))))))))
      refine ih4 _ (by omega) (i + 1) _ _ rfl (by omega) (by omega) ?_
      rw [hvi, z_bt]
      show _ = ((zbc m i + m / 2 ^ i % 2 : Nat) : Int)
      omega
  refine wp_iconst dX10_bits_0 (w_istore1 dX10_bits_1 rfl (by decide) (wp_iconst dX10_bits_2 (w_istore2 dX10_bits_3 rfl (by decide) ?_)))
  exact L4 _ 0 _ _ rfl (Nat.zero_le _) rfl rfl
set_option maxRecDepth 100000 in
set_option maxHeartbeats 4000000 in
theorem t_X10_place {h : zH} {ss kk : Int} {P : Nat → Prop} {N k : Nat} (hN : N ≤ 8) (hS : ss = (zmk P N : Int)) (hk : kk = k) (hk2 : k < zct P N) : CI yX10_place mX10_place [vI ss, vI kk] h (fun r h' => h' = h ∧ r = (zms P N k : Int)) := by
  refine inS [some (vI ss), some (vI kk), none, none, none] mvX10_place rfl (Nat.le_of_ble_eq_true rfl) rfl ?_
  have hmb := zmk_b8 (P := P) (i := N) (by omega)
  have hc8 := zct_le (P := P) N
  subst hS
  have L7 : ∀ (zm7 : Nat) (i : Nat) (f n vi : Int), 8 - i = zm7 → (i ≤ 8) → (vi = (i : Int)) → (n = (k : Int) - (zct P (min i N) : Int)) → (k < zct P (min i N) → f = (zms P (min i N) k : Int)) → WP mX10_place (zMQ mX10_place (zKI (fun r h' => h' = h ∧ r = (zms P N k : Int)))) 7 [some (vI (zmk P N : Int)), none, some (vI f), some (vI n), some (vI vi)] [] zN zGR h := by
    intro zm7
    induction zm7 using Nat.strongRecOn with | _ zm7 ih7 => ?_
    intro i f n vi hzm7 hi hvi hn hf
    subst hzm7
    have hci := zct_le (P := P) (min i N)
    refine w_iload4 dX10_place_7 (wp_bipush dX10_place_9 (by decide) ?_)
    refine wp_icmp_ge 44 dX10_place_11 rfl ⟨by omega, by omega⟩ ⟨by omega, by omega⟩ (fun c11 => ?_) (fun c11 => ?_)
    · skip
      refine w_iload2 dX10_place_44 ?_
      refine r_i dX10_place_45 rfl meX10_place ?_
      have e : min i N = N := by omega
      rw [e] at hf
      exact ⟨rfl, hf hk2⟩
    · skip
      refine w_iload0 dX10_place_14 (w_iload4 dX10_place_15 (wp_ishr dX10_place_17 ⟨by omega, by omega⟩ (by omega) (wp_iconst dX10_place_18 (wp_iand dX10_place_19 (by rw [hvi]; exact z_sh i hmb) (by omega) (wp_iconst dX10_place_20 ?_)))))
      rw [hvi, z_bt]
      refine wp_icmp_ne 38 dX10_place_21 rfl ⟨by omega, by omega⟩ ⟨by omega, by omega⟩ (fun c21 => ?_) (fun c21 => ?_)
      · skip
        refine w_iinc4 dX10_place_38 rfl (by decide) (wp_goto 7 dX10_place_41 rfl ?_)
        by_cases c9 : zmk P N / 2 ^ i % 2 = 1
        · first
          | (exfalso; omega)
          | (skip
             have hiN : i < N := by
               by_cases w : i < N
               · exact w
               · exfalso
                 have h1 := zmk_lt (P := P) N
                 have h2 : 2 ^ N ≤ 2 ^ i := Nat.pow_le_pow_right (by omega) (by omega)
                 rw [Nat.div_eq_of_lt (by omega)] at c9
                 exact absurd c9 (by decide)
             have hPi := (zmk_bit (P := P) N i hiN).mp c9
             have e1 : min i N = i := by omega
             have e2 : min (i + 1) N = i + 1 := by omega
             rw [e1] at hn hf
             refine ih7 _ (by omega) (i + 1) _ _ _ rfl (by omega) (by omega) ?_ ?_
             · rw [e2, zct_y hPi]
               omega
             · rw [e2, zct_y hPi, zms_y hPi]
               intro q
               unfold zupN
               by_cases q2 : k = zct P i
               · first
                 | (exfalso; omega)
                 | (rw [if_pos q2]; done)
                 | (rw [if_pos q2]; exact hvi)
               · first
                 | (exfalso; omega)
                 | (rw [if_neg q2]; exact hf (by omega)))
        · first
          | (exfalso; omega)
          | (skip
             refine ih7 _ (by omega) (i + 1) _ _ _ rfl (by omega) (by omega) ?_ ?_
             · by_cases w : i < N
               · rw [show min (i + 1) N = i + 1 by omega, zct_n (fun q => by have := (zmk_bit (P := P) N i w).mpr q; omega), hn, show min i N = i by omega]
               · rw [show min (i + 1) N = min i N by omega]; exact hn
             · by_cases w : i < N
               · rw [show min (i + 1) N = i + 1 by omega, zct_n (fun q => by have := (zmk_bit (P := P) N i w).mpr q; omega), zms_n (fun q => by have := (zmk_bit (P := P) N i w).mpr q; omega)]
                 rw [show min i N = i by omega] at hf
                 exact hf
               · rw [show min (i + 1) N = min i N by omega]; exact hf)
      · skip
        refine w_iload3 dX10_place_24 ?_
        refine wp_if_ne 33 dX10_place_25 rfl ⟨by omega, by omega⟩ (fun c25 => ?_) (fun c25 => ?_)
        · skip
          refine w_iload2 dX10_place_33 (w_istore2 dX10_place_34 rfl (by decide) (w_iinc3 dX10_place_35 rfl (by decide) (w_iinc4 dX10_place_38 rfl (by decide) (wp_goto 7 dX10_place_41 rfl ?_))))
          by_cases c9 : zmk P N / 2 ^ i % 2 = 1
          · first
            | (exfalso; omega)
            | (skip
               have hiN : i < N := by
                 by_cases w : i < N
                 · exact w
                 · exfalso
                   have h1 := zmk_lt (P := P) N
                   have h2 : 2 ^ N ≤ 2 ^ i := Nat.pow_le_pow_right (by omega) (by omega)
                   rw [Nat.div_eq_of_lt (by omega)] at c9
                   exact absurd c9 (by decide)
               have hPi := (zmk_bit (P := P) N i hiN).mp c9
               have e1 : min i N = i := by omega
               have e2 : min (i + 1) N = i + 1 := by omega
               rw [e1] at hn hf
               refine ih7 _ (by omega) (i + 1) _ _ _ rfl (by omega) (by omega) ?_ ?_
               · rw [e2, zct_y hPi]
                 omega
               · rw [e2, zct_y hPi, zms_y hPi]
                 intro q
                 unfold zupN
                 by_cases q2 : k = zct P i
                 · first
                   | (exfalso; omega)
                   | (rw [if_pos q2]; done)
                   | (rw [if_pos q2]; exact hvi)
                 · first
                   | (exfalso; omega)
                   | (rw [if_neg q2]; exact hf (by omega)))
          · first
            | (exfalso; omega)
            | (skip
               refine ih7 _ (by omega) (i + 1) _ _ _ rfl (by omega) (by omega) ?_ ?_
               · by_cases w : i < N
                 · rw [show min (i + 1) N = i + 1 by omega, zct_n (fun q => by have := (zmk_bit (P := P) N i w).mpr q; omega), hn, show min i N = i by omega]
                 · rw [show min (i + 1) N = min i N by omega]; exact hn
               · by_cases w : i < N
                 · rw [show min (i + 1) N = i + 1 by omega, zct_n (fun q => by have := (zmk_bit (P := P) N i w).mpr q; omega), zms_n (fun q => by have := (zmk_bit (P := P) N i w).mpr q; omega)]
                   rw [show min i N = i by omega] at hf
                   exact hf
                 · rw [show min (i + 1) N = min i N by omega]; exact hf)
        · skip
          refine w_iload4 dX10_place_28 (wp_goto 34 dX10_place_30 rfl (w_istore2 dX10_place_34 rfl (by decide) (w_iinc3 dX10_place_35 rfl (by decide) (w_iinc4 dX10_place_38 rfl (by decide) (wp_goto 7 dX10_place_41 rfl ?_)))))
          by_cases c9 : zmk P N / 2 ^ i % 2 = 1
          · first
            | (exfalso; omega)
            | (skip
               have hiN : i < N := by
                 by_cases w : i < N
                 · exact w
                 · exfalso
                   have h1 := zmk_lt (P := P) N
                   have h2 : 2 ^ N ≤ 2 ^ i := Nat.pow_le_pow_right (by omega) (by omega)
                   rw [Nat.div_eq_of_lt (by omega)] at c9
                   exact absurd c9 (by decide)
               have hPi := (zmk_bit (P := P) N i hiN).mp c9
               have e1 : min i N = i := by omega
               have e2 : min (i + 1) N = i + 1 := by omega
               rw [e1] at hn hf
               refine ih7 _ (by omega) (i + 1) _ _ _ rfl (by omega) (by omega) ?_ ?_
               · rw [e2, zct_y hPi]
                 omega
               · rw [e2, zct_y hPi, zms_y hPi]
                 intro q
                 unfold zupN
                 by_cases q2 : k = zct P i
                 · first
                   | (exfalso; omega)
                   | (rw [if_pos q2]; done)
                   | (rw [if_pos q2]; exact hvi)
                 · first
                   | (exfalso; omega)
                   | (rw [if_neg q2]; exact hf (by omega)))
          · first
            | (exfalso; omega)
            | (skip
               refine ih7 _ (by omega) (i + 1) _ _ _ rfl (by omega) (by omega) ?_ ?_
               · by_cases w : i < N
                 · rw [show min (i + 1) N = i + 1 by omega, zct_n (fun q => by have := (zmk_bit (P := P) N i w).mpr q; omega), hn, show min i N = i by omega]
                 · rw [show min (i + 1) N = min i N by omega]; exact hn
               · by_cases w : i < N
                 · rw [show min (i + 1) N = i + 1 by omega, zct_n (fun q => by have := (zmk_bit (P := P) N i w).mpr q; omega), zms_n (fun q => by have := (zmk_bit (P := P) N i w).mpr q; omega)]
                   rw [show min i N = i by omega] at hf
                   exact hf
                 · rw [show min (i + 1) N = min i N by omega]; exact hf)
  refine wp_iconst dX10_place_0 (w_istore2 dX10_place_1 rfl (by decide) (w_iload1 dX10_place_2 (w_istore3 dX10_place_3 rfl (by decide) (wp_iconst dX10_place_4 (w_istore4 dX10_place_5 rfl (by decide) ?_)))))
  refine w_forget1 ?_
  exact L7 _ 0 _ _ _ rfl (Nat.zero_le _) rfl (by rw [Nat.zero_min]; show kk = (k : Int) - ((0 : Nat) : Int); omega) (fun q => by rw [Nat.zero_min] at q; exact absurd q (Nat.not_lt_zero k))
set_option maxRecDepth 100000 in
set_option maxHeartbeats 4000000 in
theorem t_X10_valueAt {h : zH} {t p : Int} {a : Nat} (ha : zIs zN a (10, 49)) (ht : 0 ≤ t ∧ t < p) (hp : 5 ≤ p ∧ p ≤ 31) (hp0 : h 446 0 = p) (hf : ∀ j, j < 49 → 0 ≤ h a j ∧ h a j < p) : CI yX10_valueAt mX10_valueAt [vR 445, vR a, vI t] h (fun r h' => h' = h ∧ r = zhor t p 49 (h a)) := by
  refine inV [some (vR 445), some (vR a), some (vI t), none, none] mvX10_valueAt rfl (Nat.le_of_ble_eq_true rfl) rfl ?_
  have hpp : 0 < p := by omega
  have L6 : ∀ (zm6 : Nat) (e : Nat) (s vi : Int), e = zm6 → (e ≤ 49) → (vi = (e : Int) - 1) → (s = zhor t p (49 - e) (fun j => h a (j + e))) → WP mX10_valueAt (zMQ mX10_valueAt (zKI (fun r h' => h' = h ∧ r = zhor t p 49 (h a)))) 6 [some (vR 445), some (vR a), some (vI t), some (vI s), some (vI vi)] [] zN zGR h := by
    intro zm6
    induction zm6 using Nat.strongRecOn with | _ zm6 ih6 => ?_
    intro e s vi hzm6 he hv hs
    subst hzm6
    have hsb := zhor_in (t := t) hpp (49 - e) (fun j => h a (j + e))
    rw [← hs] at hsb
    have hst := z_mul hsb ht hp.2
    refine w_iload4 dX10_valueAt_6 ?_
    refine wp_if_lt 31 dX10_valueAt_8 rfl ⟨by omega, by omega⟩ (fun c8 => ?_) (fun c8 => ?_)
    · skip
      refine w_iload3 dX10_valueAt_31 ?_
      refine r_i dX10_valueAt_32 rfl meX10_valueAt ?_
      refine ⟨rfl, ?_⟩
      rw [hs, show e = 0 by omega]
      rfl
    · skip
      have hfe := hf (e - 1) (by omega)
      refine w_iload3 dX10_valueAt_11 (w_iload2 dX10_valueAt_12 (wp_imul dX10_valueAt_13 (w_aload1 dX10_valueAt_14 (w_iload4 dX10_valueAt_15 (x_iald (e - 1) dX10_valueAt_17 ha (by omega) (by omega) (wp_iadd dX10_valueAt_18 (w_aload0 dX10_valueAt_19 ?_)))))))
      apply v_i0 (M := mX10_valueAt) dX10_valueAt_20 lk_RX10_76 mvX10_p (by decide) meX10_valueAt is_445 (Nat.le_of_ble_eq_true rfl)
      · exact t_X10_p hp0
      intro x20 h20 hP20
      obtain ⟨eh20, ex20⟩ := hP20
      replace eh20 := eh20.symm
      subst eh20
      replace ex20 := ex20.symm
      subst ex20
      refine wp_irem dX10_valueAt_23 (by omega) (by omega) (w_istore3 dX10_valueAt_24 rfl (by decide) (w_iinc4 dX10_valueAt_25 rfl (by decide) (wp_goto 6 dX10_valueAt_28 rfl ?_)))
      refine ih6 (e - 1) (by omega) (e - 1) _ _ rfl (by omega) (by omega) ?_
      rw [show 49 - (e - 1) = 49 - e + 1 by omega]
      show _ = (zhor t p (49 - e) (fun j => h a (j + 1 + (e - 1))) * t + h a (0 + (e - 1))) % p
      rw [zhor_congr (49 - e) (fun j => h a (j + 1 + (e - 1))) (fun j => h a (j + e)) (fun j _ => by rw [show j + 1 + (e - 1) = j + e by omega]), ← hs, Nat.zero_add]
  refine wp_iconst dX10_valueAt_0 (w_istore3 dX10_valueAt_1 rfl (by decide) (wp_bipush dX10_valueAt_2 (by decide) (w_istore4 dX10_valueAt_4 rfl (by decide) ?_)))
  exact L6 _ 49 0 _ rfl (Nat.le_refl _) rfl (by rw [Nat.sub_self]; rfl)
set_option maxRecDepth 100000 in
set_option maxHeartbeats 4000000 in
theorem t_X10_divides {h : zH} {c p : Int} {a : Nat} (ha : zIs zN a (10, 49)) (hne : a ≠ 446) (hc : 0 ≤ c ∧ c < p) (hp : 5 ≤ p ∧ p ≤ 31) (hp0 : h 446 0 = p) (hf : ∀ j, j < 49 → 0 ≤ h a j ∧ h a j < p) : CV yX10_divides mX10_divides [vR 445, vR a, vI c] h (fun h' => h' = zfl h a 49 (zdv c p 49 (h a))) := by
  refine inV [some (vR 445), some (vR a), some (vI c), none, none, none] mvX10_divides rfl (Nat.le_of_ble_eq_true rfl) rfl ?_
  have hpp : 0 < p := by omega
  have L6 : ∀ (zm6 : Nat) (e : Nat) (h' : zH) (s vi : Int), e = zm6 → (e ≤ 49) → (vi = (e : Int) - 1) → (h' = fun b j => if b = a ∧ e ≤ j ∧ j < 49 then zdv c p 49 (h a) j else h b j) → (s = zhor c p (49 - e) (fun j => h a (j + e))) → WP mX10_divides (zMQ mX10_divides (zKV (fun h' => h' = zfl h a 49 (zdv c p 49 (h a))))) 6 [some (vR 445), some (vR a), some (vI c), some (vI s), some (vI vi), none] [] zN zGR h' := by
    intro zm6
    induction zm6 using Nat.strongRecOn with | _ zm6 ih6 => ?_
    intro e h' s vi hzm6 he hvi hh hs
    subst hzm6
    have hsb := zhor_in (t := c) hpp (49 - e) (fun j => h a (j + e))
    rw [← hs] at hsb
    have hst := z_mul hsb hc hp.2
    have hq0 : h' 446 0 = p := by rw [hh]; dsimp only; rw [if_neg (by omega)]; exact hp0
    refine w_iload4 dX10_divides_6 ?_
    refine wp_if_lt 40 dX10_divides_8 rfl ⟨by omega, by omega⟩ (fun c8 => ?_) (fun c8 => ?_)
    · skip
      refine r_v dX10_divides_40 rfl meX10_divides ?_
      rw [hh, show e = 0 by omega]
      funext b j
      unfold zfl
      by_cases q : b = a ∧ j < 49
      · rw [if_pos q, if_pos (by omega)]
      · rw [if_neg q, if_neg (by omega)]
    · skip
      refine w_aload1 dX10_divides_11 (w_iload4 dX10_divides_12 (x_iald (e - 1) dX10_divides_14 ha (by omega) (by omega) ?_))
      have e1 : h' a (e - 1) = h a (e - 1) := by rw [hh]; dsimp only; rw [if_neg (by omega)]
      rw [e1]
      have hfe := hf (e - 1) (by omega)
      refine w_iload3 dX10_divides_15 (w_iload2 dX10_divides_16 (wp_imul dX10_divides_17 (wp_iadd dX10_divides_18 (w_aload0 dX10_divides_19 ?_))))
      apply v_i0 (M := mX10_divides) dX10_divides_20 lk_RX10_76 mvX10_p (by decide) meX10_divides is_445 (Nat.le_of_ble_eq_true rfl)
      · exact t_X10_p hq0
      intro x20 h20 hP20
      obtain ⟨eh20, ex20⟩ := hP20
      replace eh20 := eh20.symm
      subst eh20
      replace ex20 := ex20.symm
      subst ex20
      refine wp_irem dX10_divides_23 (by omega) (by omega) (w_istore5 dX10_divides_24 rfl (by decide) (w_aload1 dX10_divides_26 (w_iload4 dX10_divides_27 (w_iload3 dX10_divides_29 (x_iast (e - 1) dX10_divides_30 ha (by omega) (by omega) (w_iload5 dX10_divides_31 (w_istore3 dX10_divides_33 rfl (by decide) (w_iinc4 dX10_divides_34 rfl (by decide) (wp_goto 6 dX10_divides_37 rfl ?_)))))))))
      refine w_forget5 ?_
      refine ih6 _ (by omega) (e - 1) _ _ _ rfl (by omega) (by omega) ?_ ?_
      · rw [hh]
        funext b j
        unfold zup
        try dsimp only
        by_cases q : b = a ∧ j = e - 1
        · rw [if_pos q, if_pos (by omega)]
          unfold zdv
          rw [if_pos (by omega), hs, q.2, show 49 - 1 - (e - 1) = 49 - e by omega]
          exact zhor_congr _ _ _ (fun i _ => by rw [show i + (e - 1) + 1 = i + e by omega])
        · rw [if_neg q]
          by_cases q2 : b = a ∧ e ≤ j ∧ j < 49
          · rw [if_pos q2, if_pos (by omega)]
          · rw [if_neg q2, if_neg (by omega)]
      · rw [show 49 - (e - 1) = 49 - e + 1 by omega]
        show _ = (zhor c p (49 - e) (fun j => h a (j + 1 + (e - 1))) * c + h a (0 + (e - 1))) % p
        rw [zhor_congr (49 - e) (fun j => h a (j + 1 + (e - 1))) (fun j => h a (j + e)) (fun i _ => by rw [show i + 1 + (e - 1) = i + e by omega]), ← hs, Nat.zero_add, Int.add_comm]
  refine wp_iconst dX10_divides_0 (w_istore3 dX10_divides_1 rfl (by decide) (wp_bipush dX10_divides_2 (by decide) (w_istore4 dX10_divides_4 rfl (by decide) ?_)))
  exact L6 _ 49 h 0 _ rfl (Nat.le_refl _) rfl (by funext b j; rw [if_neg (by omega)]) (by rw [Nat.sub_self]; rfl)
set_option maxRecDepth 100000 in
set_option maxHeartbeats 4000000 in
theorem t_X10_degreeIn {h : zH} {a : Nat} (ha : zIs zN a (10, 49)) (hb : ∀ e, e < 49 → zin (h a e)) : CI yX10_degreeIn mX10_degreeIn [vR a] h (fun r h' => h' = h ∧ r = (ztop (h a) 49 : Int)) := by
  refine inS [some (vR a), none] mvX10_degreeIn rfl (Nat.le_of_ble_eq_true rfl) rfl ?_
  have L3 : ∀ (zm3 : Nat) (e : Nat) (vi : Int), e = zm3 → (e < 49) → (vi = (e : Int)) → (ztop (h a) 49 = ztop (h a) (e + 1)) → WP mX10_degreeIn (zMQ mX10_degreeIn (zKI (fun r h' => h' = h ∧ r = (ztop (h a) 49 : Int)))) 3 [some (vR a), some (vI vi)] [] zN zGR h := by
    intro zm3
    induction zm3 using Nat.strongRecOn with | _ zm3 ih3 => ?_
    intro e vi hzm3 he hvi hz
    subst hzm3
    refine w_iload1 dX10_degreeIn_3 ?_
    refine wp_if_le 19 dX10_degreeIn_4 rfl ⟨by omega, by omega⟩ (fun c4 => ?_) (fun c4 => ?_)
    · skip
      refine w_iload1 dX10_degreeIn_19 ?_
      refine r_i dX10_degreeIn_20 rfl meX10_degreeIn ?_
      refine ⟨rfl, ?_⟩
      rw [hz]
      show _ = ((if e = 0 then 0 else if h a e = 0 then ztop (h a) e else e : Nat) : Int)
      by_cases q : e = 0
      · rw [if_pos q]; omega
      · rw [if_neg q, if_neg (by first | exact c10 | (exfalso; omega))]
        exact hvi
    · skip
      refine w_aload0 dX10_degreeIn_7 (w_iload1 dX10_degreeIn_8 (x_iald e dX10_degreeIn_9 ha hvi he ?_))
      have hbe := hb e he
      refine wp_if_ne 19 dX10_degreeIn_10 rfl hbe (fun c10 => ?_) (fun c10 => ?_)
      · skip
        refine w_iload1 dX10_degreeIn_19 ?_
        refine r_i dX10_degreeIn_20 rfl meX10_degreeIn ?_
        refine ⟨rfl, ?_⟩
        rw [hz]
        show _ = ((if e = 0 then 0 else if h a e = 0 then ztop (h a) e else e : Nat) : Int)
        by_cases q : e = 0
        · rw [if_pos q]; omega
        · rw [if_neg q, if_neg (by first | exact c10 | (exfalso; omega))]
          exact hvi
      · skip
        refine w_iinc1 dX10_degreeIn_13 rfl (by decide) (wp_goto 3 dX10_degreeIn_16 rfl ?_)
        refine ih3 _ (by omega) (e - 1) _ rfl (by omega) (by omega) ?_
        rw [hz, show e - 1 + 1 = e by omega]
        show (if e = 0 then 0 else if h a e = 0 then ztop (h a) e else e) = _
        rw [if_neg (by omega), if_pos c10]
  refine wp_bipush dX10_degreeIn_0 (by decide) (w_istore1 dX10_degreeIn_2 rfl (by decide) ?_)
  exact L3 _ 48 _ rfl (by omega) rfl rfl
