/-! ===== sums, inner products and combinations modulo p ===== -/
theorem zsi_ad {f g : Nat → Int} : ∀ n, zsi (fun i => f i + g i) n = zsi f n + zsi g n := by
  intro n
  induction n with
  | zero => rfl
  | succ n ih =>
    show zsi (fun i => f i + g i) n + (f n + g n) = (zsi f n + f n) + (zsi g n + g n)
    rw [ih]
    omega
theorem zsi_ml {f : Nat → Int} {a : Int} : ∀ n, zsi (fun i => a * f i) n = a * zsi f n := by
  intro n
  induction n with
  | zero => exact (Int.mul_zero a).symm
  | succ n ih =>
    show zsi (fun i => a * f i) n + a * f n = a * (zsi f n + f n)
    rw [ih, Int.mul_add]
theorem zsi_sw {f : Nat → Nat → Int} {m : Nat} : ∀ n, zsi (fun i => zsi (f i) m) n = zsi (fun j => zsi (fun i => f i j) n) m := by
  intro n
  induction n with
  | zero => exact (zsi_z m (fun _ _ => rfl)).symm
  | succ n ih =>
    show zsi (fun i => zsi (f i) m) n + zsi (f n) m = zsi (fun j => zsi (fun i => f i j) n + f n j) m
    rw [ih, zsi_ad]
theorem zsi_o {f : Nat → Int} {k : Nat} : ∀ n, k < n → (∀ i, i < n → i ≠ k → f i = 0) → zsi f n = f k := by
  intro n
  induction n with
  | zero => intro h; exact absurd h (Nat.not_lt_zero k)
  | succ n ih =>
    intro h h2
    show zsi f n + f n = f k
    by_cases e : k = n
    · rw [zsi_z n (fun i hi => h2 i (by omega) (by omega)), e, Int.zero_add]
    · rw [ih (by omega) (fun i hi => h2 i (by omega)), h2 n (by omega) (by omega), Int.add_zero]
theorem zsi_cz {p : Int} {f : Nat → Int} (n : Nat) (h : ∀ i, i < n → zcg p (f i) 0) : zcg p (zsi f n) 0 := (zcg.si (g := fun _ => 0) n h).tr (zcg.of (zsi_z n (fun _ _ => rfl)))
def zdt (s : Nat) (x v : Nat → Int) : Int := zsi (fun q => x q * v q) s
theorem zdt_cg {p : Int} {s : Nat} {x v w : Nat → Int} (h : ∀ q, q < s → zcg p (v q) (w q)) : zcg p (zdt s x v) (zdt s x w) := zcg.si s (fun q hq => zcg.rf.ml (h q hq))
theorem zdt_ad {s : Nat} {x v w : Nat → Int} : zdt s x (fun q => v q + w q) = zdt s x v + zdt s x w := by
  unfold zdt
  rw [← zsi_ad]
  exact zsi_congr s (fun q _ => Int.mul_add _ _ _)
theorem zdt_ml {s : Nat} {x v : Nat → Int} {a : Int} : zdt s x (fun q => a * v q) = a * zdt s x v := by
  unfold zdt
  rw [← zsi_ml]
  exact zsi_congr s (fun q _ => Int.mul_left_comm _ _ _)
theorem zdt_mx {s : Nat} {x v : Nat → Int} {a : Int} : zdt s (fun q => a * x q) v = a * zdt s x v := by
  unfold zdt
  rw [← zsi_ml]
  exact zsi_congr s (fun q _ => Int.mul_assoc _ _ _)
theorem zdt_up {s l : Nat} {x w : Nat → Int} {c : Int} (hl : l < s) : zdt s (fun q => x q + (if q = l then c else 0)) w = zdt s x w + c * w l := by
  unfold zdt
  rw [show zsi (fun q => (x q + (if q = l then c else 0)) * w q) s = zsi (fun q => x q * w q + (if q = l then c else 0) * w q) s from zsi_congr s (fun q _ => Int.add_mul _ _ _), zsi_ad, zsi_o (f := fun q => (if q = l then c else 0) * w q) s hl (fun i _ e => by show (if i = l then c else 0) * w i = 0; rw [if_neg e, Int.zero_mul])]
  show zsi _ s + (if l = l then c else 0) * w l = _
  rw [if_pos rfl]
def zSpn (p : Int) (s : Nat) (V : Nat → Nat → Int) (n : Nat) (w : Nat → Int) : Prop := ∃ a : Nat → Int, ∀ q, q < s → zcg p (w q) (zsi (fun i => a i * V i q) n)
theorem zSpn.cg {p : Int} {s n : Nat} {V : Nat → Nat → Int} {w w' : Nat → Int} (H : zSpn p s V n w) (h : ∀ q, q < s → zcg p (w' q) (w q)) : zSpn p s V n w' := by
  obtain ⟨a, ha⟩ := H
  exact ⟨a, fun q hq => (h q hq).tr (ha q hq)⟩
theorem zSpn.ze {p : Int} {s n : Nat} {V : Nat → Nat → Int} : zSpn p s V n (fun _ => 0) := ⟨fun _ => 0, fun q _ => zcg.of (zsi_z n (fun i _ => Int.zero_mul _)).symm⟩
theorem zSpn.ad {p : Int} {s n : Nat} {V : Nat → Nat → Int} {w w' : Nat → Int} (H : zSpn p s V n w) (H2 : zSpn p s V n w') : zSpn p s V n (fun q => w q + w' q) := by
  obtain ⟨a, ha⟩ := H
  obtain ⟨b, hb⟩ := H2
  refine ⟨fun i => a i + b i, fun q hq => ((ha q hq).ad (hb q hq)).tr (zcg.of ?_)⟩
  rw [← zsi_ad]
  exact zsi_congr n (fun i _ => (Int.add_mul _ _ _).symm)
theorem zSpn.ml {p : Int} {s n : Nat} {V : Nat → Nat → Int} {w : Nat → Int} (H : zSpn p s V n w) (c : Int) : zSpn p s V n (fun q => c * w q) := by
  obtain ⟨a, ha⟩ := H
  refine ⟨fun i => c * a i, fun q hq => (zcg.rf.ml (ha q hq)).tr (zcg.of ?_)⟩
  rw [← zsi_ml]
  exact zsi_congr n (fun i _ => (Int.mul_assoc _ _ _).symm)
theorem zSpn.of {p : Int} {s n k : Nat} {V : Nat → Nat → Int} (hk : k < n) : zSpn p s V n (V k) := ⟨fun i => if i = k then 1 else 0, fun q _ => zcg.of (by
  rw [zsi_o (f := fun i => (if i = k then 1 else 0) * V i q) n hk (fun i _ e => by show (if i = k then (1 : Int) else 0) * V i q = 0; rw [if_neg e, Int.zero_mul])]
  show _ = (if k = k then (1 : Int) else 0) * V k q
  rw [if_pos rfl, Int.one_mul])⟩
theorem zSpn.tr {p : Int} {s n f : Nat} {V B : Nat → Nat → Int} {w : Nat → Int} (H : zSpn p s B f w) (h : ∀ b, b < f → zSpn p s V n (B b)) : zSpn p s V n w := by
  obtain ⟨a, ha⟩ := H
  refine zSpn.cg ?_ ha
  clear ha
  induction f with
  | zero => exact zSpn.ze
  | succ f ih => exact (ih (fun b hb => h b (by omega))).ad ((h f (by omega)).ml (a f))
theorem zSpn.mo {p : Int} {s n m : Nat} {V : Nat → Nat → Int} {w : Nat → Int} (H : zSpn p s V n w) (h : n ≤ m) : zSpn p s V m w := H.tr (fun b hb => zSpn.of (by omega))
theorem zSpn.vc {p : Int} {s n : Nat} {V V' : Nat → Nat → Int} {w : Nat → Int} (H : zSpn p s V n w) (h : ∀ i, i < n → ∀ q, q < s → zcg p (V i q) (V' i q)) : zSpn p s V' n w := H.tr (fun b hb => (zSpn.of hb).cg (h b hb))
theorem zSpn.dt {p : Int} {s n : Nat} {V : Nat → Nat → Int} {w x : Nat → Int} (H : zSpn p s V n w) (h : ∀ i, i < n → zcg p (zdt s x (V i)) 0) : zcg p (zdt s x w) 0 := by
  obtain ⟨a, ha⟩ := H
  refine (zdt_cg ha).tr ?_
  clear ha
  induction n with
  | zero => exact zcg.of (zsi_z s (fun q _ => Int.mul_zero _))
  | succ n ih =>
    show zcg p (zdt s x (fun q => zsi (fun i => a i * V i q) n + a n * V n q)) 0
    rw [zdt_ad, zdt_ml]
    exact ((ih (fun i hi => h i (by omega))).ad (zcg.rf.ml (h n (by omega)))).tr (zcg.of (by rw [Int.mul_zero, Int.add_zero]))
def zInd (p : Int) (s : Nat) (V : Nat → Nat → Int) (n : Nat) : Prop := ∃ x : Nat → Int, (∀ i, i < n → zcg p (zdt s x (V i)) 0) ∧ zcg p (zdt s x (V n)) 1
theorem zInd_no {p : Int} (hp : 1 < p) {s n : Nat} {V : Nat → Nat → Int} (H : zInd p s V n) : ¬ zSpn p s V n (V n) := fun D => by
  obtain ⟨x, h1, h2⟩ := H
  have e := (h2.sy.tr (D.dt h1)).inj (by omega) (by omega)
  omega
/-! ===== units ===== -/
theorem zinv_ok {p a : Int} (hp : zPr p) (h0 : 0 < a) (h1 : a < p) : a * zinv a p % p = 1 := by
  obtain ⟨n, rfl⟩ : ∃ n : Nat, a = n := ⟨a.toNat, by omega⟩
  rcases hp with e | e | e | e | e | e | e | e | e <;> subst e
  · have w : ∀ n : Nat, n < 5 → n ≠ 0 → ((n : Int) * zinv n 5) % 5 = 1 := by decide +kernel
    exact w n (by omega) (by omega)
  · have w : ∀ n : Nat, n < 7 → n ≠ 0 → ((n : Int) * zinv n 7) % 7 = 1 := by decide +kernel
    exact w n (by omega) (by omega)
  · have w : ∀ n : Nat, n < 11 → n ≠ 0 → ((n : Int) * zinv n 11) % 11 = 1 := by decide +kernel
    exact w n (by omega) (by omega)
  · have w : ∀ n : Nat, n < 13 → n ≠ 0 → ((n : Int) * zinv n 13) % 13 = 1 := by decide +kernel
    exact w n (by omega) (by omega)
  · have w : ∀ n : Nat, n < 17 → n ≠ 0 → ((n : Int) * zinv n 17) % 17 = 1 := by decide +kernel
    exact w n (by omega) (by omega)
  · have w : ∀ n : Nat, n < 19 → n ≠ 0 → ((n : Int) * zinv n 19) % 19 = 1 := by decide +kernel
    exact w n (by omega) (by omega)
  · have w : ∀ n : Nat, n < 23 → n ≠ 0 → ((n : Int) * zinv n 23) % 23 = 1 := by decide +kernel
    exact w n (by omega) (by omega)
  · have w : ∀ n : Nat, n < 29 → n ≠ 0 → ((n : Int) * zinv n 29) % 29 = 1 := by decide +kernel
    exact w n (by omega) (by omega)
  · have w : ∀ n : Nat, n < 31 → n ≠ 0 → ((n : Int) * zinv n 31) % 31 = 1 := by decide +kernel
    exact w n (by omega) (by omega)
theorem zPr_p {p : Int} (h : zPr p) : 5 ≤ p ∧ p ≤ 31 := by unfold zPr at h; omega
theorem zcg_n0 {p a : Int} (h0 : 0 < a) (h1 : a < p) : ¬ zcg p a 0 := fun h => by
  have := h.inj ⟨by omega, h1⟩ ⟨by omega, by omega⟩
  omega
theorem zun {p : Int} (hp : zPr p) {a : Int} (h : ¬ zcg p a 0) : ∃ u, zcg p (a * u) 1 := by
  have hp5 := zPr_p hp
  have hm := z_mod (show 0 < p by omega) a
  have h0 : a % p ≠ 0 := fun e => h (zcg.md.sy.tr (zcg.of e))
  have := zinv_ok hp (a := a % p) (by omega) hm.2
  refine ⟨zinv (a % p) p, ?_⟩
  exact ((zcg.md.sy).ml zcg.rf).tr (zcg.md.sy.tr (zcg.of this))
theorem zun_ml {p : Int} (hp : zPr p) {a b : Int} (ha : ¬ zcg p a 0) (hb : ¬ zcg p b 0) : ¬ zcg p (a * b) 0 := fun h => by
  obtain ⟨u, k, hu⟩ := zun hp ha
  obtain ⟨m, hm⟩ := h
  exact hb ⟨u * m - k * b, by grind⟩
theorem zun_1 {p : Int} (hp : zPr p) : ¬ zcg p 1 0 := zcg_n0 (by decide) (by have := zPr_p hp; omega)
/-- of a*u = 1: a is no 0 -/
theorem zun_u {p : Int} (hp : zPr p) {a u : Int} (h : zcg p (a * u) 1) : ¬ zcg p u 0 := fun e => zun_1 hp (h.sy.tr ((zcg.rf.ml e).tr (zcg.of (Int.mul_zero a))))
/-! ===== echelon forms ===== -/
def zLd (p : Int) (s f : Nat) (B : Nat → Nat → Int) (L : Nat → Nat) : Prop := ∀ b, b < f → L b < s ∧ ¬ zcg p (B b (L b)) 0 ∧ ∀ a, a < b → zcg p (B b (L a)) 0
theorem zdual {p : Int} (hp : zPr p) {s f l : Nat} {B : Nat → Nat → Int} {L : Nat → Nat} {v : Nat → Int} (hL : zLd p s f B L) (hv : ∀ b, b < f → zcg p (v (L b)) 0) (hl : l < s) (hvl : ¬ zcg p (v l) 0) : ∀ d, d ≤ f → ∃ x : Nat → Int, (∀ b, f - d ≤ b → b < f → zcg p (zdt s x (B b)) 0) ∧ zcg p (zdt s x v) 1 := by
  intro d
  induction d with
  | zero =>
    intro _
    obtain ⟨u, hu⟩ := zun hp hvl
    refine ⟨fun q => 0 + (if q = l then u else 0), fun b h1 h2 => absurd h2 (by omega), ?_⟩
    rw [zdt_up (x := fun _ => 0) hl]
    exact ((zcg.of (show zdt s (fun _ => 0) v = 0 from zsi_z s (fun q _ => Int.zero_mul _))).ad ((zcg.of (Int.mul_comm u (v l))).tr hu)).tr (zcg.of (Int.zero_add 1))
  | succ d ih =>
    intro hd
    obtain ⟨x, h1, h2⟩ := ih (by omega)
    obtain ⟨l1, l2, l3⟩ := hL (f - (d + 1)) (by omega)
    obtain ⟨u, hu⟩ := zun hp l2
    refine ⟨fun q => x q + (if q = L (f - (d + 1)) then -(zdt s x (B (f - (d + 1))) * u) else 0), fun b b1 b2 => ?_, ?_⟩
    · rw [zdt_up l1]
      by_cases e : b = f - (d + 1)
      · rw [e]
        generalize zdt s x (B (f - (d + 1))) = D
        obtain ⟨k, hk⟩ := hu
        exact ⟨-(D * k), by grind⟩
      · obtain ⟨k, hk⟩ := h1 b (by omega) b2
        obtain ⟨m, hm⟩ := (hL b b2).2.2 (f - (d + 1)) (by omega)
        generalize zdt s x (B (f - (d + 1))) * u = D
        exact ⟨k - D * m, by grind⟩
    · rw [zdt_up l1]
      obtain ⟨k, hk⟩ := h2
      obtain ⟨m, hm⟩ := hv (f - (d + 1)) (by omega)
      generalize zdt s x (B (f - (d + 1))) * u = D
      exact ⟨k - D * m, by grind⟩
/-- B spans what V 0 .. V (n - 1) span -/
def zGr (p : Int) (s n f : Nat) (V B : Nat → Nat → Int) (L : Nat → Nat) : Prop := zLd p s f B L ∧ (∀ i, i < n → zSpn p s B f (V i)) ∧ (∀ b, b < f → zSpn p s V n (B b))
theorem zGr_0 {p : Int} {s : Nat} {V B : Nat → Nat → Int} {L : Nat → Nat} : zGr p s 0 0 V B L := ⟨fun b h => absurd h (Nat.not_lt_zero b), fun b h => absurd h (Nat.not_lt_zero b), fun b h => absurd h (Nat.not_lt_zero b)⟩
theorem zGr_n {p : Int} (hp : zPr p) {s n f : Nat} {V B : Nat → Nat → Int} {L : Nat → Nat} (G : zGr p s n f V B L) {u : Int} {v : Nat → Int} (hu : ¬ zcg p u 0) (hr : zSpn p s B f (fun q => u * V n q - v q)) (hz : ∀ q, q < s → zcg p (v q) 0) : zSpn p s V n (V n) ∧ zGr p s (n + 1) f V B L := by
  have h1 : zSpn p s B f (V n) := by
    obtain ⟨w, k, hw⟩ := zun hp hu
    refine (hr.ml w).cg (fun q hq => ?_)
    obtain ⟨m, hm⟩ := hz q hq
    exact ⟨w * m - k * V n q, by grind⟩
  refine ⟨h1.tr G.2.2, G.1, fun i hi => ?_, fun b hb => (G.2.2 b hb).mo (Nat.le_succ n)⟩
  by_cases e : i = n
  · rw [e]; exact h1
  · exact G.2.1 i (by omega)
theorem zupB_o {B : Nat → Nat → Int} {f b : Nat} {v : Nat → Int} (h : b ≠ f) : zupB B f v b = B b := if_neg h
theorem zupB_s {B : Nat → Nat → Int} {f : Nat} {v : Nat → Int} : zupB B f v f = v := if_pos rfl
theorem zupN_o {B : Nat → Nat} {f b v : Nat} (h : b ≠ f) : zupN B f v b = B b := if_neg h
theorem zupN_s {B : Nat → Nat} {f v : Nat} : zupN B f v f = v := if_pos rfl
theorem zGr_y {p : Int} (hp : zPr p) {s n f l : Nat} {V B : Nat → Nat → Int} {L : Nat → Nat} (G : zGr p s n f V B L) {u w : Int} {v v' : Nat → Int} (hu : ¬ zcg p u 0) (hr : zSpn p s B f (fun q => u * V n q - v q)) (hl : l < s) (hvl : ¬ zcg p (v l) 0) (hvL : ∀ b, b < f → zcg p (v (L b)) 0) (hw : ¬ zcg p w 0) (hv' : ∀ q, q < s → zcg p (v' q) (w * v q)) : zInd p s V n ∧ zGr p s (n + 1) (f + 1) V (zupB B f v') (zupN L f l) := by
  obtain ⟨g1, g2, g3⟩ := G
  refine ⟨?_, ?_, ?_, ?_⟩
  · obtain ⟨x, x1, x2⟩ := zdual hp g1 hvL hl hvl f (Nat.le_refl f)
    have x3 : ∀ b, b < f → zcg p (zdt s x (B b)) 0 := fun b hb => x1 b (by omega) hb
    refine ⟨fun q => u * x q, fun i hi => ?_, ?_⟩
    · rw [zdt_mx]
      exact (zcg.rf.ml ((g2 i hi).dt x3)).tr (zcg.of (Int.mul_zero u))
    · rw [zdt_mx, ← zdt_ml]
      have e : zdt s x (fun q => u * V n q) = zdt s x (fun q => u * V n q - v q) + zdt s x v := by
        rw [← zdt_ad]
        exact congrArg _ (funext fun q => by omega)
      rw [e]
      exact ((hr.dt x3).ad x2).tr (zcg.of (Int.zero_add 1))
  · intro b hb
    by_cases e : b = f
    · rw [e, zupB_s, zupN_s]
      refine ⟨hl, fun h => zun_ml hp hw hvl ((hv' l hl).sy.tr h), fun a ha => ?_⟩
      rw [zupN_o (by omega)]
      exact (hv' _ (g1 a ha).1).tr ((zcg.rf.ml (hvL a ha)).tr (zcg.of (Int.mul_zero w)))
    · rw [zupB_o e, zupN_o e]
      obtain ⟨q1, q2, q3⟩ := g1 b (by omega)
      refine ⟨q1, q2, fun a ha => ?_⟩
      rw [zupN_o (by omega)]
      exact q3 a ha
  · have hB : ∀ b, b < f → zSpn p s (zupB B f v') (f + 1) (B b) := fun b hb => (zSpn.of (show b < f + 1 by omega)).cg (fun q _ => zcg.of (by rw [zupB_o (by omega)]))
    intro i hi
    by_cases e : i = n
    · rw [e]
      have h1 : zSpn p s (zupB B f v') (f + 1) v := by
        obtain ⟨z, k, hz⟩ := zun hp hw
        refine ((zSpn.of (V := zupB B f v') (show f < f + 1 by omega)).ml z).cg (fun q hq => ?_)
        rw [zupB_s]
        obtain ⟨m, hm⟩ := hv' q hq
        exact ⟨-(k * v q + z * m), by grind⟩
      obtain ⟨z, k, hz⟩ := zun hp hu
      refine (((hr.tr hB).ad h1).ml z).cg (fun q hq => ⟨-(k * V n q), by grind⟩)
    · exact (g2 i (by omega)).tr hB
  · intro b hb
    by_cases e : b = f
    · rw [e, zupB_s]
      have h1 : zSpn p s V (n + 1) (fun q => u * V n q - v q) := (hr.tr g3).mo (Nat.le_succ n)
      refine ((((zSpn.of (V := V) (show n < n + 1 by omega)).ml u).ad (h1.ml (-1))).ml w).cg (fun q hq => (hv' q hq).tr (zcg.of ?_))
      grind
    · rw [zupB_o e]
      exact (g3 b (by omega)).mo (Nat.le_succ n)
theorem zld_z {v : Nat → Int} : ∀ n k, ¬ zld v n k < k + n → ∀ q, k ≤ q → q < k + n → v q = 0 := by
  intro n
  induction n with
  | zero => intro k _ q h1 h2; exact absurd h2 (by omega)
  | succ n ih =>
    intro k h q h1 h2
    unfold zld at h
    by_cases w : v k ≠ 0
    · rw [if_pos w] at h; exact absurd h (by omega)
    · rw [if_neg w] at h
      by_cases e : q = k
      · rw [e]; omega
      · exact ih (k + 1) (by omega) q (by omega) (by omega)
/-! ===== the class's span ===== -/
theorem zrd_sp {p : Int} (hp : zPr p) {s f : Nat} {B : Nat → Nat → Int} {L : Nat → Nat} (hL : zLd p s f B L) {v : Nat → Int} : ∀ b, b ≤ f → (∃ u, ¬ zcg p u 0 ∧ zSpn p s B b (fun q => u * v q - zrd p B L b v q)) ∧ ∀ a, a < b → zcg p (zrd p B L b v (L a)) 0 := by
  intro b
  induction b with
  | zero => exact fun _ => ⟨⟨1, zun_1 hp, zSpn.ze.cg (fun q _ => zcg.of (by show 1 * v q - v q = 0; omega))⟩, fun a h => absurd h (Nat.not_lt_zero a)⟩
  | succ b ih =>
    intro hb
    obtain ⟨⟨u, hu, hs⟩, hz⟩ := ih (by omega)
    by_cases e : zrd p B L b v (L b) = 0
    · rw [zrd_y e]
      refine ⟨⟨u, hu, hs.mo (Nat.le_succ b)⟩, fun a ha => ?_⟩
      by_cases e2 : a = b
      · rw [e2, e]; exact zcg.rf
      · exact hz a (by omega)
    · obtain ⟨l1, l2, l3⟩ := hL b (by omega)
      refine ⟨⟨B b (L b) * u, zun_ml hp l2 hu, ?_⟩, fun a ha => ?_⟩
      · refine (((hs.mo (Nat.le_succ b)).ml (B b (L b))).ad ((zSpn.of (V := B) (Nat.lt_succ_self b)).ml (zrd p B L b v (L b)))).cg (fun q hq => ?_)
        rw [zrd_n e]
        refine (zcg.rf.sb zcg.md).tr (zcg.of ?_)
        grind
      · rw [zrd_n e]
        refine zcg.md.tr ?_
        by_cases e2 : a = b
        · rw [e2]; exact zcg.of (by grind)
        · obtain ⟨k, hk⟩ := hz a (by omega)
          obtain ⟨m, hm⟩ := l3 a (by omega)
          exact ⟨B b (L b) * k - zrd p B L b v (L b) * m, by grind⟩
theorem zTs_G {p : Int} (hp : zPr p) {V : Nat → Nat → Int} (hV : ∀ n q, 0 ≤ V n q ∧ V n q < p) : ∀ n, zGr p 8 n (zTs p V n).1 V (zTs p V n).2.1 (zTs p V n).2.2.1 ∧ (zTfl p V n → zInd p 8 V n) ∧ (¬ zTfl p V n → zSpn p 8 V n (V n)) := by
  have hp5 := zPr_p hp
  have st : ∀ n, zGr p 8 n (zTs p V n).1 V (zTs p V n).2.1 (zTs p V n).2.2.1 → zGr p 8 (n + 1) (zTs p V (n + 1)).1 V (zTs p V (n + 1)).2.1 (zTs p V (n + 1)).2.2.1 ∧ (zTfl p V n → zInd p 8 V n) ∧ (¬ zTfl p V n → zSpn p 8 V n (V n)) := by
    intro n G
    obtain ⟨⟨u, hu, hs⟩, hz⟩ := zrd_sp hp G.1 (v := V n) (zTs p V n).1 (Nat.le_refl _)
    have hin : ∀ q, 0 ≤ zrd p (zTs p V n).2.1 (zTs p V n).2.2.1 (zTs p V n).1 (V n) q ∧ zrd p (zTs p V n).2.1 (zTs p V n).2.2.1 (zTs p V n).1 (V n) q < p := fun q => zrd_in (by omega) (hV n q) _
    by_cases w : zTfl p V n
    · have hne := zld_in (zrd p (zTs p V n).2.1 (zTs p V n).2.2.1 (zTs p V n).1 (V n)) 8 0 w
      have hr := hin (zld (zrd p (zTs p V n).2.1 (zTs p V n).2.2.1 (zTs p V n).1 (V n)) 8 0)
      have Y := zGr_y hp G hu hs w (zcg_n0 (by omega) hr.2) hz (zun_1 hp) (v' := zrd p (zTs p V n).2.1 (zTs p V n).2.2.1 (zTs p V n).1 (V n)) (fun q _ => zcg.of (Int.one_mul _).symm)
      rw [zTs_y w]
      exact ⟨Y.2, fun _ => Y.1, fun n => absurd w n⟩
    · have N := zGr_n hp G hu hs (fun q hq => zcg.of (zld_z 8 0 (by rw [Nat.zero_add]; exact w) q (Nat.zero_le q) (by omega)))
      rw [zTs_n w]
      exact ⟨N.2, fun y => absurd y w, fun _ => N.1⟩
  have al : ∀ n, zGr p 8 n (zTs p V n).1 V (zTs p V n).2.1 (zTs p V n).2.2.1 := by
    intro n
    induction n with
    | zero => exact zGr_0
    | succ n ih => exact (st n ih).1
  exact fun n => ⟨al n, (st n (al n)).2⟩
theorem zTs_ct {p : Int} {V : Nat → Nat → Int} : ∀ n, (zTs p V n).1 = zct (zTfl p V) n := by
  intro n
  induction n with
  | zero => rfl
  | succ n ih =>
    by_cases w : zTfl p V n
    · rw [zTs_y w, zct_y w, ← ih]
    · rw [zTs_n w, zct_n w, ← ih]
/-! ===== the model's kept rows ===== -/
theorem zkr_sp {p : Int} {s f : Nat} {K : Nat → Nat → Int} {A : Nat → Nat} (hL : zLd p s f K A) (h1 : ∀ b, b < f → zcg p (K b (A b)) 1) {v : Nat → Int} : ∀ b, b ≤ f → zSpn p s K b (fun q => 1 * v q - zkr p K A b v q) ∧ ∀ a, a < b → zcg p (zkr p K A b v (A a)) 0 := by
  intro b
  induction b with
  | zero => exact fun _ => ⟨zSpn.ze.cg (fun q _ => zcg.of (by show 1 * v q - v q = 0; omega)), fun a h => absurd h (Nat.not_lt_zero a)⟩
  | succ b ih =>
    intro hb
    obtain ⟨hs, hz⟩ := ih (by omega)
    by_cases e : zkr p K A b v (A b) = 0
    · rw [zkr_y e]
      refine ⟨hs.mo (Nat.le_succ b), fun a ha => ?_⟩
      by_cases e2 : a = b
      · rw [e2, e]; exact zcg.rf
      · exact hz a (by omega)
    · obtain ⟨l1, l2, l3⟩ := hL b (by omega)
      refine ⟨?_, fun a ha => ?_⟩
      · refine ((hs.mo (Nat.le_succ b)).ad ((zSpn.of (V := K) (Nat.lt_succ_self b)).ml (zkr p K A b v (A b)))).cg (fun q hq => ?_)
        rw [zkr_n e]
        refine (zcg.rf.sb zcg.md).tr (zcg.of ?_)
        grind
      · rw [zkr_n e]
        refine zcg.md.tr ?_
        by_cases e2 : a = b
        · rw [e2]
          obtain ⟨k, hk⟩ := h1 b (by omega)
          exact ⟨-(zkr p K A b v (A b) * k), by grind⟩
        · obtain ⟨k, hk⟩ := hz a (by omega)
          obtain ⟨m, hm⟩ := l3 a (by omega)
          exact ⟨k - zkr p K A b v (A b) * m, by grind⟩
theorem zMs_G {p : Int} (hp : zPr p) {s : Nat} {V : Nat → Nat → Int} (hV : ∀ n q, 0 ≤ V n q ∧ V n q < p) : ∀ n, (zGr p s n (zMs p s V n).1 V (zMs p s V n).2.1 (zMs p s V n).2.2 ∧ ∀ b, b < (zMs p s V n).1 → zcg p ((zMs p s V n).2.1 b ((zMs p s V n).2.2 b)) 1) ∧ (zMfl p s V n → zInd p s V n) ∧ (¬ zMfl p s V n → zSpn p s V n (V n)) := by
  have hp5 := zPr_p hp
  have st : ∀ n, (zGr p s n (zMs p s V n).1 V (zMs p s V n).2.1 (zMs p s V n).2.2 ∧ ∀ b, b < (zMs p s V n).1 → zcg p ((zMs p s V n).2.1 b ((zMs p s V n).2.2 b)) 1) → (zGr p s (n + 1) (zMs p s V (n + 1)).1 V (zMs p s V (n + 1)).2.1 (zMs p s V (n + 1)).2.2 ∧ ∀ b, b < (zMs p s V (n + 1)).1 → zcg p ((zMs p s V (n + 1)).2.1 b ((zMs p s V (n + 1)).2.2 b)) 1) ∧ (zMfl p s V n → zInd p s V n) ∧ (¬ zMfl p s V n → zSpn p s V n (V n)) := by
    intro n GG
    obtain ⟨G, G1⟩ := GG
    obtain ⟨hs, hz⟩ := zkr_sp G.1 G1 (v := V n) (zMs p s V n).1 (Nat.le_refl _)
    have hin : ∀ q, 0 ≤ zkr p (zMs p s V n).2.1 (zMs p s V n).2.2 (zMs p s V n).1 (V n) q ∧ zkr p (zMs p s V n).2.1 (zMs p s V n).2.2 (zMs p s V n).1 (V n) q < p := fun q => zkr_in (by omega) (hV n q) _
    by_cases w : zMfl p s V n
    · have hne := zld_in (zkr p (zMs p s V n).2.1 (zMs p s V n).2.2 (zMs p s V n).1 (V n)) s 0 (by rw [Nat.zero_add]; exact w)
      have hr := hin (zld (zkr p (zMs p s V n).2.1 (zMs p s V n).2.2 (zMs p s V n).1 (V n)) s 0)
      have hi := zinv_ok hp (a := zkr p (zMs p s V n).2.1 (zMs p s V n).2.2 (zMs p s V n).1 (V n) (zld (zkr p (zMs p s V n).2.1 (zMs p s V n).2.2 (zMs p s V n).1 (V n)) s 0)) (by omega) hr.2
      have hi2 := zcg.md.sy.tr (zcg.of hi)
      have Y := zGr_y hp G (zun_1 hp) hs w (zcg_n0 (by omega) hr.2) hz (zun_u hp hi2) (v' := fun q => zkr p (zMs p s V n).2.1 (zMs p s V n).2.2 (zMs p s V n).1 (V n) q * zinv (zkr p (zMs p s V n).2.1 (zMs p s V n).2.2 (zMs p s V n).1 (V n) (zld (zkr p (zMs p s V n).2.1 (zMs p s V n).2.2 (zMs p s V n).1 (V n)) s 0)) p % p) (fun q _ => zcg.md.tr (zcg.of (Int.mul_comm _ _)))
      rw [zMs_y w]
      refine ⟨⟨Y.2, fun b hb => ?_⟩, fun _ => Y.1, fun n => absurd w n⟩
      dsimp only at hb ⊢
      by_cases e : b = (zMs p s V n).1
      · rw [e, zupB_s, zupN_s]
        exact zcg.md.tr hi2
      · rw [zupB_o e, zupN_o e]
        exact G1 b (by omega)
    · have N := zGr_n hp G (zun_1 hp) hs (fun q hq => zcg.of (zld_z s 0 (by rw [Nat.zero_add]; exact w) q (Nat.zero_le q) (by omega)))
      rw [zMs_n w]
      exact ⟨⟨N.2, G1⟩, fun y => absurd y w, fun _ => N.1⟩
  have al : ∀ n, (zGr p s n (zMs p s V n).1 V (zMs p s V n).2.1 (zMs p s V n).2.2 ∧ ∀ b, b < (zMs p s V n).1 → zcg p ((zMs p s V n).2.1 b ((zMs p s V n).2.2 b)) 1) := by
    intro n
    induction n with
    | zero => exact ⟨zGr_0, fun b h => absurd h (Nat.not_lt_zero b)⟩
    | succ n ih => exact (st n ih).1
  exact fun n => ⟨al n, (st n (al n)).2⟩
