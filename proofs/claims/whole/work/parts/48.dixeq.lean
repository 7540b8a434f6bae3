/-! ===== the model's Dixon sums are the class's ===== -/
theorem zsi_mr {f : Nat → Int} {a : Int} (n : Nat) : zsi (fun i => f i * a) n = zsi f n * a :=
  (zsi_congr n (fun i _ => Int.mul_comm (f i) a)).trans ((zsi_ml n).trans (Int.mul_comm a _))
theorem zpf1 {G X : Nat → Int} {φ : Nat → Nat} {n m : Nat} (h : ∀ a, a < m → φ a < n) : zsi (fun q => G q * zsi (fun a => if φ a = q then X a else 0) m) n = zsi (fun a => G (φ a) * X a) m := by
  have e : zsi (fun q => G q * zsi (fun a => if φ a = q then X a else 0) m) n = zsi (fun q => zsi (fun a => G q * (if φ a = q then X a else 0)) m) n := zsi_congr n (fun q _ => (zsi_ml m).symm)
  refine e.trans ((zsi_sw (f := fun q a => G q * (if φ a = q then X a else 0)) n).trans (zsi_congr m (fun a ha => ?_)))
  refine (zsi_o (f := fun q => G q * (if φ a = q then X a else 0)) n (h a ha) (fun q _ hq => ?_)).trans ?_
  · show G q * (if φ a = q then X a else 0) = 0
    rw [if_neg (fun w => hq w.symm), Int.mul_zero]
  · show G (φ a) * (if φ a = φ a then X a else 0) = _
    rw [if_pos rfl]
theorem zpf2 {G : Nat → Int} {X : Nat → Nat → Int} {φ : Nat → Nat → Nat} {n m k : Nat} (h : ∀ a, a < m → ∀ b, b < k → φ a b < n) : zsi (fun q => G q * zsi (fun a => zsi (fun b => if φ a b = q then X a b else 0) k) m) n = zsi (fun a => zsi (fun b => G (φ a b) * X a b) k) m := by
  have e : zsi (fun q => G q * zsi (fun a => zsi (fun b => if φ a b = q then X a b else 0) k) m) n = zsi (fun q => zsi (fun a => G q * zsi (fun b => if φ a b = q then X a b else 0) k) m) n := zsi_congr n (fun q _ => (zsi_ml m).symm)
  refine e.trans ((zsi_sw (f := fun q a => G q * zsi (fun b => if φ a b = q then X a b else 0) k) n).trans (zsi_congr m (fun a ha => ?_)))
  exact zpf1 (G := G) (X := X a) (φ := φ a) (h a ha)
theorem zad_1 {F S C : Nat → Int} {I : Nat} : zadp (zmu F S) C I = zsi (fun a => zsi (fun b => zsi (fun r => if zjx (zix a b) r = I then C r else 0) 27 * (F a * S b)) 36) 36 := by
  have e : zadp (zmu F S) C I = zsi (fun q => zsi (fun r => if zjx q r = I then C r else 0) 27 * zsi (fun a => zsi (fun b => if zix a b = q then F a * S b else 0) 36) 36) 320 := zsi_congr 320 (fun q _ => by
    refine Eq.trans ?_ (zsi_mr 27)
    refine zsi_congr 27 (fun r _ => ?_)
    show (if zjx q r = I then zmu F S q * C r else 0) = (if zjx q r = I then C r else 0) * zmu F S q
    by_cases w : zjx q r = I
    · rw [if_pos w, if_pos w, Int.mul_comm]
    · rw [if_neg w, if_neg w, Int.zero_mul])
  exact e.trans (zpf2 (G := fun q => zsi (fun r => if zjx q r = I then C r else 0) 27) (X := fun a b => F a * S b) (φ := zix) (fun a ha b hb => zix_lt ha hb))
def zq1 (w v : Nat) : Nat := 18 * (w / 9 - 1 - v) + 6 * (w / 3 % 3) + 3 * v + w % 3
def zq2 (w k : Nat) : Nat := 18 * (w / 3 % 3 - 1 - k) + 6 * (w / 9) + 3 * k + w % 3
def zT3 (C : Nat → Int) (I a b : Nat) : Int := zsi (fun r => if zjx (zix a b) r = I then C r else 0) 27
set_option maxRecDepth 100000 in
set_option maxHeartbeats 4000000 in
theorem zf1_s {G A : Nat → Int} : zsi (fun a => G a * zf1 A a) 36 = zsi (fun w => zsi (fun v => G (zq1 w v)) (w / 9) * A w) 27 := by
  simp [zsi, zf1, zq1, Int.add_mul]
  omega
set_option maxRecDepth 100000 in
set_option maxHeartbeats 4000000 in
theorem zf2_s {G B : Nat → Int} : zsi (fun b => G b * zf2 B b) 36 = zsi (fun w => zsi (fun k => G (zq2 w k)) (w / 3 % 3) * B w) 27 := by
  simp [zsi, zf2, zq2, Int.add_mul]
  omega
theorem zad_2 {A B C : Nat → Int} {I : Nat} : zadp (zmu (zf1 A) (zf2 B)) C I = zsi (fun w1 => zsi (fun v => zsi (fun w2 => zsi (fun k => zT3 C I (zq1 w1 v) (zq2 w2 k)) (w2 / 3 % 3) * B w2) 27) (w1 / 9) * A w1) 27 := by
  refine zad_1.trans (Eq.trans ?_ (zf1_s (G := fun a => zsi (fun w2 => zsi (fun k => zT3 C I a (zq2 w2 k)) (w2 / 3 % 3) * B w2) 27) (A := A)))
  refine zsi_congr 36 (fun a _ => ?_)
  refine Eq.trans ?_ (congrArg (fun x => x * zf1 A a) (zf2_s (G := zT3 C I a) (B := B)))
  refine Eq.trans ?_ (zsi_mr 36)
  refine zsi_congr 36 (fun b _ => ?_)
  show zT3 C I a b * (zf1 A a * zf2 B b) = zT3 C I a b * zf2 B b * zf1 A a
  rw [Int.mul_assoc, Int.mul_comm (zf1 A a)]
/-- both sums, one by one over the places of the three polynomials -/
theorem zad_3 {A B C : Nat → Int} {I : Nat} : zadp (zmu (zf1 A) (zf2 B)) C I = zsi (fun w1 => zsi (fun w2 => zsi (fun v => zsi (fun k => zT3 C I (zq1 w1 v) (zq2 w2 k)) (w2 / 3 % 3)) (w1 / 9) * (A w1 * B w2)) 27) 27 := by
  refine zad_2.trans (zsi_congr 27 (fun w1 _ => ?_))
  have e : zsi (fun v => zsi (fun w2 => zsi (fun k => zT3 C I (zq1 w1 v) (zq2 w2 k)) (w2 / 3 % 3) * B w2) 27) (w1 / 9) = zsi (fun w2 => zsi (fun v => zsi (fun k => zT3 C I (zq1 w1 v) (zq2 w2 k)) (w2 / 3 % 3)) (w1 / 9) * B w2) 27 :=
    (zsi_sw (f := fun v w2 => zsi (fun k => zT3 C I (zq1 w1 v) (zq2 w2 k)) (w2 / 3 % 3) * B w2) (w1 / 9)).trans (zsi_congr 27 (fun w2 _ => zsi_mr (f := fun v => zsi (fun k => zT3 C I (zq1 w1 v) (zq2 w2 k)) (w2 / 3 % 3)) (w1 / 9)))
  show zsi (fun v => zsi (fun w2 => zsi (fun k => zT3 C I (zq1 w1 v) (zq2 w2 k)) (w2 / 3 % 3) * B w2) 27) (w1 / 9) * A w1 = _
  rw [e]
  refine (zsi_mr 27).symm.trans (zsi_congr 27 (fun w2 _ => ?_))
  try dsimp only
  rw [Int.mul_assoc, Int.mul_comm (B w2)]
/-- nine times three is twenty seven -/
theorem zre {H : Nat → Nat → Int} : ∀ n, zsi (fun f => zsi (H f) 3) n = zsi (fun w => H (w / 3) (w % 3)) (3 * n) := by
  intro n
  induction n with
  | zero => rfl
  | succ n ih =>
    show zsi (fun f => zsi (H f) 3) n + zsi (H n) 3 = _
    rw [show 3 * (n + 1) = 3 * n + 1 + 1 + 1 by omega, ih, zsi3]
    show _ = zsi (fun w => H (w / 3) (w % 3)) (3 * n) + H ((3 * n) / 3) ((3 * n) % 3) + H ((3 * n + 1) / 3) ((3 * n + 1) % 3) + H ((3 * n + 1 + 1) / 3) ((3 * n + 1 + 1) % 3)
    rw [show (3 * n) / 3 = n by omega, show (3 * n) % 3 = 0 by omega, show (3 * n + 1) / 3 = n by omega, show (3 * n + 1) % 3 = 1 by omega, show (3 * n + 1 + 1) / 3 = n by omega, show (3 * n + 1 + 1) % 3 = 2 by omega]
    omega
/-- the class's sum, before it is taken modulo p -/
def zb0 (A B C : Nat → Int) (f s t E : Nat) : Int := zsi (fun e3 => zsi (fun q => if q + e3 = E then C (3 * t + e3) * zcw A B f s q else 0) 5) 3
def zclx (A B C : Nat → Int) (m n idx E : Nat) : Int := zsi (fun f => zsi (fun s => zsi (fun t => zab m n f s t idx * zb0 A B C f s t E) 9) 9) 9
def zGq (C : Nat → Int) (m n idx E f s q : Nat) : Int := zsi (fun w => zab m n f s (w / 3) idx * (if q + w % 3 = E then C w else 0)) 27
theorem zcw_e {A B : Nat → Int} {f s q : Nat} : zcw A B f s q = zsi (fun i => zsi (fun k => if i + k = q then A (3 * f + i) * B (3 * s + k) else 0) 3) 3 := rfl
theorem zcl_1 {A B C : Nat → Int} {m n idx E f s : Nat} : zsi (fun t => zab m n f s t idx * zb0 A B C f s t E) 9 = zsi (fun i => zsi (fun k => zGq C m n idx E f s (i + k) * (A (3 * f + i) * B (3 * s + k))) 3) 3 := by
  have e1 : ∀ t, zab m n f s t idx * zb0 A B C f s t E = zsi (fun q => zsi (fun e3 => zab m n f s t idx * (if q + e3 = E then C (3 * t + e3) else 0)) 3 * zcw A B f s q) 5 := fun t => by
    have e2 : zb0 A B C f s t E = zsi (fun q => zsi (fun e3 => if q + e3 = E then C (3 * t + e3) else 0) 3 * zcw A B f s q) 5 :=
      (zsi_sw (f := fun e3 q => if q + e3 = E then C (3 * t + e3) * zcw A B f s q else 0) 3).trans (zsi_congr 5 (fun q _ => by
        refine Eq.trans (zsi_congr 3 (fun e3 _ => ?_)) (zsi_mr 3)
        show (if q + e3 = E then C (3 * t + e3) * zcw A B f s q else 0) = (if q + e3 = E then C (3 * t + e3) else 0) * zcw A B f s q
        by_cases w : q + e3 = E
        · rw [if_pos w, if_pos w]
        · rw [if_neg w, if_neg w, Int.zero_mul]))
    rw [e2]
    refine (zsi_ml 5).symm.trans (zsi_congr 5 (fun q _ => ?_))
    show zab m n f s t idx * (zsi (fun e3 => if q + e3 = E then C (3 * t + e3) else 0) 3 * zcw A B f s q) = zsi (fun e3 => zab m n f s t idx * (if q + e3 = E then C (3 * t + e3) else 0)) 3 * zcw A B f s q
    rw [← Int.mul_assoc]
    exact congrArg (fun x => x * zcw A B f s q) (zsi_ml 3).symm
  refine (zsi_congr 9 (fun t _ => e1 t)).trans ?_
  refine (zsi_sw (f := fun t q => zsi (fun e3 => zab m n f s t idx * (if q + e3 = E then C (3 * t + e3) else 0)) 3 * zcw A B f s q) 9).trans ?_
  have e3 : ∀ q, zsi (fun t => zsi (fun e3 => zab m n f s t idx * (if q + e3 = E then C (3 * t + e3) else 0)) 3 * zcw A B f s q) 9 = zGq C m n idx E f s q * zsi (fun i => zsi (fun k => if i + k = q then A (3 * f + i) * B (3 * s + k) else 0) 3) 3 := fun q => by
    refine (zsi_mr 9).trans ?_
    refine (congrArg (fun x => x * zcw A B f s q) (zre (H := fun t e3 => zab m n f s t idx * (if q + e3 = E then C (3 * t + e3) else 0)) 9)).trans ?_
    refine congrArg (fun x => x * zcw A B f s q) (zsi_congr 27 (fun w _ => ?_))
    try dsimp only
    rw [show 3 * (w / 3) + w % 3 = w by omega]
  refine (zsi_congr 5 (fun q _ => e3 q)).trans ?_
  exact zpf2 (G := zGq C m n idx E f s) (X := fun i k => A (3 * f + i) * B (3 * s + k)) (φ := fun i k => i + k) (fun a ha b hb => by show a + b < 5; omega)
theorem zcl_2 {A B C : Nat → Int} {m n idx E : Nat} : zclx A B C m n idx E = zsi (fun w1 => zsi (fun w2 => zGq C m n idx E (w1 / 3) (w2 / 3) (w1 % 3 + w2 % 3) * (A w1 * B w2)) 27) 27 := by
  have e1 : ∀ f, zsi (fun s => zsi (fun t => zab m n f s t idx * zb0 A B C f s t E) 9) 9 = zsi (fun i => zsi (fun w2 => zGq C m n idx E f (w2 / 3) (i + w2 % 3) * (A (3 * f + i) * B w2)) 27) 3 := fun f => by
    refine (zsi_congr 9 (fun s _ => zcl_1 (A := A) (B := B) (C := C) (m := m) (n := n) (idx := idx) (E := E) (f := f) (s := s))).trans ?_
    refine (zsi_sw (f := fun s i => zsi (fun k => zGq C m n idx E f s (i + k) * (A (3 * f + i) * B (3 * s + k))) 3) 9).trans ?_
    refine zsi_congr 3 (fun i _ => ?_)
    refine (zre (H := fun s k => zGq C m n idx E f s (i + k) * (A (3 * f + i) * B (3 * s + k))) 9).trans ?_
    refine zsi_congr 27 (fun w _ => ?_)
    try dsimp only
    rw [show 3 * (w / 3) + w % 3 = w by omega]
  refine (zsi_congr 9 (fun f _ => e1 f)).trans ?_
  refine (zre (H := fun f i => zsi (fun w2 => zGq C m n idx E f (w2 / 3) (i + w2 % 3) * (A (3 * f + i) * B w2)) 27) 9).trans ?_
  refine zsi_congr 27 (fun w _ => ?_)
  try dsimp only
  rw [show 3 * (w / 3) + w % 3 = w by omega]
/-! the places -/
theorem zq_d {u j v e : Nat} (hj : j < 3) (hv : v < 2) (he : e < 3) : (18 * u + 6 * j + 3 * v + e) / 18 = u ∧ (18 * u + 6 * j + 3 * v + e) % 18 / 6 = j ∧ (18 * u + 6 * j + 3 * v + e) % 6 / 3 = v ∧ (18 * u + 6 * j + 3 * v + e) % 3 = e := by
  refine ⟨?_, ?_, ?_, ?_⟩ <;> omega
theorem zix_d {u j v e l i k e2 : Nat} (hj : j < 3) (hv : v < 2) (he : e < 3) (hi : i < 3) (hk : k < 2) (he2 : e2 < 3) : zix (18 * u + 6 * j + 3 * v + e) (18 * l + 6 * i + 3 * k + e2) = (((4 * u + (j + l)) * 4 + (v + i)) * 2 + k) * 5 + e + e2 := by
  have a := zq_d (u := u) hj hv he
  have b := zq_d (u := l) hi hk he2
  unfold zix
  rw [a.1, a.2.1, a.2.2.1, a.2.2.2, b.1, b.2.1, b.2.2.1, b.2.2.2]
theorem zQ_d {U A k E' : Nat} (hA : A < 4) (hk : k < 2) (hE : E' < 5) : ((U * 4 + A) * 2 + k) * 5 + E' = 40 * U + 10 * A + 5 * k + E' ∧ (40 * U + 10 * A + 5 * k + E') / 40 = U ∧ (40 * U + 10 * A + 5 * k + E') % 40 / 10 = A ∧ (40 * U + 10 * A + 5 * k + E') % 10 / 5 = k ∧ (40 * U + 10 * A + 5 * k + E') % 5 = E' := by
  refine ⟨?_, ?_, ?_, ?_, ?_⟩ <;> omega
theorem zjx_d {U A k E' w : Nat} (hA : A < 4) (hk : k < 2) (hE : E' < 5) (hw : w < 27) : zjx (((U * 4 + A) * 2 + k) * 5 + E') w = ((6 * U + (A + w / 9)) * 4 + (k + w / 3 % 3)) * 7 + (E' + w % 3) := by
  have a := zQ_d (U := U) hA hk hE
  unfold zjx
  rw [a.1, a.2.1, a.2.2.1, a.2.2.2.1, a.2.2.2.2, show w % 9 / 3 = w / 3 % 3 by omega]
  omega
theorem zr7 {x y a b : Nat} (ha : a < 7) (hb : b < 7) (h : x * 7 + a = y * 7 + b) : x = y ∧ a = b := by
  constructor <;> omega
theorem zr4 {x y a b : Nat} (ha : a < 4) (hb : b < 4) (h : x * 4 + a = y * 4 + b) : x = y ∧ a = b := by
  constructor <;> omega
theorem zr6 {x y a b : Nat} (ha : a < 6) (hb : b < 6) (h : 6 * x + a = 6 * y + b) : x = y ∧ a = b := by
  constructor <;> omega
theorem zr4b {x y a b : Nat} (ha : a < 4) (hb : b < 4) (h : 4 * x + a = 4 * y + b) : x = y ∧ a = b := by
  constructor <;> omega
theorem zr8 {x y a b : Nat} (ha : a < 8) (hb : b < 8) (h : 8 * x + a = 8 * y + b) : x = y ∧ a = b := by
  constructor <;> omega
theorem zhit_f {m n u Y A B E' r q E : Nat} (hm : m = 1 ∨ m = 2) (hn : n = 1 ∨ n = 2) (hu : u < 2) (hY : Y < 4) (hA : A < 6) (hB : B < 4) (hE' : E' < 7) (hr : r < 2 * m * n) (hq : q < 2 * m * n) (hE : E < 7) : ((6 * (4 * u + Y) + A) * 4 + B) * 7 + E' = zps9 m r q + E ↔ ((u < m ∧ Y < 2 * n ∧ A < 2 * m ∧ B < n ∧ 8 * r + q = 8 * (m * Y + u) + (2 * m * B + A)) ∧ E' = E) := by
  have br : r / m < 4 := by rcases hm with rfl | rfl <;> rcases hn with rfl | rfl <;> omega
  have b1 : q % (2 * m) < 6 := by rcases hm with rfl | rfl <;> omega
  have b2 : q / (2 * m) < 4 := by rcases hm with rfl | rfl <;> rcases hn with rfl | rfl <;> omega
  unfold zps9
  constructor
  · intro h
    obtain ⟨h1, e1⟩ := zr7 hE' hE h
    obtain ⟨h2, e2⟩ := zr4 hB b2 h1
    obtain ⟨h3, e3⟩ := zr6 hA b1 h2
    obtain ⟨e4, e5⟩ := zr4b hY br h3
    clear h h1 h2 h3
    rcases hm with rfl | rfl <;> rcases hn with rfl | rfl <;> refine ⟨⟨?_, ?_, ?_, ?_, ?_⟩, e1⟩ <;> omega
  · rintro ⟨⟨c1, c2, c3, c4, c5⟩, e⟩
    have hb8 : 2 * m * B + A < 8 := by rcases hm with rfl | rfl <;> rcases hn with rfl | rfl <;> omega
    have hq8 : q < 8 := by rcases hm with rfl | rfl <;> rcases hn with rfl | rfl <;> omega
    obtain ⟨d1, d2⟩ := zr8 hq8 hb8 c5
    have f1 : r % m = u := by rcases hm with rfl | rfl <;> omega
    have f2 : r / m = Y := by rcases hm with rfl | rfl <;> omega
    have f3 : q % (2 * m) = A := by rcases hm with rfl | rfl <;> omega
    have f4 : q / (2 * m) = B := by rcases hm with rfl | rfl <;> omega
    rw [f1, f2, f3, f4, e]
theorem zhit_k {m n w1 w2 w3 x y r q E : Nat} (hm : m = 1 ∨ m = 2) (hn : n = 1 ∨ n = 2) (h1 : w1 < 27) (h2 : w2 < 27) (h3 : w3 < 27) (hx : x < w1 / 9) (hy : y < w2 / 3 % 3) (hr : r < 2 * m * n) (hq : q < 2 * m * n) (hE : E < 7) : zjx (zix (zq1 w1 x) (zq2 w2 y)) w3 = zps9 m r q + E ↔ (zhit m n (w1 / 3) (w2 / 3) (w3 / 3) x y (8 * r + q) ∧ w1 % 3 + w2 % 3 + w3 % 3 = E) := by
  have a1 : w1 / 3 / 3 = w1 / 9 := by omega
  have a2 : w2 / 3 / 3 = w2 / 9 := by omega
  have a3 : w3 / 3 / 3 = w3 / 9 := by omega
  have a4 : w1 / 3 % 3 + w2 / 3 % 3 - 1 - y = w1 / 3 % 3 + (w2 / 3 % 3 - 1 - y) := by omega
  have b1 : w1 / 9 < 3 := by omega
  have b2 : w2 / 9 < 3 := by omega
  have b3 : w3 / 9 < 3 := by omega
  have c1 : w1 / 3 % 3 < 3 := by omega
  have c2 : w2 / 3 % 3 < 3 := by omega
  have c3 : w3 / 3 % 3 < 3 := by omega
  have d1 : w1 % 3 < 3 := by omega
  have d2 : w2 % 3 < 3 := by omega
  have d3 : w3 % 3 < 3 := by omega
  unfold zq1 zq2
  rw [zix_d (u := w1 / 9 - 1 - x) (v := x) (l := w2 / 3 % 3 - 1 - y) (k := y) c1 (by omega) d1 b2 (by omega) d2, Nat.add_assoc _ (w1 % 3) (w2 % 3), zjx_d (U := 4 * (w1 / 9 - 1 - x) + (w1 / 3 % 3 + (w2 / 3 % 3 - 1 - y))) (A := x + w2 / 9) (k := y) (E' := w1 % 3 + w2 % 3) (by omega) (by omega) (by omega) h3]
  unfold zhit
  rw [a1, a2, a3, a4]
  exact zhit_f hm hn (by omega) (by omega) (by omega) (by omega) (by omega) hr hq hE
theorem zGq_T {C : Nat → Int} {m n w1 w2 r q E : Nat} (hm : m = 1 ∨ m = 2) (hn : n = 1 ∨ n = 2) (h1 : w1 < 27) (h2 : w2 < 27) (hr : r < 2 * m * n) (hq : q < 2 * m * n) (hE : E < 7) : zsi (fun v => zsi (fun k => zT3 C (zps9 m r q + E) (zq1 w1 v) (zq2 w2 k)) (w2 / 3 % 3)) (w1 / 9) = zGq C m n (8 * r + q) E (w1 / 3) (w2 / 3) (w1 % 3 + w2 % 3) := by
  have e1 : ∀ v, zsi (fun k => zT3 C (zps9 m r q + E) (zq1 w1 v) (zq2 w2 k)) (w2 / 3 % 3) = zsi (fun w => zsi (fun k => if zjx (zix (zq1 w1 v) (zq2 w2 k)) w = zps9 m r q + E then C w else 0) (w2 / 3 % 3)) 27 := fun v =>
    zsi_sw (f := fun k w => if zjx (zix (zq1 w1 v) (zq2 w2 k)) w = zps9 m r q + E then C w else 0) (w2 / 3 % 3)
  refine (zsi_congr (w1 / 9) (fun v _ => e1 v)).trans ?_
  refine (zsi_sw (f := fun v w => zsi (fun k => if zjx (zix (zq1 w1 v) (zq2 w2 k)) w = zps9 m r q + E then C w else 0) (w2 / 3 % 3)) (w1 / 9)).trans ?_
  refine zsi_congr 27 (fun w hw => ?_)
  show _ = zsi (zh2 m n (w1 / 3) (w2 / 3) (w / 3) (8 * r + q)) (w1 / 3 / 3) * (if w1 % 3 + w2 % 3 + w % 3 = E then C w else 0)
  rw [show w1 / 3 / 3 = w1 / 9 by omega]
  refine Eq.trans (zsi_congr (w1 / 9) (fun x hx => ?_)) (zsi_mr (w1 / 9))
  show _ = zsi (zh1 m n (w1 / 3) (w2 / 3) (w / 3) (8 * r + q) x) (w2 / 3 % 3) * (if w1 % 3 + w2 % 3 + w % 3 = E then C w else 0)
  refine Eq.trans (zsi_congr (w2 / 3 % 3) (fun y hy => ?_)) (zsi_mr (w2 / 3 % 3))
  have k := zhit_k hm hn h1 h2 hw hx hy hr hq hE
  show (if zjx (zix (zq1 w1 x) (zq2 w2 y)) w = zps9 m r q + E then C w else 0) = zh1 m n (w1 / 3) (w2 / 3) (w / 3) (8 * r + q) x y * (if w1 % 3 + w2 % 3 + w % 3 = E then C w else 0)
  unfold zh1
  by_cases z : zjx (zix (zq1 w1 x) (zq2 w2 y)) w = zps9 m r q + E
  · have z2 := k.mp z
    rw [if_pos z, if_pos z2.1, if_pos z2.2, Int.one_mul]
  · rw [if_neg z]
    by_cases z2 : zhit m n (w1 / 3) (w2 / 3) (w / 3) x y (8 * r + q)
    · rw [if_neg (fun z3 => z (k.mpr ⟨z2, z3⟩)), Int.mul_zero]
    · rw [if_neg z2, Int.zero_mul]
theorem zad_cl {A B C : Nat → Int} {m n r q E : Nat} (hm : m = 1 ∨ m = 2) (hn : n = 1 ∨ n = 2) (hr : r < 2 * m * n) (hq : q < 2 * m * n) (hE : E < 7) : zadp (zmu (zf1 A) (zf2 B)) C (zps9 m r q + E) = zclx A B C m n (8 * r + q) E := by
  rw [zad_3, zcl_2]
  refine zsi_congr 27 (fun w1 h1 => zsi_congr 27 (fun w2 h2 => ?_))
  exact congrArg (fun x => x * (A w1 * B w2)) (zGq_T hm hn h1 h2 hr hq hE)
/-! modulo p -/
theorem zadp_cg {p : Int} {P P' C : Nat → Int} {I : Nat} (h : ∀ i, zcg p (P i) (P' i)) : zcg p (zadp P C I) (zadp P' C I) := zcg.si 320 (fun q _ => zcg.si 27 (fun r _ => by
  show zcg p (if zjx q r = I then P q * C r else 0) (if zjx q r = I then P' q * C r else 0)
  by_cases w : zjx q r = I
  · rw [if_pos w, if_pos w]
    exact (h q).ml zcg.rf
  · rw [if_neg w, if_neg w]
    exact zcg.rf))
theorem zadp_l {X Y C : Nat → Int} {I : Nat} : zadp (fun i => X i + -1 * Y i) C I = zadp X C I + -1 * zadp Y C I := by
  unfold zadp
  rw [← zsi_ml, ← zsi_ad]
  refine zsi_congr 320 (fun q _ => ?_)
  unfold zaG
  rw [← zsi_ml, ← zsi_ad]
  refine zsi_congr 27 (fun r _ => ?_)
  unfold zaT
  by_cases w : zjx q r = I
  · rw [if_pos w, if_pos w, if_pos w]
    grind
  · rw [if_neg w, if_neg w, if_neg w]
    omega
def zde (p : Int) (c : Nat → Nat → Int) (m n idx E k : Nat) : Int := zclx (c ((k + 1) % 3)) (c ((k + 2) % 3)) (c k) m n idx E + -1 * zclx (c ((k + 2) % 3)) (c ((k + 1) % 3)) (c k) m n idx E
theorem zDd_1 {p : Int} {c : Nat → Nat → Int} {m n r q E : Nat} (hm : m = 1 ∨ m = 2) (hn : n = 1 ∨ n = 2) (hr : r < 2 * m * n) (hq : q < 2 * m * n) (hE : E < 7) : zcg p (zDd p c (zps9 m r q + E)) (zsi (zde p c m n (8 * r + q) E) 3) := by
  refine zcg.md.tr (zcg.si 3 (fun k _ => ?_))
  refine (zadp_cg (p := p) (P := zPp p c k) (C := c k) (I := zps9 m r q + E) (P' := fun i => zmu (zf1 (c ((k + 1) % 3))) (zf2 (c ((k + 2) % 3))) i + -1 * zmu (zf1 (c ((k + 2) % 3))) (zf2 (c ((k + 1) % 3))) i) (fun i => zcg.md)).tr (zcg.of ?_)
  refine zadp_l.trans ?_
  unfold zde
  rw [← zad_cl hm hn hr hq hE, ← zad_cl hm hn hr hq hE]
def zdt3 (c : Nat → Nat → Int) (m n idx E k f s t : Nat) : Int := zab m n f s t idx * (zb0 (c ((k + 1) % 3)) (c ((k + 2) % 3)) (c k) f s t E + -1 * zb0 (c ((k + 2) % 3)) (c ((k + 1) % 3)) (c k) f s t E)
theorem zb2_0 {p : Int} {c : Nat → Nat → Int} {f s t k E : Nat} : zcg p (zb2 c (zcrs p c f s) t k E) (zb0 (c ((k + 1) % 3)) (c ((k + 2) % 3)) (c k) f s t E + -1 * zb0 (c ((k + 2) % 3)) (c ((k + 1) % 3)) (c k) f s t E) := by
  unfold zb0
  rw [← zsi_ml, ← zsi_ad]
  refine zcg.si 3 (fun e3 _ => ?_)
  show zcg p (zsi (zbt c (zcrs p c f s) t k e3 E) 5) _
  rw [← zsi_ml, ← zsi_ad]
  refine zcg.si 5 (fun q _ => ?_)
  unfold zbt
  by_cases w : q + e3 = E
  · rw [if_pos w, if_pos w, if_pos w]
    exact (zcg.rf.ml zcg.md).tr (zcg.of (by grind))
  · rw [if_neg w, if_neg w, if_neg w]
    exact zcg.of (by omega)
theorem zE1_c {p : Int} {c : Nat → Nat → Int} {idx E f s t : Nat} : zcg p (zE1 p c idx E f s t) (zsi (fun k => zdt3 c (zgd c 0) (zgd c 1) idx E k f s t) 3) := by
  unfold zE1
  refine (zcg.rf.ml (zcg.md.tr (zcg.si 3 (fun k _ => zb2_0)))).tr (zcg.of ?_)
  exact (zsi_ml 3).symm
theorem zdt3_s {c : Nat → Nat → Int} {p : Int} {m n idx E k : Nat} : zsi (fun f => zsi (fun s => zsi (fun t => zdt3 c m n idx E k f s t) 9) 9) 9 = zde p c m n idx E k := by
  unfold zde zclx
  rw [← zsi_ml, ← zsi_ad]
  refine zsi_congr 9 (fun f _ => ?_)
  try dsimp only
  rw [← zsi_ml, ← zsi_ad]
  refine zsi_congr 9 (fun s _ => ?_)
  try dsimp only
  rw [← zsi_ml, ← zsi_ad]
  refine zsi_congr 9 (fun t _ => ?_)
  unfold zdt3
  grind
theorem zEn_1 {p : Int} {c : Nat → Nat → Int} {idx E : Nat} : zcg p (zEn p c idx E) (zsi (zde p c (zgd c 0) (zgd c 1) idx E) 3) := by
  refine zcg.md.tr ?_
  refine (zcg.si 9 (fun f _ => ?_ : ∀ f, f < 9 → zcg p (zE3 p c idx E f) (zsi (fun k => zsi (fun s => zsi (fun t => zdt3 c (zgd c 0) (zgd c 1) idx E k f s t) 9) 9) 3))).tr (zcg.of ?_)
  · refine (zcg.si 9 (fun s _ => ?_ : ∀ s, s < 9 → zcg p (zE2 p c idx E f s) (zsi (fun k => zsi (fun t => zdt3 c (zgd c 0) (zgd c 1) idx E k f s t) 9) 3))).tr (zcg.of ?_)
    · refine (zcg.si 9 (fun t _ => zE1_c (p := p) (c := c) (idx := idx) (E := E) (f := f) (s := s) (t := t))).tr (zcg.of ?_)
      exact zsi_sw (f := fun t k => zdt3 c (zgd c 0) (zgd c 1) idx E k f s t) 9
    · exact zsi_sw (f := fun s k => zsi (fun t => zdt3 c (zgd c 0) (zgd c 1) idx E k f s t) 9) 9
  · refine (zsi_sw (f := fun f k => zsi (fun s => zsi (fun t => zdt3 c (zgd c 0) (zgd c 1) idx E k f s t) 9) 9) 9).trans ?_
    exact zsi_congr 3 (fun k _ => zdt3_s)
