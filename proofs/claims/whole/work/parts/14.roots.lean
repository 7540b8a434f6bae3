
/-! ===== sets as masks ===== -/
noncomputable def zmk (P : Nat → Prop) : Nat → Nat
  | 0 => 0
  | n + 1 => @ite _ (P n) (Classical.propDecidable _) (zmk P n + 2 ^ n) (zmk P n)
noncomputable def zct (P : Nat → Prop) : Nat → Nat
  | 0 => 0
  | n + 1 => @ite _ (P n) (Classical.propDecidable _) (zct P n + 1) (zct P n)
theorem zmk_y {P : Nat → Prop} {n : Nat} (h : P n) : zmk P (n + 1) = zmk P n + 2 ^ n := if_pos h
theorem zmk_n {P : Nat → Prop} {n : Nat} (h : ¬ P n) : zmk P (n + 1) = zmk P n := if_neg h
theorem zct_y {P : Nat → Prop} {n : Nat} (h : P n) : zct P (n + 1) = zct P n + 1 := if_pos h
theorem zct_n {P : Nat → Prop} {n : Nat} (h : ¬ P n) : zct P (n + 1) = zct P n := if_neg h
theorem zct_le {P : Nat → Prop} : ∀ n, zct P n ≤ n := by
  intro n
  induction n with
  | zero => exact Nat.le_refl 0
  | succ n ih =>
    by_cases q : P n
    · rw [zct_y q]; omega
    · rw [zct_n q]; omega
theorem zmk_lt {P : Nat → Prop} : ∀ n, zmk P n < 2 ^ n := by
  intro n
  induction n with
  | zero => exact Nat.one_pos
  | succ n ih =>
    rw [Nat.pow_succ]
    by_cases q : P n
    · rw [zmk_y q]; omega
    · rw [zmk_n q]; omega
theorem zmk_or {P : Nat → Prop} (n : Nat) : zmk P n ||| 2 ^ n = zmk P n + 2 ^ n := by
  have h := Nat.two_pow_add_eq_or_of_lt (zmk_lt (P := P) n) 1
  rw [Nat.mul_one] at h
  rw [Nat.or_comm, ← h, Nat.add_comm]
theorem zmk_bit {P : Nat → Prop} : ∀ n i, i < n → (zmk P n / 2 ^ i % 2 = 1 ↔ P i) := by
  intro n
  induction n with
  | zero => intro i hi; exact absurd hi (Nat.not_lt_zero i)
  | succ n ih =>
    intro i hi
    have hlt := zmk_lt (P := P) n
    by_cases e : i = n
    · subst e
      by_cases q : P i
      · rw [zmk_y q, Nat.add_div_right _ (Nat.two_pow_pos i), Nat.div_eq_of_lt hlt]
        exact ⟨fun _ => q, fun _ => rfl⟩
      · rw [zmk_n q, Nat.div_eq_of_lt hlt]
        exact ⟨fun z => absurd z (by decide), fun z => absurd z q⟩
    · have hin : i < n := by omega
      by_cases q : P n
      · rw [zmk_y q]
        have e2 : 2 ^ n = 2 ^ i * (2 * 2 ^ (n - i - 1)) := by
          rw [← Nat.mul_assoc, ← Nat.pow_succ, ← Nat.pow_add]
          congr 1
          omega
        rw [e2, Nat.add_mul_div_left _ _ (Nat.two_pow_pos i), Nat.add_mul_mod_self_left]
        exact ih i hin
      · rw [zmk_n q]
        exact ih i hin
theorem zmk_congr {P Q : Nat → Prop} : ∀ n, (∀ i, i < n → (P i ↔ Q i)) → zmk P n = zmk Q n := by
  intro n
  induction n with
  | zero => intro _; rfl
  | succ n ih =>
    intro h
    have := ih (fun i hi => h i (by omega))
    by_cases q : P n
    · rw [zmk_y q, zmk_y ((h n (by omega)).mp q), this]
    · rw [zmk_n q, zmk_n (fun z => q ((h n (by omega)).mpr z)), this]
theorem zct_congr {P Q : Nat → Prop} : ∀ n, (∀ i, i < n → (P i ↔ Q i)) → zct P n = zct Q n := by
  intro n
  induction n with
  | zero => intro _; rfl
  | succ n ih =>
    intro h
    have := ih (fun i hi => h i (by omega))
    by_cases q : P n
    · rw [zct_y q, zct_y ((h n (by omega)).mp q), this]
    · rw [zct_n q, zct_n (fun z => q ((h n (by omega)).mpr z)), this]
theorem zmk_out {P : Nat → Prop} {n : Nat} : ∀ m, n ≤ m → (∀ i, n ≤ i → i < m → ¬ P i) → zmk P m = zmk P n := by
  intro m
  induction m with
  | zero => intro h _; rw [show n = 0 by omega]
  | succ m ih =>
    intro h hP
    by_cases e : n = m + 1
    · rw [e]
    · rw [zmk_n (hP m (by omega) (by omega)), ih (by omega) (fun i h1 h2 => hP i h1 (by omega))]
theorem z_or1 (m i : Nat) : (((m : Nat) : Int).toNat ||| ((1 : Int) * 2 ^ ((i : Nat) : Int).toNat).toNat) = m ||| 2 ^ i := by
  have e : ((1 : Int) * 2 ^ ((i : Nat) : Int).toNat) = ((2 ^ i : Nat) : Int) := by
    rw [Int.one_mul, Int.toNat_natCast]
    simp
  rw [e, Int.toNat_natCast, Int.toNat_natCast]
theorem z_1s : ∀ i : Nat, i < 31 → 0 ≤ (1 : Int) * 2 ^ ((i : Nat) : Int).toNat ∧ (1 : Int) * 2 ^ ((i : Nat) : Int).toNat < 2147483648 := by decide +kernel
theorem z_bt (m i : Nat) : (((((m : Nat) : Int) / 2 ^ ((i : Nat) : Int).toNat).toNat &&& (1 : Int).toNat : Nat) : Int) = ((m / 2 ^ i % 2 : Nat) : Int) := by
  have e : (((m : Nat) : Int) / 2 ^ ((i : Nat) : Int).toNat) = ((m / 2 ^ i : Nat) : Int) := by
    rw [Int.toNat_natCast]
    simp
  rw [e, Int.toNat_natCast]
  congr 1
  exact Nat.and_one_is_mod _
theorem z_sh {m : Nat} (i : Nat) (h : m < 2147483648) : 0 ≤ ((m : Nat) : Int) / 2 ^ ((i : Nat) : Int).toNat ∧ ((m : Nat) : Int) / 2 ^ ((i : Nat) : Int).toNat < 2147483648 := by
  have e : (((m : Nat) : Int) / 2 ^ ((i : Nat) : Int).toNat) = ((m / 2 ^ i : Nat) : Int) := by
    rw [Int.toNat_natCast]
    simp
  rw [e]
  have := Nat.div_le_self m (2 ^ i)
  generalize m / 2 ^ i = q at *
  omega
theorem z_pow31 {n : Nat} (h : n ≤ 31) : 2 ^ n ≤ 2147483648 := Nat.pow_le_pow_right (by decide) h
theorem z_orb (s t i : Nat) : (s ||| 2 ^ t) / 2 ^ i % 2 = 1 ↔ (s / 2 ^ i % 2 = 1 ∨ t = i) := by
  have h := Nat.testBit_or s (2 ^ t) i
  rw [Nat.testBit_two_pow, Nat.testBit_eq_decide_div_mod_eq, Nat.testBit_eq_decide_div_mod_eq] at h
  by_cases a : s / 2 ^ i % 2 = 1 <;> by_cases b : t = i <;> simp_all
/-! ===== common roots ===== -/
def zln (p : Int) (c : Nat → Nat → Int) (t x : Int) (k j : Nat) : Int := (zcut p c k j t + x * (zcut p c k (3 + j) t + x * zcut p c k (6 + j) t)) % p
def zRt (p : Int) (c : Nat → Nat → Int) (t x : Int) (y : Nat) : Prop := ∀ k, k < 3 → zhor (y : Int) p 3 (zln p c t x k) = 0
def zFY (a _j : Nat) : Prop := 179 ≤ a ∧ a ≤ 181
def zFRo (a j : Nat) : Prop := (a = 141 ∧ j = 4) ∨ (143 ≤ a ∧ a ≤ 173) ∨ (175 ≤ a ∧ a ≤ 177) ∨ (179 ≤ a ∧ a ≤ 181)
def zRoT (p : Int) (c : Nat → Nat → Int) (t : Nat) (h : zH) : Prop := ∀ x, x < 31 → h (143 + t) x = if (x : Int) < p then (zmk (zRt p c t x) p.toNat : Int) else 0
/-- what the roots object keeps: the set s of the t that were searched -/
def zRo (p : Int) (c : Nat → Nat → Int) (h : zH) : Prop := ∃ s : Nat, h 141 4 = (s : Int) ∧ s < 2147483648 ∧ ∀ t : Nat, (t : Int) < p → s / 2 ^ t % 2 = 1 → zRoT p c t h
theorem z_is175 {k : Nat} (h : k < 3) : zIs zN (175 + k) (10, 9) := by
  have q : ∀ k, k < 3 → zSH (175 + k) = (10, 9) ∧ 0 < 175 + k ∧ 175 + k ≤ zN := by decide +kernel
  exact q k h
theorem z_is179 {k : Nat} (h : k < 3) : zIs zN (179 + k) (10, 3) := by
  have q : ∀ k, k < 3 → zSH (179 + k) = (10, 3) ∧ 0 < 179 + k ∧ 179 + k ≤ zN := by decide +kernel
  exact q k h
theorem z_is143 {k : Nat} (h : k < 31) : zIs zN (143 + k) (10, 31) := by
  have q : ∀ k, k < 31 → zSH (143 + k) = (10, 31) ∧ 0 < 143 + k ∧ 143 + k ≤ zN := by decide +kernel
  exact q k h
theorem zPo_2 : zPo 2 := by
  unfold zPo
  decide
theorem zln_in {p : Int} (hp : 0 < p) (c : Nat → Nat → Int) (t x : Int) (k j : Nat) : 0 ≤ zln p c t x k j ∧ zln p c t x k j < p := z_mod hp _
theorem zPol_fr {p : Int} {c : Nat → Nat → Int} {h h' : zH} {F : Nat → Nat → Prop} (H : zPol p c 2 h) (f : zFr F h h') (n : ∀ j, ¬ F 2 j ∧ ¬ F 4 j ∧ ¬ F 5 j ∧ ¬ F 6 j) : zPol p c 2 h' := by
  refine ⟨(f 2 0 (n 0).1).trans H.1, fun k hk j hj => ?_⟩
  refine Eq.trans (f _ _ ?_) (H.2 k hk j hj)
  rcases (show k = 0 ∨ k = 1 ∨ k = 2 by omega) with rfl | rfl | rfl
  · exact (n j).2.1
  · exact (n j).2.2.1
  · exact (n j).2.2.2

def zw1 (m : Nat) : Nat := m - (m / 2 &&& 1431655765)
def zw2 (m : Nat) : Nat := (zw1 m &&& 858993459) + (zw1 m / 4 &&& 858993459)
def zw3 (m : Nat) : Nat := (zw2 m + zw2 m / 16) &&& 252645135
def zw4 (m : Nat) : Nat := zw3 m + zw3 m / 256
def zw5 (m : Nat) : Nat := zw4 m + zw4 m / 65536
/-- how many bits are set -/
noncomputable def zpc (m : Nat) : Nat := zct (fun i => m / 2 ^ i % 2 = 1) 31
theorem zw_b1 (m : Nat) : zw1 m ≤ m := Nat.sub_le _ _
theorem zw_b2 (m : Nat) : zw2 m ≤ 1717986918 := by
  unfold zw2
  have h1 : zw1 m &&& 858993459 ≤ 858993459 := Nat.and_le_right
  have h2 : zw1 m / 4 &&& 858993459 ≤ 858993459 := Nat.and_le_right
  omega
theorem zw_b3 (m : Nat) : zw3 m ≤ 252645135 := Nat.and_le_right
theorem z_us {m : Nat} (h : m < 4294967296) (k : Nat) : (((m : Nat) : Int) % 4294967296 / 2 ^ ((k : Nat) : Int).toNat) = ((m / 2 ^ k : Nat) : Int) := by
  rw [Int.emod_eq_of_lt (by omega) (by omega), Int.toNat_natCast]
  simp
/-! the sum of bits by nibbles -/
theorem z_andS {w x y a b : Nat} (hx : x < 2 ^ w) (ha : a < 2 ^ w) : (2 ^ w * y + x) &&& (2 ^ w * b + a) = 2 ^ w * (y &&& b) + (x &&& a) := by
  have hxa : x &&& a < 2 ^ w := Nat.lt_of_le_of_lt Nat.and_le_left hx
  apply Nat.eq_of_testBit_eq
  intro i
  rw [Nat.testBit_and, Nat.testBit_two_pow_mul_add _ hx, Nat.testBit_two_pow_mul_add _ ha, Nat.testBit_two_pow_mul_add _ hxa]
  split
  · rw [Nat.testBit_and]
  · rw [Nat.testBit_and]
def zP4 (x : Nat) : Nat := x % 2 + x / 2 % 2 + x / 4 % 2 + x / 8 % 2
theorem z_n1 : ∀ x, x < 16 → ∀ c, c < 2 → (x / 2 + 8 * c) &&& 5 = x / 2 &&& 5 ∧ (x / 2 &&& 5) ≤ x ∧ x - (x / 2 &&& 5) < 16 := by decide +kernel
theorem z_n2 : ∀ x, x < 16 → ∀ c, c < 4 → (((x - (x / 2 &&& 5)) / 4 + 4 * c) &&& 3) + ((x - (x / 2 &&& 5)) &&& 3) = zP4 x ∧ (((x - (x / 2 &&& 5)) / 4 + 4 * c) &&& 3) ≤ 3 := by decide +kernel
theorem zP4_le : ∀ x, x < 16 → zP4 x ≤ 4 := by decide +kernel
/-- the masks of k nibbles -/
def zK (d : Nat) : Nat → Nat
  | 0 => 0
  | k + 1 => 16 * zK d k + d
def zPs : Nat → Nat → Nat
  | 0, _ => 0
  | k + 1, m => 16 * zPs k (m / 16) + zP4 (m % 16)
theorem z_st1 : ∀ k m, m < 16 ^ k → ∀ c, c < 2 → (m / 2 + 2 ^ (4 * k) / 2 * c) &&& zK 5 k = m / 2 &&& zK 5 k ∧ (m / 2 &&& zK 5 k) ≤ m := by
  intro k
  induction k with
  | zero =>
    intro m hm c hc
    exact ⟨by simp [zK], by simp [zK]⟩
  | succ k ih =>
    intro m hm c hc
    have hm' : m / 16 < 16 ^ k := by rw [Nat.pow_succ] at hm; omega
    have hx : m % 16 < 16 := Nat.mod_lt _ (by decide)
    have hc' : m / 16 % 2 < 2 := Nat.mod_lt _ (by decide)
    obtain ⟨a1, a2⟩ := ih (m / 16) hm' c hc
    obtain ⟨b1, b2, b3⟩ := z_n1 (m % 16) hx (m / 16 % 2) hc'
    have hp : 2 ^ (4 * (k + 1)) / 2 = 16 * (2 ^ (4 * k) / 2) ∨ k = 0 := by
      cases k with
      | zero => exact Or.inr rfl
      | succ k =>
        left
        rw [show 4 * (k + 1 + 1) = 4 * (k + 1) + 4 by omega, Nat.pow_add, show 4 * (k + 1) = 4 * k + 3 + 1 by omega, Nat.pow_succ]
        omega
    have hsplit : m / 2 = 2 ^ 4 * (m / 16 / 2) + (m % 16 / 2 + 8 * (m / 16 % 2)) := by omega
    have hlow : m % 16 / 2 + 8 * (m / 16 % 2) < 2 ^ 4 := by omega
    have e0 : m / 2 &&& zK 5 (k + 1) = 2 ^ 4 * (m / 16 / 2 &&& zK 5 k) + (m % 16 / 2 &&& 5) := by
      show m / 2 &&& (2 ^ 4 * zK 5 k + 5) = _
      rw [hsplit, z_andS hlow (by decide), b1]
    refine ⟨?_, by rw [e0]; omega⟩
    rw [e0]
    rcases hp with hp | hp
    · rw [hp]
      have e1 : m / 2 + 16 * (2 ^ (4 * k) / 2) * c = 2 ^ 4 * (m / 16 / 2 + 2 ^ (4 * k) / 2 * c) + (m % 16 / 2 + 8 * (m / 16 % 2)) := by
        rw [Nat.mul_assoc]
        omega
      rw [e1]
      show _ &&& (2 ^ 4 * zK 5 k + 5) = _
      rw [z_andS hlow (by decide), b1, a1]
    · subst hp
      have hm1 : m / 16 = 0 := by omega
      have := z_n1 m (by omega) c hc
      have e9 : zK 5 (0 + 1) = 5 := rfl
      have e8 : zK 5 0 = 0 := rfl
      rw [e9, e8]
      show (m / 2 + 8 * c) &&& 5 = _
      rw [this.1]
      simp [show m % 16 = m by omega]
theorem zw1_s (k m : Nat) (hm : m < 16 ^ (k + 1)) : m - (m / 2 &&& zK 5 (k + 1)) = 16 * (m / 16 - (m / 16 / 2 &&& zK 5 k)) + (m % 16 - (m % 16 / 2 &&& 5)) := by
  have hm' : m / 16 < 16 ^ k := by rw [Nat.pow_succ] at hm; omega
  have hx : m % 16 < 16 := Nat.mod_lt _ (by decide)
  have hc' : m / 16 % 2 < 2 := Nat.mod_lt _ (by decide)
  obtain ⟨a1, a2⟩ := z_st1 k (m / 16) hm' 0 (by decide)
  obtain ⟨b1, b2, b3⟩ := z_n1 (m % 16) hx (m / 16 % 2) hc'
  have hsplit : m / 2 = 2 ^ 4 * (m / 16 / 2) + (m % 16 / 2 + 8 * (m / 16 % 2)) := by omega
  have e0 : m / 2 &&& zK 5 (k + 1) = 2 ^ 4 * (m / 16 / 2 &&& zK 5 k) + (m % 16 / 2 &&& 5) := by
    show m / 2 &&& (2 ^ 4 * zK 5 k + 5) = _
    rw [hsplit, z_andS (by omega) (by decide), b1]
  rw [e0]
  omega
theorem zw2_s : ∀ k m, m < 16 ^ k → ((m - (m / 2 &&& zK 5 k)) &&& zK 3 k) + ((m - (m / 2 &&& zK 5 k)) / 4 &&& zK 3 k) = zPs k m := by
  intro k
  induction k with
  | zero =>
    intro m hm
    simp [zK, zPs]
  | succ k ih =>
    intro m hm
    have hm' : m / 16 < 16 ^ k := by rw [Nat.pow_succ] at hm; omega
    have hx : m % 16 < 16 := Nat.mod_lt _ (by decide)
    obtain ⟨b1, b2, b3⟩ := z_n1 (m % 16) hx 0 (by decide)
    have h0 := ih (m / 16) hm'
    rw [zw1_s k m hm]
    generalize hA : m / 16 - (m / 16 / 2 &&& zK 5 k) = A at h0
    generalize hB : m % 16 - (m % 16 / 2 &&& 5) = Bn at b3
    have hc4 : A % 4 < 4 := Nat.mod_lt _ (by decide)
    obtain ⟨d1, d2⟩ := z_n2 (m % 16) hx (A % 4) hc4
    rw [hB] at d1 d2
    have e1 : (16 * A + Bn) / 4 = 2 ^ 4 * (A / 4) + (Bn / 4 + 4 * (A % 4)) := by omega
    have e2 : (16 * A + Bn) &&& zK 3 (k + 1) = 2 ^ 4 * (A &&& zK 3 k) + (Bn &&& 3) := by
      show (2 ^ 4 * A + Bn) &&& (2 ^ 4 * zK 3 k + 3) = _
      exact z_andS b3 (by decide)
    have e3 : (16 * A + Bn) / 4 &&& zK 3 (k + 1) = 2 ^ 4 * (A / 4 &&& zK 3 k) + ((Bn / 4 + 4 * (A % 4)) &&& 3) := by
      rw [e1]
      show _ &&& (2 ^ 4 * zK 3 k + 3) = _
      exact z_andS (by omega) (by decide)
    rw [e2, e3]
    show _ = 16 * zPs k (m / 16) + zP4 (m % 16)
    omega
theorem z_and15 {x : Nat} (h : x < 16) : x &&& 15 = x := by
  have q : ∀ x, x < 16 → x &&& 15 = x := by decide +kernel
  exact q x h
theorem z_f8 {d0 d1 d2 d3 d4 d5 d6 d7 : Nat} (h0 : d0 ≤ 4) (h1 : d1 ≤ 4) (h2 : d2 ≤ 4) (h3 : d3 ≤ 4) (h4 : d4 ≤ 4) (h5 : d5 ≤ 4) (h6 : d6 ≤ 4) (h7 : d7 ≤ 4) {s : Nat}
    (hs : s = d0 + 16 * (d1 + 16 * (d2 + 16 * (d3 + 16 * (d4 + 16 * (d5 + 16 * (d6 + 16 * d7))))))) : (s + s / 16) &&& 252645135 = (d0 + d1) + 256 * ((d2 + d3) + 256 * ((d4 + d5) + 256 * (d6 + d7))) := by
  have e0 : s + s / 16 = 2 ^ 4 * ((d1 + d2) + 16 * ((d2 + d3) + 16 * ((d3 + d4) + 16 * ((d4 + d5) + 16 * ((d5 + d6) + 16 * ((d6 + d7) + 16 * d7)))))) + (d0 + d1) := by omega
  have e1 : (d1 + d2) + 16 * ((d2 + d3) + 16 * ((d3 + d4) + 16 * ((d4 + d5) + 16 * ((d5 + d6) + 16 * ((d6 + d7) + 16 * d7))))) = 2 ^ 4 * ((d2 + d3) + 16 * ((d3 + d4) + 16 * ((d4 + d5) + 16 * ((d5 + d6) + 16 * ((d6 + d7) + 16 * d7))))) + (d1 + d2) := by omega
  have e2 : (d2 + d3) + 16 * ((d3 + d4) + 16 * ((d4 + d5) + 16 * ((d5 + d6) + 16 * ((d6 + d7) + 16 * d7)))) = 2 ^ 4 * ((d3 + d4) + 16 * ((d4 + d5) + 16 * ((d5 + d6) + 16 * ((d6 + d7) + 16 * d7)))) + (d2 + d3) := by omega
  have e3 : (d3 + d4) + 16 * ((d4 + d5) + 16 * ((d5 + d6) + 16 * ((d6 + d7) + 16 * d7))) = 2 ^ 4 * ((d4 + d5) + 16 * ((d5 + d6) + 16 * ((d6 + d7) + 16 * d7))) + (d3 + d4) := by omega
  have e4 : (d4 + d5) + 16 * ((d5 + d6) + 16 * ((d6 + d7) + 16 * d7)) = 2 ^ 4 * ((d5 + d6) + 16 * ((d6 + d7) + 16 * d7)) + (d4 + d5) := by omega
  have e5 : (d5 + d6) + 16 * ((d6 + d7) + 16 * d7) = 2 ^ 4 * ((d6 + d7) + 16 * d7) + (d5 + d6) := by omega
  have e6 : (d6 + d7) + 16 * d7 = 2 ^ 4 * d7 + (d6 + d7) := by omega
  rw [e0, show 252645135 = 2 ^ 4 * 15790320 + 15 by rfl, z_andS (by omega) (by decide), z_and15 (by omega)]
  rw [e1, show 15790320 = 2 ^ 4 * 986895 + 0 by rfl, z_andS (by omega) (by decide), Nat.and_zero]
  rw [e2, show 986895 = 2 ^ 4 * 61680 + 15 by rfl, z_andS (by omega) (by decide), z_and15 (by omega)]
  rw [e3, show 61680 = 2 ^ 4 * 3855 + 0 by rfl, z_andS (by omega) (by decide), Nat.and_zero]
  rw [e4, show 3855 = 2 ^ 4 * 240 + 15 by rfl, z_andS (by omega) (by decide), z_and15 (by omega)]
  rw [e5, show 240 = 2 ^ 4 * 15 + 0 by rfl, z_andS (by omega) (by decide), Nat.and_zero]
  rw [e6, show 15 = 2 ^ 4 * 0 + 15 by rfl, z_andS (by omega) (by decide), z_and15 (by omega), Nat.and_zero]
  omega
theorem z_and63 (x : Nat) : x &&& 63 = x % 64 := Nat.and_two_pow_sub_one_eq_mod x 6
theorem zct_bits (m : Nat) : ∀ k, zct (fun i => m / 2 ^ i % 2 = 1) (k + 1) = zct (fun i => m / 2 / 2 ^ i % 2 = 1) k + m % 2 := by
  intro k
  induction k with
  | zero =>
    by_cases q : m % 2 = 1
    · rw [zct_y (by simpa using q)]
      show 0 + 1 = 0 + m % 2
      omega
    · rw [zct_n (by simpa using q)]
      show 0 = 0 + m % 2
      omega
  | succ k ih =>
    have e : m / 2 ^ (k + 1) = m / 2 / 2 ^ k := by rw [Nat.pow_succ, Nat.mul_comm, Nat.div_div_eq_div_mul]
    by_cases q : m / 2 ^ (k + 1) % 2 = 1
    · rw [zct_y (P := fun i => m / 2 ^ i % 2 = 1) q, zct_y (P := fun i => m / 2 / 2 ^ i % 2 = 1) (by rw [← e]; exact q), ih]
      omega
    · rw [zct_n (P := fun i => m / 2 ^ i % 2 = 1) q, zct_n (P := fun i => m / 2 / 2 ^ i % 2 = 1) (by rw [← e]; exact q), ih]
theorem zct_nib (m k : Nat) : zct (fun i => m / 2 ^ i % 2 = 1) (k + 4) = zct (fun i => m / 16 / 2 ^ i % 2 = 1) k + zP4 (m % 16) := by
  rw [zct_bits, zct_bits, zct_bits, zct_bits]
  rw [show m / 2 / 2 / 2 / 2 = m / 16 by omega]
  unfold zP4
  omega
theorem z_fold {A B C D s : Nat} (hA : A ≤ 8) (hB : B ≤ 8) (hC : C ≤ 8) (hD : D ≤ 8) (hs : s = A + 256 * (B + 256 * (C + 256 * D))) : (s + s / 256 + (s + s / 256) / 65536) % 64 = A + B + C + D := by
  have h1 : s / 256 = B + 256 * (C + 256 * D) := by omega
  rw [h1]
  have h2 : s + (B + 256 * (C + 256 * D)) = (A + B + 256 * (B + C)) + 65536 * (C + D + 256 * D) := by omega
  rw [h2]
  have h3 : ((A + B + 256 * (B + C)) + 65536 * (C + D + 256 * D)) / 65536 = C + D + 256 * D := by omega
  rw [h3]
  omega
theorem z_swar {m : Nat} (h : m < 2147483648) : zw5 m &&& 63 = zpc m := by
  have hz2 : zw2 m = zPs 8 m := zw2_s 8 m (by omega)
  have hps : zPs 8 m = zP4 (m % 16) + 16 * (zP4 (m / 16 % 16) + 16 * (zP4 (m / 16 / 16 % 16) + 16 * (zP4 (m / 16 / 16 / 16 % 16) + 16 * (zP4 (m / 16 / 16 / 16 / 16 % 16) + 16 * (zP4 (m / 16 / 16 / 16 / 16 / 16 % 16) + 16 * (zP4 (m / 16 / 16 / 16 / 16 / 16 / 16 % 16) + 16 * zP4 (m / 16 / 16 / 16 / 16 / 16 / 16 / 16 % 16))))))) := by
    simp only [zPs]
    omega
  have hb : ∀ x, zP4 (x % 16) ≤ 4 := fun x => zP4_le _ (Nat.mod_lt _ (by decide))
  have e3 := z_f8 (hb m) (hb _) (hb _) (hb _) (hb _) (hb _) (hb _) (hb _) (hz2.trans hps)
  have e3' : zw3 m = _ := e3
  have hpc : zpc m = zct (fun i => m / 2 ^ i % 2 = 1) 32 := by
    unfold zpc
    rw [zct_n (n := 31) (P := fun i => m / 2 ^ i % 2 = 1)]
    intro q
    have q2 : m / 2147483648 % 2 = 1 := q
    omega
  have k1 : zct (fun i => m / 2 ^ i % 2 = 1) 32 = zct (fun i => m / 16 / 2 ^ i % 2 = 1) 28 + zP4 (m % 16) := zct_nib m 28
  have k2 : zct (fun i => m / 16 / 2 ^ i % 2 = 1) 28 = zct (fun i => m / 16 / 16 / 2 ^ i % 2 = 1) 24 + zP4 (m / 16 % 16) := zct_nib _ 24
  have k3 : zct (fun i => m / 16 / 16 / 2 ^ i % 2 = 1) 24 = zct (fun i => m / 16 / 16 / 16 / 2 ^ i % 2 = 1) 20 + zP4 (m / 16 / 16 % 16) := zct_nib _ 20
  have k4 : zct (fun i => m / 16 / 16 / 16 / 2 ^ i % 2 = 1) 20 = zct (fun i => m / 16 / 16 / 16 / 16 / 2 ^ i % 2 = 1) 16 + zP4 (m / 16 / 16 / 16 % 16) := zct_nib _ 16
  have k5 : zct (fun i => m / 16 / 16 / 16 / 16 / 2 ^ i % 2 = 1) 16 = zct (fun i => m / 16 / 16 / 16 / 16 / 16 / 2 ^ i % 2 = 1) 12 + zP4 (m / 16 / 16 / 16 / 16 % 16) := zct_nib _ 12
  have k6 : zct (fun i => m / 16 / 16 / 16 / 16 / 16 / 2 ^ i % 2 = 1) 12 = zct (fun i => m / 16 / 16 / 16 / 16 / 16 / 16 / 2 ^ i % 2 = 1) 8 + zP4 (m / 16 / 16 / 16 / 16 / 16 % 16) := zct_nib _ 8
  have k7 : zct (fun i => m / 16 / 16 / 16 / 16 / 16 / 16 / 2 ^ i % 2 = 1) 8 = zct (fun i => m / 16 / 16 / 16 / 16 / 16 / 16 / 16 / 2 ^ i % 2 = 1) 4 + zP4 (m / 16 / 16 / 16 / 16 / 16 / 16 % 16) := zct_nib _ 4
  have k8 : zct (fun i => m / 16 / 16 / 16 / 16 / 16 / 16 / 16 / 2 ^ i % 2 = 1) 4 = 0 + zP4 (m / 16 / 16 / 16 / 16 / 16 / 16 / 16 % 16) := zct_nib _ 0
  rw [hpc, k1, k2, k3, k4, k5, k6, k7, k8]
  clear hpc k1 k2 k3 k4 k5 k6 k7 k8 hps hz2 e3
  rw [z_and63]
  unfold zw5 zw4
  have b0 := hb m
  have b1 := hb (m / 16)
  have b2 := hb (m / 16 / 16)
  have b3 := hb (m / 16 / 16 / 16)
  have b4 := hb (m / 16 / 16 / 16 / 16)
  have b5 := hb (m / 16 / 16 / 16 / 16 / 16)
  have b6 := hb (m / 16 / 16 / 16 / 16 / 16 / 16)
  have b7 := hb (m / 16 / 16 / 16 / 16 / 16 / 16 / 16)
  rw [z_fold (by omega) (by omega) (by omega) (by omega) e3']
  omega
theorem zpc_mk {P : Nat → Prop} {n : Nat} (h : n ≤ 31) : zpc (zmk P n) = zct P n := by
  unfold zpc
  have h1 : ∀ k, n + k ≤ 31 → zct (fun i => zmk P n / 2 ^ i % 2 = 1) (n + k) = zct P n := by
    intro k
    induction k with
    | zero => intro _; exact zct_congr n (fun i hi => zmk_bit n i hi)
    | succ k ih =>
      intro hk
      rw [show n + (k + 1) = n + k + 1 by omega, zct_n, ih (by omega)]
      intro q
      have h2 := zmk_lt (P := P) n
      have h3 : zmk P n < 2 ^ (n + k) := Nat.lt_of_lt_of_le h2 (Nat.pow_le_pow_right (by decide) (by omega))
      rw [Nat.div_eq_of_lt h3] at q
      exact absurd q (by decide)
  have := h1 (31 - n) (by omega)
  rwa [show n + (31 - n) = 31 by omega] at this
theorem zpc_0 : zpc 0 = 0 := by
  have := zpc_mk (P := fun _ => False) (n := 0) (by decide)
  exact this

set_option maxRecDepth 100000 in
set_option maxHeartbeats 4000000 in
theorem t_J6_bitCount_0f7a4 {h : zH} {v : Int} {m : Nat} (hv : v = m) (hm : m < 2147483648) : CI yJ6_bitCount_0f7a4 mJ6_bitCount_0f7a4 [vI v] h (fun r h' => h' = h ∧ r = (zpc m : Int)) := by
  refine inS [some (vI v)] mvJ6_bitCount_0f7a4 rfl (Nat.le_of_ble_eq_true rfl) rfl ?_
  subst hv
  have b1 := zw_b1 m
  have b2 := zw_b2 m
  have b3 := zw_b3 m
  have L48 : ∀ (v : Int), (v = (zw5 m : Int)) → WP mJ6_bitCount_0f7a4 (zMQ mJ6_bitCount_0f7a4 (zKI (fun r h' => h' = h ∧ r = (zpc m : Int)))) 48 [some (vI v)] [] zN zGR h := by
    intro v hv
    refine w_iload0 dJ6_bitCount_0f7a4_48 (wp_bipush dJ6_bitCount_0f7a4_49 (by decide) (wp_iand dJ6_bitCount_0f7a4_51 (by rw [hv]; unfold zw5 zw4; omega) (by omega) ?_))
    refine r_i dJ6_bitCount_0f7a4_52 rfl meJ6_bitCount_0f7a4 ?_
    refine ⟨rfl, ?_⟩
    rw [hv, ← z_swar hm]
    rfl
  have L41 : ∀ (v : Int), (v = (zw4 m : Int)) → WP mJ6_bitCount_0f7a4 (zMQ mJ6_bitCount_0f7a4 (zKI (fun r h' => h' = h ∧ r = (zpc m : Int)))) 41 [some (vI v)] [] zN zGR h := by
    intro v hv
    refine w_iload0 dJ6_bitCount_0f7a4_41 (w_iload0 dJ6_bitCount_0f7a4_42 (wp_bipush dJ6_bitCount_0f7a4_43 (by decide) (wp_iushr dJ6_bitCount_0f7a4_45 (by omega) (wp_iadd dJ6_bitCount_0f7a4_46 (w_istore0 dJ6_bitCount_0f7a4_47 (by decide) ?_)))))
    exact L48 _ (by rw [hv, show (((zw4 m : Nat) : Int) % 4294967296 / 2 ^ (16 : Int).toNat) = ((zw4 m / 2 ^ 16 : Nat) : Int) from z_us (by unfold zw4; omega) 16]; rfl)
  have L34 : ∀ (v : Int), (v = (zw3 m : Int)) → WP mJ6_bitCount_0f7a4 (zMQ mJ6_bitCount_0f7a4 (zKI (fun r h' => h' = h ∧ r = (zpc m : Int)))) 34 [some (vI v)] [] zN zGR h := by
    intro v hv
    refine w_iload0 dJ6_bitCount_0f7a4_34 (w_iload0 dJ6_bitCount_0f7a4_35 (wp_bipush dJ6_bitCount_0f7a4_36 (by decide) (wp_iushr dJ6_bitCount_0f7a4_38 (by omega) (wp_iadd dJ6_bitCount_0f7a4_39 (w_istore0 dJ6_bitCount_0f7a4_40 (by decide) ?_)))))
    exact L41 _ (by rw [hv, show (((zw3 m : Nat) : Int) % 4294967296 / 2 ^ (8 : Int).toNat) = ((zw3 m / 2 ^ 8 : Nat) : Int) from z_us (by omega) 8]; rfl)
  have L24 : ∀ (v : Int), (v = (zw2 m : Int)) → WP mJ6_bitCount_0f7a4 (zMQ mJ6_bitCount_0f7a4 (zKI (fun r h' => h' = h ∧ r = (zpc m : Int)))) 24 [some (vI v)] [] zN zGR h := by
    intro v hv
    refine w_iload0 dJ6_bitCount_0f7a4_24 (w_iload0 dJ6_bitCount_0f7a4_25 (wp_iconst dJ6_bitCount_0f7a4_26 ?_))
    skip
    refine wp_iushr dJ6_bitCount_0f7a4_27 (by omega) (wp_iadd dJ6_bitCount_0f7a4_28 (wp_ldcw dJ6_bitCount_0f7a4_29 kc_RJ6_267 (wp_iand dJ6_bitCount_0f7a4_32 (by rw [hv, show (((zw2 m : Nat) : Int) % 4294967296 / 2 ^ (4 : Int).toNat) = ((zw2 m / 2 ^ 4 : Nat) : Int) from z_us (by omega) 4]; omega) (by omega) (w_istore0 dJ6_bitCount_0f7a4_33 (by decide) ?_))))
    exact L34 _ (by rw [hv, show (((zw2 m : Nat) : Int) % 4294967296 / 2 ^ (4 : Int).toNat) = ((zw2 m / 2 ^ 4 : Nat) : Int) from z_us (by omega) 4]; rfl)
  have L10 : ∀ (v : Int), (v = (zw1 m : Int)) → WP mJ6_bitCount_0f7a4 (zMQ mJ6_bitCount_0f7a4 (zKI (fun r h' => h' = h ∧ r = (zpc m : Int)))) 10 [some (vI v)] [] zN zGR h := by
    intro v hv
    refine w_iload0 dJ6_bitCount_0f7a4_10 (wp_ldcw dJ6_bitCount_0f7a4_11 kc_RJ6_266 (wp_iand dJ6_bitCount_0f7a4_14 (by omega) (by omega) (w_iload0 dJ6_bitCount_0f7a4_15 (wp_iconst dJ6_bitCount_0f7a4_16 ?_))))
    rw [hv]
    refine wp_iushr dJ6_bitCount_0f7a4_17 (by omega) (wp_ldcw dJ6_bitCount_0f7a4_18 kc_RJ6_266 (wp_iand dJ6_bitCount_0f7a4_21 (by rw [show (((zw1 m : Nat) : Int) % 4294967296 / 2 ^ (2 : Int).toNat) = ((zw1 m / 2 ^ 2 : Nat) : Int) from z_us (by omega) 2]; omega) (by omega) (wp_iadd dJ6_bitCount_0f7a4_22 (w_istore0 dJ6_bitCount_0f7a4_23 (by decide) ?_))))
    exact L24 _ (by rw [show (((zw1 m : Nat) : Int) % 4294967296 / 2 ^ (2 : Int).toNat) = ((zw1 m / 2 ^ 2 : Nat) : Int) from z_us (by omega) 2]; rfl)
  refine w_iload0 dJ6_bitCount_0f7a4_0 (w_iload0 dJ6_bitCount_0f7a4_1 (wp_iconst dJ6_bitCount_0f7a4_2 ?_))
  skip
  refine wp_iushr dJ6_bitCount_0f7a4_3 (by omega) (wp_ldcw dJ6_bitCount_0f7a4_4 kc_RJ6_265 (wp_iand dJ6_bitCount_0f7a4_7 (by rw [show (((m : Nat) : Int) % 4294967296 / 2 ^ (1 : Int).toNat) = ((m / 2 ^ 1 : Nat) : Int) from z_us (by omega) 1]; omega) (by omega) (wp_isub dJ6_bitCount_0f7a4_8 (w_istore0 dJ6_bitCount_0f7a4_9 (by decide) ?_))))
  exact L10 _ (by rw [show (((m : Nat) : Int) % 4294967296 / 2 ^ (1 : Int).toNat) = ((m / 2 ^ 1 : Nat) : Int) from z_us (by omega) 1]; show (m : Int) - ((m / 2 &&& 1431655765 : Nat) : Int) = _; unfold zw1; have : m / 2 &&& 1431655765 ≤ m := Nat.le_trans Nat.and_le_left (Nat.div_le_self _ _); omega)
set_option maxRecDepth 100000 in
set_option maxHeartbeats 4000000 in
theorem t_X6_forget {h : zH} : CV yX6_forget mX6_forget [vR 141] h (fun h' => h' = zup h 141 4 0) := by
  refine inV [some (vR 141)] mvX6_forget rfl (Nat.le_of_ble_eq_true rfl) rfl ?_
  refine w_aload0 dX6_forget_0 (wp_iconst dX6_forget_1 (wp_puti dX6_forget_2 fl_RX6_26 is_141 rfl ?_))
  refine r_v dX6_forget_5 rfl meX6_forget ?_
  rfl
set_option maxRecDepth 100000 in
set_option maxHeartbeats 4000000 in
theorem t_X6_ordinatesOf {h : zH} {t xx : Int} {x : Nat} (hx : xx = x) {p : Int} {c : Nat → Nat → Int} (hs : zSt p c) (hxp : (x : Int) < p) (hp0 : h 2 0 = p) (hA : ∀ q, q < 3 → ∀ w, w < 9 → h (175 + q) w = zcut p c q w t) : CI yX6_ordinatesOf mX6_ordinatesOf [vR 141, vI xx] h (fun r h' => zFr zFY h h' ∧ r = (zmk (zRt p c t x) p.toNat : Int)) := by
  refine inV [some (vR 141), some (vI xx), none, none, none, none] mvX6_ordinatesOf rfl (Nat.le_of_ble_eq_true rfl) rfl ?_
  have hp := hs.p
  have hpp : 0 < p := by omega
  subst hp0
  subst hx
  generalize hpe : h 2 0 = p at *
  have L88 : ∀ (zm88 : Nat) (y : Nat) (h' : zH) (vs vy : Int), p.toNat - y = zm88 → ((y : Int) ≤ p) → (vy = (y : Int)) → (vs = (zmk (zRt p c t x) y : Int)) → (zFr zFY h h') → (∀ q, q < 3 → ∀ j, j < 3 → h' (179 + q) j = zln p c t x q j) → WP mX6_ordinatesOf (zMQ mX6_ordinatesOf (zKI (fun r h' => zFr zFY h h' ∧ r = (zmk (zRt p c t x) p.toNat : Int)))) 88 [some (vR 141), some (vI (x : Int)), some (vI p), some (vI vs), some (vI vy), none] [] zN zGR h' := by
    intro zm88
    induction zm88 using Nat.strongRecOn with | _ zm88 ih88 => ?_
    intro y h' vs vy hzm88 hy hvy hvs hf hY
    subst hzm88
    have hmk := zmk_lt (P := zRt p c t x) y
    have hrow : ∀ q, q < 3 → ∀ j, j < 3 → 0 ≤ h' (179 + q) j ∧ h' (179 + q) j < p := fun q hq j hj => by rw [hY q hq j hj]; exact zln_in hpp c t x q j
    have hcg : ∀ q, q < 3 → zhor vy p 3 (h' (179 + q)) = zhor (y : Int) p 3 (zln p c t x q) := fun q hq => by rw [hvy]; exact zhor_congr 3 _ _ (fun e he => hY q hq e he)
    refine w_iload4 dX6_ordinatesOf_88 (w_iload2 dX6_ordinatesOf_90 ?_)
    refine wp_icmp_ge 152 dX6_ordinatesOf_91 rfl ⟨by omega, by omega⟩ ⟨by omega, by omega⟩ (fun c91 => ?_) (fun c91 => ?_)
    · skip
      refine w_iload3 dX6_ordinatesOf_152 ?_
      refine r_i dX6_ordinatesOf_153 rfl meX6_ordinatesOf ?_
      refine ⟨hf, ?_⟩
      rw [hvs, show p.toNat = y by omega]
    · skip
      refine w_aload0 dX6_ordinatesOf_94 (wp_getr 178 dX6_ordinatesOf_95 fl_RX6_19 is_141 rfl (wp_iconst dX6_ordinatesOf_98 (x_aald 0 (179 + 0) dX6_ordinatesOf_99 is_178 (Or.inl rfl) rfl (by decide) rfl (w_iload4 dX6_ordinatesOf_100 (w_iload2 dX6_ordinatesOf_102 ?_)))))
      apply s_i3 (M := mX6_ordinatesOf) dX6_ordinatesOf_103 lk_RX6_49 mvX3_horner (by decide) meX6_ordinatesOf (Nat.le_of_ble_eq_true rfl)
      · exact t_X3_horner (z_is179 (k := 0) (by decide)) (by omega) ⟨hpp, hp.2⟩ (hrow 0 (by decide))
      intro x103 h103 hP103
      obtain ⟨eh103, ex103⟩ := hP103
      replace eh103 := eh103.symm
      subst eh103
      replace ex103 := ex103.symm
      subst ex103
      rw [hcg 0 (by decide)]
      have z0 := zhor_in (t := (y : Int)) hpp 3 (zln p c t x 0)
      refine wp_if_ne 146 dX6_ordinatesOf_106 rfl ⟨by omega, by omega⟩ (fun c106 => ?_) (fun c106 => ?_)
      · skip
        refine w_iinc4 dX6_ordinatesOf_146 rfl (by decide) (wp_goto 88 dX6_ordinatesOf_149 rfl ?_)
        first
        | (refine ih88 _ (by omega) (y + 1) _ _ _ rfl (by omega) (by omega) ?_ hf hY
           rw [zmk_n (fun z => by first | exact c106 (z 0 (by decide)) | exact c121 (z 1 (by decide)) | exact c136 (z 2 (by decide)))]
           exact hvs)
        | (refine ih88 _ (by omega) (y + 1) _ _ _ rfl (by omega) (by omega) ?_ hf hY
           rw [hvs, hvy, z_or1, zmk_or, zmk_y (fun k hk => by
             rcases (show k = 0 ∨ k = 1 ∨ k = 2 by omega) with rfl | rfl | rfl
             · exact c106
             · exact c121
             · exact c136)])
      · skip
        refine w_aload0 dX6_ordinatesOf_109 (wp_getr 178 dX6_ordinatesOf_110 fl_RX6_19 is_141 rfl (wp_iconst dX6_ordinatesOf_113 (x_aald 1 (179 + 1) dX6_ordinatesOf_114 is_178 (Or.inl rfl) rfl (by decide) rfl (w_iload4 dX6_ordinatesOf_115 (w_iload2 dX6_ordinatesOf_117 ?_)))))
        apply s_i3 (M := mX6_ordinatesOf) dX6_ordinatesOf_118 lk_RX6_49 mvX3_horner (by decide) meX6_ordinatesOf (Nat.le_of_ble_eq_true rfl)
        · exact t_X3_horner (z_is179 (k := 1) (by decide)) (by omega) ⟨hpp, hp.2⟩ (hrow 1 (by decide))
        intro x118 h118 hP118
        obtain ⟨eh118, ex118⟩ := hP118
        replace eh118 := eh118.symm
        subst eh118
        replace ex118 := ex118.symm
        subst ex118
        rw [hcg 1 (by decide)]
        have z1 := zhor_in (t := (y : Int)) hpp 3 (zln p c t x 1)
        refine wp_if_ne 146 dX6_ordinatesOf_121 rfl ⟨by omega, by omega⟩ (fun c121 => ?_) (fun c121 => ?_)
        · skip
          refine w_iinc4 dX6_ordinatesOf_146 rfl (by decide) (wp_goto 88 dX6_ordinatesOf_149 rfl ?_)
          first
          | (refine ih88 _ (by omega) (y + 1) _ _ _ rfl (by omega) (by omega) ?_ hf hY
             rw [zmk_n (fun z => by first | exact c106 (z 0 (by decide)) | exact c121 (z 1 (by decide)) | exact c136 (z 2 (by decide)))]
             exact hvs)
          | (refine ih88 _ (by omega) (y + 1) _ _ _ rfl (by omega) (by omega) ?_ hf hY
             rw [hvs, hvy, z_or1, zmk_or, zmk_y (fun k hk => by
               rcases (show k = 0 ∨ k = 1 ∨ k = 2 by omega) with rfl | rfl | rfl
               · exact c106
               · exact c121
               · exact c136)])
        · skip
          refine w_aload0 dX6_ordinatesOf_124 (wp_getr 178 dX6_ordinatesOf_125 fl_RX6_19 is_141 rfl (wp_iconst dX6_ordinatesOf_128 (x_aald 2 (179 + 2) dX6_ordinatesOf_129 is_178 (Or.inl rfl) rfl (by decide) rfl (w_iload4 dX6_ordinatesOf_130 (w_iload2 dX6_ordinatesOf_132 ?_)))))
          apply s_i3 (M := mX6_ordinatesOf) dX6_ordinatesOf_133 lk_RX6_49 mvX3_horner (by decide) meX6_ordinatesOf (Nat.le_of_ble_eq_true rfl)
          · exact t_X3_horner (z_is179 (k := 2) (by decide)) (by omega) ⟨hpp, hp.2⟩ (hrow 2 (by decide))
          intro x133 h133 hP133
          obtain ⟨eh133, ex133⟩ := hP133
          replace eh133 := eh133.symm
          subst eh133
          replace ex133 := ex133.symm
          subst ex133
          rw [hcg 2 (by decide)]
          have z2 := zhor_in (t := (y : Int)) hpp 3 (zln p c t x 2)
          refine wp_if_ne 146 dX6_ordinatesOf_136 rfl ⟨by omega, by omega⟩ (fun c136 => ?_) (fun c136 => ?_)
          · skip
            refine w_iinc4 dX6_ordinatesOf_146 rfl (by decide) (wp_goto 88 dX6_ordinatesOf_149 rfl ?_)
            first
            | (refine ih88 _ (by omega) (y + 1) _ _ _ rfl (by omega) (by omega) ?_ hf hY
               rw [zmk_n (fun z => by first | exact c106 (z 0 (by decide)) | exact c121 (z 1 (by decide)) | exact c136 (z 2 (by decide)))]
               exact hvs)
            | (refine ih88 _ (by omega) (y + 1) _ _ _ rfl (by omega) (by omega) ?_ hf hY
               rw [hvs, hvy, z_or1, zmk_or, zmk_y (fun k hk => by
                 rcases (show k = 0 ∨ k = 1 ∨ k = 2 by omega) with rfl | rfl | rfl
                 · exact c106
                 · exact c121
                 · exact c136)])
          · skip
            have hm31 := z_pow31 (n := y) (by omega)
            refine w_iload3 dX6_ordinatesOf_139 (wp_iconst dX6_ordinatesOf_140 (w_iload4 dX6_ordinatesOf_141 (wp_ishl dX6_ordinatesOf_143 (by omega) (wp_ior dX6_ordinatesOf_144 (by omega) (by rw [hvy]; exact z_1s y (by omega)) (w_istore3 dX6_ordinatesOf_145 rfl (by decide) (w_iinc4 dX6_ordinatesOf_146 rfl (by decide) (wp_goto 88 dX6_ordinatesOf_149 rfl ?_)))))))
            first
            | (refine ih88 _ (by omega) (y + 1) _ _ _ rfl (by omega) (by omega) ?_ hf hY
               rw [zmk_n (fun z => by first | exact c106 (z 0 (by decide)) | exact c121 (z 1 (by decide)) | exact c136 (z 2 (by decide)))]
               exact hvs)
            | (refine ih88 _ (by omega) (y + 1) _ _ _ rfl (by omega) (by omega) ?_ hf hY
               rw [hvs, hvy, z_or1, zmk_or, zmk_y (fun k hk => by
                 rcases (show k = 0 ∨ k = 1 ∨ k = 2 by omega) with rfl | rfl | rfl
                 · exact c106
                 · exact c121
                 · exact c136)])
  have L10 : ∀ (zm10 : Nat) (k : Nat) (h' : zH) (vk : Int), 3 - k = zm10 → (k ≤ 3) → (vk = (k : Int)) → (zFr zFY h h') → (∀ q, q < k → ∀ j, j < 3 → h' (179 + q) j = zln p c t x q j) → WP mX6_ordinatesOf (zMQ mX6_ordinatesOf (zKI (fun r h' => zFr zFY h h' ∧ r = (zmk (zRt p c t x) p.toNat : Int)))) 10 [some (vR 141), some (vI (x : Int)), some (vI p), some (vI vk), none, none] [] zN zGR h' := by
    intro zm10
    induction zm10 using Nat.strongRecOn with | _ zm10 ih10 => ?_
    intro k h' vk hzm10 hk hvk hf hY
    subst hzm10
    have L26 : ∀ (zm26 : Nat) (j : Nat) (h2 : zH) (vj : Int), 3 - j = zm26 → (k < 3) → (j ≤ 3) → (vj = (j : Int)) → (zFr zFY h h2) → (∀ q, q < k → ∀ j, j < 3 → h2 (179 + q) j = zln p c t x q j) → (∀ i, i < j → h2 (179 + k) i = zln p c t x k i) → WP mX6_ordinatesOf (zMQ mX6_ordinatesOf (zKI (fun r h' => zFr zFY h h' ∧ r = (zmk (zRt p c t x) p.toNat : Int)))) 26 [some (vR 141), some (vI (x : Int)), some (vI p), some (vI vk), some (vR (175 + k)), some (vI vj)] [] zN zGR h2 := by
      intro zm26
      induction zm26 using Nat.strongRecOn with | _ zm26 ih26 => ?_
      intro j h2 vj hzm26 hk3 hj hvj hf2 hY2 hZ
      subst hzm26
      refine w_iload5 dX6_ordinatesOf_26 (wp_iconst dX6_ordinatesOf_28 ?_)
      refine wp_icmp_ge 77 dX6_ordinatesOf_29 rfl ⟨by omega, by omega⟩ ⟨by omega, by omega⟩ (fun c29 => ?_) (fun c29 => ?_)
      · skip
        refine w_iinc3 dX6_ordinatesOf_77 rfl (by decide) (wp_goto 10 dX6_ordinatesOf_80 rfl ?_)
        refine w_forget4 ?_
        refine w_forget5 ?_
        refine ih10 _ (by omega) (k + 1) _ _ rfl (by omega) (by omega) hf2 (fun q hq j hj => ?_)
        by_cases e : q = k
        · subst e
          exact hZ j (by omega)
        · exact hY2 q (by omega) j hj
      · skip
        refine w_aload0 dX6_ordinatesOf_32 ?_
        have r0 : h2 (175 + k) j = zcut p c k j t := by rw [hf2 _ _ (by unfold zFY; omega)]; exact hA k hk3 j (by omega)
        have r1 : h2 (175 + k) (3 + j) = zcut p c k (3 + j) t := by rw [hf2 _ _ (by unfold zFY; omega)]; exact hA k hk3 _ (by omega)
        have r2 : h2 (175 + k) (6 + j) = zcut p c k (6 + j) t := by rw [hf2 _ _ (by unfold zFY; omega)]; exact hA k hk3 _ (by omega)
        have b0 := zcut_in hs k j t
        have b1 := zcut_in hs k (3 + j) t
        have b2 := zcut_in hs k (6 + j) t
        have b3 := z_mul (a := (x : Int)) ⟨by omega, hxp⟩ b2 hp.2
        have b4 := z_b2 (a := (x : Int)) (b := zcut p c k (3 + j) t + (x : Int) * zcut p c k (6 + j) t) (M := 30) (N := 930) (by omega) (by omega)
        refine wp_getr 178 dX6_ordinatesOf_33 fl_RX6_19 is_141 rfl (w_iload3 dX6_ordinatesOf_36 (x_aald k (179 + k) dX6_ordinatesOf_37 is_178 (Or.inl rfl) hvk (by omega) rfl (w_iload5 dX6_ordinatesOf_38 (w_aload4 dX6_ordinatesOf_40 (w_iload5 dX6_ordinatesOf_42 (x_iald j dX6_ordinatesOf_44 (z_is175 hk3) hvj (by omega) (w_iload1 dX6_ordinatesOf_45 (w_aload4 dX6_ordinatesOf_46 (wp_iconst dX6_ordinatesOf_48 ?_)))))))))
        refine w_iload5 dX6_ordinatesOf_49 (wp_iadd dX6_ordinatesOf_51 (x_iald (3 + j) dX6_ordinatesOf_52 (z_is175 hk3) (by omega) (by omega) (w_iload1 dX6_ordinatesOf_53 (w_aload4 dX6_ordinatesOf_54 (wp_bipush dX6_ordinatesOf_56 (by decide) (w_iload5 dX6_ordinatesOf_58 (wp_iadd dX6_ordinatesOf_60 (x_iald (6 + j) dX6_ordinatesOf_61 (z_is175 hk3) (by omega) (by omega) (wp_imul dX6_ordinatesOf_62 ?_)))))))))
        refine wp_iadd dX6_ordinatesOf_63 (wp_imul dX6_ordinatesOf_64 (wp_iadd dX6_ordinatesOf_65 (w_iload2 dX6_ordinatesOf_66 ?_)))
        rw [r0, r1, r2]
        apply s_i2 (M := mX6_ordinatesOf) dX6_ordinatesOf_67 lk_RX6_43 mvX3_residue (by decide) meX6_ordinatesOf (Nat.le_of_ble_eq_true rfl)
        · exact t_X3_residue ⟨by omega, by omega⟩ (by omega)
        intro x67 h67 hP67
        obtain ⟨eh67, ex67⟩ := hP67
        replace eh67 := eh67.symm
        subst eh67
        replace ex67 := ex67.symm
        subst ex67
        refine x_iast j dX6_ordinatesOf_70 (z_is179 hk3) hvj (by omega) (w_iinc5 dX6_ordinatesOf_71 rfl (by decide) (wp_goto 26 dX6_ordinatesOf_74 rfl ?_))
        refine ih26 _ (by omega) (j + 1) _ _ rfl hk3 (by omega) (by omega) (hf2.up (by unfold zFY; omega)) (fun q hq i hi => ?_) (fun i hi => ?_)
        · rw [zup_o (by omega)]
          exact hY2 q hq i hi
        · by_cases e : i = j
          · subst e
            exact zup_s
          · rw [zup_o (by omega)]
            exact hZ i (by omega)
    refine w_iload3 dX6_ordinatesOf_10 (wp_iconst dX6_ordinatesOf_11 ?_)
    refine wp_icmp_ge 83 dX6_ordinatesOf_12 rfl ⟨by omega, by omega⟩ ⟨by omega, by omega⟩ (fun c12 => ?_) (fun c12 => ?_)
    · skip
      refine wp_iconst dX6_ordinatesOf_83 (w_istore3 dX6_ordinatesOf_84 rfl (by decide) (wp_iconst dX6_ordinatesOf_85 (w_istore4 dX6_ordinatesOf_86 rfl (by decide) ?_)))
      exact L88 _ 0 h' 0 0 rfl (by omega) rfl rfl hf (fun q hq j hj => hY q (by omega) j hj)
    · skip
      refine w_aload0 dX6_ordinatesOf_15 (wp_getr 174 dX6_ordinatesOf_16 fl_RX6_16 is_141 rfl (w_iload3 dX6_ordinatesOf_19 (x_aald k (175 + k) dX6_ordinatesOf_20 is_174 (Or.inl rfl) hvk (by omega) rfl (w_astore4 dX6_ordinatesOf_21 rfl (by decide) (wp_iconst dX6_ordinatesOf_23 (w_istore5 dX6_ordinatesOf_24 rfl (by decide) ?_))))))
      exact L26 _ 0 h' 0 rfl (by omega) (Nat.zero_le _) rfl hf hY (fun i hi => absurd hi (Nat.not_lt_zero i))
  refine w_aload0 dX6_ordinatesOf_0 (wp_getr 2 dX6_ordinatesOf_1 fl_RX6_22 is_141 rfl (wp_geti dX6_ordinatesOf_4 fl_RX6_36 is_2 (w_istore2 dX6_ordinatesOf_7 rfl (by decide) (wp_iconst dX6_ordinatesOf_8 (w_istore3 dX6_ordinatesOf_9 rfl (by decide) ?_)))))
  rw [hpe]
  exact L10 _ 0 h 0 rfl (Nat.zero_le _) rfl zFr.rf (fun q hq => absurd hq (Nat.not_lt_zero q))
set_option maxRecDepth 100000 in
set_option maxHeartbeats 4000000 in
theorem t_X6_search {h : zH} {tt : Int} {t : Nat} (ht : tt = t) {p : Int} {c : Nat → Nat → Int} (hs : zSt p c) (htp : (t : Int) < p) (hP : zPol p c 2 h) (hR : zRo p c h) : CV yX6_search mX6_search [vR 141, vI tt] h (fun h' => zFr zFRo h h' ∧ zRo p c h' ∧ zRoT p c t h') := by
  refine inV [some (vR 141), some (vI tt), none, none] mvX6_search rfl (Nat.le_of_ble_eq_true rfl) rfl ?_
  have hp := hs.p
  have hpp : 0 < p := by omega
  obtain ⟨s, hs1, hs2, hs3⟩ := hR
  subst ht
  have ht31 : t < 31 := by omega
  have L76 : ∀ (zm76 : Nat) (x : Nat) (h' : zH) (vx : Int), 31 - x = zm76 → (x ≤ 31) → (vx = (x : Int)) → (zFr (fun a _ => (175 ≤ a ∧ a ≤ 177) ∨ (179 ≤ a ∧ a ≤ 181) ∨ a = 143 + t) h h') → (∀ q, q < 3 → ∀ w, w < 9 → h' (175 + q) w = zcut p c q w t) → (∀ i, i < x → h' (143 + t) i = if (i : Int) < p then (zmk (zRt p c t i) p.toNat : Int) else 0) → (¬ s / 2 ^ t % 2 = 1) → WP mX6_search (zMQ mX6_search (zKV (fun h' => zFr zFRo h h' ∧ zRo p c h' ∧ zRoT p c t h'))) 76 [some (vR 141), some (vI (t : Int)), some (vR (143 + t)), some (vI vx)] [] zN zGR h' := by
    intro zm76
    induction zm76 using Nat.strongRecOn with | _ zm76 ih76 => ?_
    intro x h' vx hzm76 hx hvx hf hA hM hbit
    subst hzm76
    have hp2 : h' 2 0 = p := by rw [hf _ _ (by omega)]; exact hP.1
    have L104 : ∀ (h2 : zH) (v : Int), (x < 31) → (zFr (fun a _ => (175 ≤ a ∧ a ≤ 177) ∨ (179 ≤ a ∧ a ≤ 181) ∨ a = 143 + t) h h2) → (∀ q, q < 3 → ∀ w, w < 9 → h2 (175 + q) w = zcut p c q w t) → (∀ i, i < x → h2 (143 + t) i = if (i : Int) < p then (zmk (zRt p c t i) p.toNat : Int) else 0) → (v = if (x : Int) < p then (zmk (zRt p c t x) p.toNat : Int) else 0) → WP mX6_search (zMQ mX6_search (zKV (fun h' => zFr zFRo h h' ∧ zRo p c h' ∧ zRoT p c t h'))) 104 [some (vR 141), some (vI (t : Int)), some (vR (143 + t)), some (vI vx)] [vI v, vI vx, vR (143 + t)] zN zGR h2 := by
      intro h2 v hx31 hf2 hA2 hM2 hv
      refine x_iast x dX6_search_104 (z_is143 ht31) hvx (by omega) ?_
      have hnext := ih76 (31 - (x + 1)) (by omega) (x + 1) (zup h2 (143 + t) x v) (vx + 1) rfl (by omega) (by omega) (hf2.up (by omega)) (fun q hq w hw => by rw [zup_o (by omega)]; exact hA2 q hq w hw) (fun i hi => by
        by_cases e : i = x
        · subst e
          rw [zup_s]
          exact hv
        · rw [zup_o (by omega)]
          exact hM2 i (by omega)) hbit
      refine w_iinc3 dX6_search_105 rfl (by decide) (wp_goto 76 dX6_search_108 rfl ?_)
      exact hnext
    refine w_iload3 dX6_search_76 (w_aload2 dX6_search_77 (wp_alen dX6_search_78 (z_is143 ht31) (by decide) ?_))
    refine wp_icmp_ge 111 dX6_search_79 rfl ⟨by omega, by omega⟩ ⟨by omega, by omega⟩ (fun c79 => ?_) (fun c79 => ?_)
    · skip
      refine w_aload0 dX6_search_111 (wp_dup dX6_search_112 rfl (wp_geti dX6_search_113 fl_RX6_26 is_141 (wp_iconst dX6_search_116 ?_)))
      have h141 : h' 141 4 = (s : Int) := by rw [hf _ _ (by omega)]; exact hs1
      rw [h141]
      refine w_iload1 dX6_search_117 (wp_ishl dX6_search_118 (by omega) (wp_ior dX6_search_119 (by omega) (z_1s t ht31) (wp_puti dX6_search_120 fl_RX6_26 is_141 rfl ?_)))
      refine r_v dX6_search_123 rfl meX6_search ?_
      have hx31 : x = 31 := by omega
      have hTt : zRoT p c t (zup h' 141 4 (((s : Int).toNat ||| ((1 : Int) * 2 ^ (t : Int).toNat).toNat : Nat) : Int)) := fun i hi => by
        rw [zup_o (by omega)]
        exact hM i (by omega)
      refine ⟨(hf.mono (fun a j q => by unfold zFRo; omega)).up (by unfold zFRo; omega), ⟨s ||| 2 ^ t, by rw [zup_s, z_or1], Nat.or_lt_two_pow (n := 31) hs2 (Nat.pow_lt_pow_right (by decide) ht31), fun t' ht' hb' => ?_⟩, hTt⟩
      by_cases e : t' = t
      · subst e
        exact hTt
      · rcases (z_orb s t t').mp hb' with q | q
        · intro i hi
          rw [zup_o (by omega), hf _ _ (by omega)]
          exact hs3 t' ht' q i hi
        · exact absurd q.symm e
    · skip
      refine w_aload2 dX6_search_82 (w_iload3 dX6_search_83 (w_iload3 dX6_search_84 (w_aload0 dX6_search_85 (wp_getr 2 dX6_search_86 fl_RX6_22 is_141 rfl (wp_geti dX6_search_89 fl_RX6_36 is_2 ?_)))))
      rw [hp2]
      refine wp_icmp_ge 103 dX6_search_92 rfl ⟨by omega, by omega⟩ ⟨by omega, by omega⟩ (fun c92 => ?_) (fun c92 => ?_)
      · skip
        refine wp_iconst dX6_search_103 ?_
        first
        | (refine L104 h97 _ (by omega) (hf.tr (hP97.1.mono (fun a j q => Or.inr (Or.inl q)))) (fun q hq w hw => ?_) (fun i hi => ?_) ?_
           · rw [hP97.1 _ _ (by unfold zFY; omega)]
             exact hA q hq w hw
           · rw [hP97.1 _ _ (by unfold zFY; omega)]
             exact hM i hi
           · rw [if_pos (by omega)]
             exact hP97.2)
        | (refine L104 h' _ (by omega) hf hA hM ?_
           rw [if_neg (by omega)])
      · skip
        refine w_aload0 dX6_search_95 (w_iload3 dX6_search_96 ?_)
        apply v_i1 (M := mX6_search) dX6_search_97 lk_RX6_39 mvX6_ordinatesOf (by decide) meX6_search is_141 (Nat.le_of_ble_eq_true rfl)
        · exact t_X6_ordinatesOf hvx hs (by omega) hp2 hA
        intro x97 h97 hP97
        skip
        refine wp_goto 104 dX6_search_100 rfl ?_
        first
        | (refine L104 h97 _ (by omega) (hf.tr (hP97.1.mono (fun a j q => Or.inr (Or.inl q)))) (fun q hq w hw => ?_) (fun i hi => ?_) ?_
           · rw [hP97.1 _ _ (by unfold zFY; omega)]
             exact hA q hq w hw
           · rw [hP97.1 _ _ (by unfold zFY; omega)]
             exact hM i hi
           · rw [if_pos (by omega)]
             exact hP97.2)
        | (refine L104 h' _ (by omega) hf hA hM ?_
           rw [if_neg (by omega)])
  have L24 : ∀ (zm24 : Nat) (k : Nat) (h' : zH) (vk : Int), 3 - k = zm24 → (k ≤ 3) → (vk = (k : Int)) → (zFr (fun a _ => 175 ≤ a ∧ a ≤ 177) h h') → (∀ q, q < k → ∀ w, w < 9 → h' (175 + q) w = zcut p c q w t) → (¬ s / 2 ^ t % 2 = 1) → WP mX6_search (zMQ mX6_search (zKV (fun h' => zFr zFRo h h' ∧ zRo p c h' ∧ zRoT p c t h'))) 24 [some (vR 141), some (vI (t : Int)), some (vI vk), none] [] zN zGR h' := by
    intro zm24
    induction zm24 using Nat.strongRecOn with | _ zm24 ih24 => ?_
    intro k h' vk hzm24 hk hvk hf hA hbit
    subst hzm24
    have L31 : ∀ (zm31 : Nat) (w : Nat) (h2 : zH) (vw : Int), 9 - w = zm31 → (k < 3) → (w ≤ 9) → (vw = (w : Int)) → (zFr (fun a _ => 175 ≤ a ∧ a ≤ 177) h h2) → (∀ q, q < k → ∀ w, w < 9 → h2 (175 + q) w = zcut p c q w t) → (∀ i, i < w → h2 (175 + k) i = zcut p c k i t) → WP mX6_search (zMQ mX6_search (zKV (fun h' => zFr zFRo h h' ∧ zRo p c h' ∧ zRoT p c t h'))) 31 [some (vR 141), some (vI (t : Int)), some (vI vk), some (vI vw)] [] zN zGR h2 := by
      intro zm31
      induction zm31 using Nat.strongRecOn with | _ zm31 ih31 => ?_
      intro w h2 vw hzm31 hk3 hw hvw hf2 hA2 hZ
      subst hzm31
      refine w_iload3 dX6_search_31 (wp_bipush dX6_search_32 (by decide) ?_)
      refine wp_icmp_ge 61 dX6_search_34 rfl ⟨by omega, by omega⟩ ⟨by omega, by omega⟩ (fun c34 => ?_) (fun c34 => ?_)
      · skip
        refine w_iinc2 dX6_search_61 rfl (by decide) (wp_goto 24 dX6_search_64 rfl ?_)
        refine w_forget3 ?_
        refine ih24 _ (by omega) (k + 1) _ _ rfl (by omega) (by omega) hf2 (fun q hq w hw => ?_) hbit
        by_cases e : q = k
        · subst e
          exact hZ w (by omega)
        · exact hA2 q (by omega) w hw
      · skip
        refine w_aload0 dX6_search_37 (wp_getr 174 dX6_search_38 fl_RX6_16 is_141 rfl (w_iload2 dX6_search_41 (x_aald k (175 + k) dX6_search_42 is_174 (Or.inl rfl) hvk (by omega) rfl (w_iload3 dX6_search_43 (w_aload0 dX6_search_44 (wp_getr 2 dX6_search_45 fl_RX6_22 is_141 rfl (w_iload2 dX6_search_48 (w_iload3 dX6_search_49 (w_iload1 dX6_search_50 ?_)))))))))
        apply v_i3 (M := mX6_search) dX6_search_51 lk_RX6_30 mvX4_factorAt (by decide) meX6_search is_2 (Nat.le_of_ble_eq_true rfl)
        · exact t_X4_factorAt zPo_2 hvk hk3 hvw (by omega) hs (zPol_fr hP hf2 (fun j => by omega)) ⟨by omega, htp⟩
        intro x51 h51 hP51
        obtain ⟨eh51, ex51⟩ := hP51
        replace eh51 := eh51.symm
        subst eh51
        replace ex51 := ex51.symm
        subst ex51
        refine x_iast w dX6_search_54 (z_is175 hk3) hvw (by omega) (w_iinc3 dX6_search_55 rfl (by decide) (wp_goto 31 dX6_search_58 rfl ?_))
        refine ih31 _ (by omega) (w + 1) _ _ rfl hk3 (by omega) (by omega) (hf2.up (by omega)) (fun q hq i hi => ?_) (fun i hi => ?_)
        · rw [zup_o (by omega)]
          exact hA2 q hq i hi
        · by_cases e : i = w
          · subst e
            exact zup_s
          · rw [zup_o (by omega)]
            exact hZ i (by omega)
    refine w_iload2 dX6_search_24 (wp_iconst dX6_search_25 ?_)
    refine wp_icmp_ge 67 dX6_search_26 rfl ⟨by omega, by omega⟩ ⟨by omega, by omega⟩ (fun c26 => ?_) (fun c26 => ?_)
    · skip
      refine w_aload0 dX6_search_67 (wp_getr 142 dX6_search_68 fl_RX6_11 is_141 rfl (w_iload1 dX6_search_71 (x_aald t (143 + t) dX6_search_72 is_142 (Or.inl rfl) rfl ht31 rfl (w_astore2 dX6_search_73 rfl (by decide) (wp_iconst dX6_search_74 (w_istore3 dX6_search_75 rfl (by decide) ?_))))))
      exact L76 _ 0 h' 0 rfl (Nat.zero_le _) rfl (hf.mono (fun a j q => Or.inl q)) (fun q hq w hw => hA q (by omega) w hw) (fun i hi => absurd hi (Nat.not_lt_zero i)) hbit
    · skip
      refine wp_iconst dX6_search_29 (w_istore3 dX6_search_30 rfl (by decide) ?_)
      exact L31 _ 0 h' 0 rfl (by omega) (Nat.zero_le _) rfl hf hA (fun i hi => absurd hi (Nat.not_lt_zero i))
  refine w_iload1 dX6_search_0 ?_
  refine wp_if_lt 21 dX6_search_1 rfl ⟨by omega, by omega⟩ (fun c1 => absurd c1 (by omega)) (fun c1 => ?_)
  refine w_iload1 dX6_search_4 (wp_bipush dX6_search_5 (by decide) ?_)
  refine wp_icmp_ge 21 dX6_search_7 rfl ⟨by omega, by omega⟩ ⟨by omega, by omega⟩ (fun c7 => absurd c7 (by omega)) (fun c7 => ?_)
  refine w_aload0 dX6_search_10 (wp_geti dX6_search_11 fl_RX6_26 is_141 (w_iload1 dX6_search_14 ?_))
  rw [hs1]
  refine wp_ishr dX6_search_15 ⟨by omega, by omega⟩ (by omega) (wp_iconst dX6_search_16 (wp_iand dX6_search_17 (z_sh t hs2) (by omega) ?_))
  rw [z_bt]
  refine wp_if_eq 22 dX6_search_18 rfl ⟨by omega, by omega⟩ (fun c18 => ?_) (fun c18 => ?_)
  · skip
    refine wp_iconst dX6_search_22 (w_istore2 dX6_search_23 rfl (by decide) ?_)
    refine L24 _ 0 h 0 rfl (Nat.zero_le _) rfl zFr.rf (fun q hq => absurd hq (Nat.not_lt_zero q)) (by omega)
  · skip
    refine r_v dX6_search_21 rfl meX6_search ?_
    refine ⟨zFr.rf, ⟨s, hs1, hs2, hs3⟩, hs3 t htp (by omega)⟩
