/-! ===== exterior products over 8 places, their contraction ===== -/
def zWr (r W : Nat → Int) (s : Nat) : Int := zsi (fun c => if s / 2 ^ c % 2 = 1 then zsgn s c * r c * W (s ^^^ 2 ^ c) else 0) 8
def zWi (x W : Nat → Int) (s : Nat) : Int := zsi (fun d => if s / 2 ^ d % 2 = 1 then 0 else zsgn (s ^^^ 2 ^ d) d * x d * W (s ^^^ 2 ^ d)) 8
def zwe (A : Nat → Nat → Int) : Nat → Nat → Int
  | 0 => fun s => if s = 0 then 1 else 0
  | k + 1 => zWr (A k) (zwe A k)
theorem zx_b : ∀ s, s < 256 → ∀ d, d < 8 → s ^^^ 2 ^ d < 256 ∧ (s ^^^ 2 ^ d) / 2 ^ d % 2 = 1 - s / 2 ^ d % 2 ∧ (s / 2 ^ d % 2 ≠ 1 → s ^^^ 2 ^ d ≠ 0) := by decide +kernel
theorem zx_o : ∀ s, s < 256 → ∀ d, d < 8 → ∀ c, c < 8 → c ≠ d → (s ^^^ 2 ^ d) / 2 ^ c % 2 = s / 2 ^ c % 2 := by decide +kernel
theorem zx_s : ∀ s, s < 256 → ∀ d, d < 8 → s / 2 ^ d % 2 ≠ 1 → ∀ c, c < 8 → s / 2 ^ c % 2 = 1 → zsgn (s ^^^ 2 ^ d) d * zsgn (s ^^^ 2 ^ d) c + zsgn s c * zsgn (s ^^^ 2 ^ c ^^^ 2 ^ d) d = 0 := by decide +kernel
theorem zx_c (s c d : Nat) : s ^^^ 2 ^ d ^^^ 2 ^ c = s ^^^ 2 ^ c ^^^ 2 ^ d := by rw [Nat.xor_assoc, Nat.xor_comm (2 ^ d), ← Nat.xor_assoc]
theorem zx_i (s d : Nat) : s ^^^ 2 ^ d ^^^ 2 ^ d = s := by rw [Nat.xor_assoc, Nat.xor_self, Nat.xor_zero]
theorem zsgn_2 (s c : Nat) : zsgn s c * zsgn s c = 1 := by
  rcases zsgn_or s c with h | h <;> rw [h] <;> rfl
theorem z_itm {P : Prop} [Decidable P] {a b : Int} : a * (if P then b else 0) = if P then a * b else 0 := by
  split
  · rfl
  · exact Int.mul_zero a
theorem z_itm0 {P : Prop} [Decidable P] {a b : Int} : a * (if P then 0 else b) = if P then 0 else a * b := by
  split
  · exact Int.mul_zero a
  · rfl
theorem zcliff {x r W : Nat → Int} {s : Nat} (hs : s < 256) : zWi x (zWr r W) s + zWr r (zWi x W) s = zdt 8 x r * W s := by
  have h1 : zWi x (zWr r W) s = zsi (fun d => zsi (fun c => if s / 2 ^ d % 2 = 1 then 0 else if (s ^^^ 2 ^ d) / 2 ^ c % 2 = 1 then zsgn (s ^^^ 2 ^ d) d * x d * (zsgn (s ^^^ 2 ^ d) c * r c * W (s ^^^ 2 ^ d ^^^ 2 ^ c)) else 0) 8) 8 := by
    unfold zWi
    refine zsi_congr 8 (fun d hd => ?_)
    by_cases b : s / 2 ^ d % 2 = 1
    · rw [if_pos b]
      exact (zsi_z 8 (fun c _ => if_pos b)).symm
    · rw [if_neg b]
      unfold zWr
      rw [← zsi_ml]
      refine zsi_congr 8 (fun c hc => ?_)
      rw [if_neg b, z_itm]
  have h2 : zWr r (zWi x W) s = zsi (fun d => zsi (fun c => if s / 2 ^ c % 2 = 1 then (if (s ^^^ 2 ^ c) / 2 ^ d % 2 = 1 then 0 else zsgn s c * r c * (zsgn (s ^^^ 2 ^ c ^^^ 2 ^ d) d * x d * W (s ^^^ 2 ^ c ^^^ 2 ^ d))) else 0) 8) 8 := by
    rw [← zsi_sw]
    unfold zWr
    refine zsi_congr 8 (fun c hc => ?_)
    by_cases b : s / 2 ^ c % 2 = 1
    · rw [if_pos b]
      unfold zWi
      rw [← zsi_ml]
      refine zsi_congr 8 (fun d hd => ?_)
      rw [if_pos b, z_itm0]
    · rw [if_neg b]
      exact (zsi_z 8 (fun d _ => if_neg b)).symm
  rw [h1, h2, ← zsi_ad]
  have h3 : zdt 8 x r * W s = zsi (fun d => x d * r d * W s) 8 := by
    unfold zdt
    rw [Int.mul_comm, ← zsi_ml]
    exact zsi_congr 8 (fun d _ => Int.mul_comm _ _)
  rw [h3]
  refine zsi_congr 8 (fun d hd => ?_)
  rw [← zsi_ad]
  have hb := zx_b s hs d hd
  rw [zsi_o (k := d) 8 hd (fun c hc hcd => ?_)]
  · by_cases b : s / 2 ^ d % 2 = 1
    · rw [if_pos b, if_pos b, if_neg (by omega), zx_i]
      have e := zsgn_2 s d
      have : zsgn s d * r d * (zsgn s d * x d * W s) = (zsgn s d * zsgn s d) * (x d * r d * W s) := by grind
      rw [this, e, Int.one_mul, Int.zero_add]
    · rw [if_neg b, if_neg b, if_pos (by omega), zx_i]
      have e := zsgn_2 (s ^^^ 2 ^ d) d
      have : zsgn (s ^^^ 2 ^ d) d * x d * (zsgn (s ^^^ 2 ^ d) d * r d * W s) = (zsgn (s ^^^ 2 ^ d) d * zsgn (s ^^^ 2 ^ d) d) * (x d * r d * W s) := by grind
      rw [this, e, Int.one_mul, Int.add_zero]
  · have o1 := zx_o s hs d hd c hc hcd
    have o2 := zx_o s hs c hc d hd (fun e => hcd e.symm)
    by_cases b : s / 2 ^ d % 2 = 1
    · rw [if_pos b]
      by_cases b2 : s / 2 ^ c % 2 = 1
      · rw [if_pos b2, if_pos (by omega)]; rfl
      · rw [if_neg b2]; rfl
    · rw [if_neg b]
      by_cases b2 : s / 2 ^ c % 2 = 1
      · rw [if_pos b2, if_pos (by omega), if_neg (by omega), zx_c]
        have e := zx_s s hs d hd b c hc b2
        have : zsgn (s ^^^ 2 ^ d) d * x d * (zsgn (s ^^^ 2 ^ d) c * r c * W (s ^^^ 2 ^ c ^^^ 2 ^ d)) + zsgn s c * r c * (zsgn (s ^^^ 2 ^ c ^^^ 2 ^ d) d * x d * W (s ^^^ 2 ^ c ^^^ 2 ^ d)) = (zsgn (s ^^^ 2 ^ d) d * zsgn (s ^^^ 2 ^ d) c + zsgn s c * zsgn (s ^^^ 2 ^ c ^^^ 2 ^ d) d) * (x d * r c * W (s ^^^ 2 ^ c ^^^ 2 ^ d)) := by grind
        rw [this, e, Int.zero_mul]
      · rw [if_neg b2, if_neg (by omega)]; rfl
theorem zWr_cg {p : Int} {r W : Nat → Int} {s : Nat} (hs : s < 256) (h : ∀ s, s < 256 → zcg p (W s) 0) : zcg p (zWr r W s) 0 := zsi_cz 8 (fun c hc => by
  split
  · exact (zcg.rf.ml (h _ (zx_b s hs c hc).1)).tr (zcg.of (Int.mul_zero _))
  · exact zcg.rf)
theorem zWi_cg {p : Int} {x W : Nat → Int} {s : Nat} (hs : s < 256) (h : ∀ s, s < 256 → zcg p (W s) 0) : zcg p (zWi x W s) 0 := zsi_cz 8 (fun c hc => by
  split
  · exact zcg.rf
  · exact (zcg.rf.ml (h _ (zx_b s hs c hc).1)).tr (zcg.of (Int.mul_zero _)))
theorem zwi0 {p : Int} {x : Nat → Int} {A : Nat → Nat → Int} : ∀ k, (∀ i, i < k → zcg p (zdt 8 x (A i)) 0) → ∀ s, s < 256 → zcg p (zWi x (zwe A k) s) 0 := by
  intro k
  induction k with
  | zero =>
    intro _ s hs
    refine zcg.of (zsi_z 8 (fun d hd => ?_))
    split
    · rfl
    · next b =>
      show zsgn (s ^^^ 2 ^ d) d * x d * (if s ^^^ 2 ^ d = 0 then 1 else 0) = 0
      rw [if_neg ((zx_b s hs d hd).2.2 b), Int.mul_zero]
  | succ k ih =>
    intro h s hs
    have e := zcliff (x := x) (r := A k) (W := zwe A k) hs
    have h1 := zWr_cg (r := A k) hs (ih (fun i hi => h i (by omega)))
    obtain ⟨a, ha⟩ := h1
    obtain ⟨b, hb⟩ := h k (by omega)
    show zcg p (zWi x (zWr (A k) (zwe A k)) s) 0
    rw [hb] at e
    exact ⟨b * zwe A k s - a, by grind⟩
theorem zwe_nz {p : Int} (hp : zPr p) {A : Nat → Nat → Int} : ∀ k, (∀ j, j < k → ∃ x, (∀ i, i < j → zcg p (zdt 8 x (A i)) 0) ∧ zcg p (zdt 8 x (A j)) 1) → ∃ s, s < 256 ∧ ¬ zcg p (zwe A k s) 0 := by
  intro k
  induction k with
  | zero => exact fun _ => ⟨0, by decide, zun_1 hp⟩
  | succ k ih =>
    intro h
    obtain ⟨s, hs, hn⟩ := ih (fun j hj => h j (by omega))
    obtain ⟨x, h1, h2⟩ := h k (by omega)
    refine Classical.byContradiction (fun q => hn ?_)
    have hz : ∀ s, s < 256 → zcg p (zwe A (k + 1) s) 0 := fun s hs => Classical.byContradiction (fun w => q ⟨s, hs, w⟩)
    have e := zcliff (x := x) (r := A k) (W := zwe A k) hs
    obtain ⟨a, ha⟩ := zWr_cg (r := A k) hs (zwi0 (x := x) (A := A) k h1)
    obtain ⟨b, hb⟩ := zWi_cg (x := x) hs hz
    obtain ⟨d, hd⟩ := h2
    have hb' : zWi x (zWr (A k) (zwe A k)) s = 0 + p * b := hb
    exact ⟨a + b - d * zwe A k s, by grind⟩
theorem zsi_nz {f : Nat → Int} {n : Nat} (h : zsi f n ≠ 0) : ∃ i, i < n ∧ f i ≠ 0 := Classical.byContradiction (fun q => h (zsi_z n (fun i hi => Classical.byContradiction (fun w => q ⟨i, hi, w⟩))))
theorem zb8_l : ∀ m, m < 9 → ∀ s, s < 256 → (∀ c, c < 8 → m ≤ c → s / 2 ^ c % 2 ≠ 1) → s < 2 ^ m := by decide +kernel
theorem zb8_e : ∀ m, m < 9 → ∀ s, s < 256 → s < 2 ^ m → zb8 s = m → s = 2 ^ m - 1 := by decide +kernel
theorem zwe_sup {A : Nat → Nat → Int} {m : Nat} : ∀ k, (∀ j c, j < k → m ≤ c → A j c = 0) → ∀ s, s < 256 → zwe A k s ≠ 0 → zb8 s = k ∧ ∀ c, c < 8 → m ≤ c → s / 2 ^ c % 2 ≠ 1 := by
  intro k
  induction k with
  | zero =>
    intro _ s hs h
    have e : s = 0 := Classical.byContradiction (fun q => h (if_neg q))
    subst e
    exact ⟨by decide, fun c _ _ => by rw [Nat.zero_div]; decide⟩
  | succ k ih =>
    intro hA s hs h
    obtain ⟨c, hc, h1⟩ := zsi_nz h
    try dsimp only at h1
    by_cases b : s / 2 ^ c % 2 = 1
    · rw [if_pos b] at h1
      have hx := zx_b s hs c hc
      have hw : zwe A k (s ^^^ 2 ^ c) ≠ 0 := fun q => h1 (by rw [q, Int.mul_zero])
      have ha : A k c ≠ 0 := fun q => h1 (by rw [q, Int.mul_zero, Int.zero_mul])
      have hcm : c < m := Classical.byContradiction (fun q => ha (hA k c (by omega) (by omega)))
      obtain ⟨i1, i2⟩ := ih (fun j c hj => hA j c (by omega)) _ hx.1 hw
      refine ⟨by rw [← (zb8_x s hs c hc b).2.1, i1], fun d hd hmd => ?_⟩
      rw [← zx_o s hs c hc d hd (by omega)]
      exact i2 d hd hmd
    · rw [if_neg b] at h1
      exact absurd rfl h1
/-- rows independent in their order, columns that span: as many columns at least; if as many, their minor is not 0 -/
theorem zRnk {p : Int} (hp : zPr p) {s k m : Nat} {M : Nat → Nat → Int} {ρ γ : Nat → Nat} (hm : m ≤ 8) (hρ : ∀ j, j < k → ∃ x, (∀ i, i < j → zcg p (zdt s x (M (ρ i))) 0) ∧ zcg p (zdt s x (M (ρ j))) 1) (hγ : ∀ q, q < s → ∃ β : Nat → Int, ∀ j, j < k → zcg p (M (ρ j) q) (zsi (fun c => β c * M (ρ j) (γ c)) m)) : k ≤ m ∧ (k = m → ¬ zcg p (zwe (fun j c => if c < m then M (ρ j) (γ c) else 0) m (2 ^ m - 1)) 0) := by
  obtain ⟨β, hβ⟩ : ∃ β : Nat → Nat → Int, ∀ q, q < s → ∀ j, j < k → zcg p (M (ρ j) q) (zsi (fun c => β q c * M (ρ j) (γ c)) m) :=
    ⟨fun q c => if h : q < s then Classical.choose (hγ q h) c else 0, fun q hq j hj => by
      have := Classical.choose_spec (hγ q hq) j hj
      simp only [dif_pos hq]
      exact this⟩
  have hdot : ∀ (x : Nat → Int) j, j < k → zcg p (zdt 8 (fun c => zsi (fun q => x q * β q c) s) (fun c => if c < m then M (ρ j) (γ c) else 0)) (zdt s x (M (ρ j))) := by
    intro x j hj
    have e1 : zdt 8 (fun c => zsi (fun q => x q * β q c) s) (fun c => if c < m then M (ρ j) (γ c) else 0) = zsi (fun c => zsi (fun q => x q * (β q c * M (ρ j) (γ c))) s) m := by
      unfold zdt
      rw [zsi_out (n := m) 8 hm (fun c h1 h2 => by dsimp only; rw [if_neg (by omega), Int.mul_zero])]
      refine zsi_congr m (fun c hc => ?_)
      dsimp only
      rw [if_pos hc, Int.mul_comm, ← zsi_ml]
      exact zsi_congr s (fun q _ => by grind)
    rw [e1, zsi_sw]
    refine zcg.si s (fun q hq => ?_)
    rw [zsi_ml]
    exact zcg.rf.ml (hβ q hq j hj).sy
  obtain ⟨t, ht, hn⟩ := zwe_nz hp (A := fun j c => if c < m then M (ρ j) (γ c) else 0) k (fun j hj => by
    obtain ⟨x, h1, h2⟩ := hρ j hj
    exact ⟨_, fun i hi => (hdot x i (by omega)).tr (h1 i hi), (hdot x j hj).tr h2⟩)
  obtain ⟨u1, u2⟩ := zwe_sup (m := m) k (fun j c _ hc => if_neg (by omega)) t ht (fun q => hn (zcg.of q))
  have u3 := zb8_l m (by omega) t ht u2
  have u4 := zb8_o m (by omega) t ht u3
  refine ⟨by omega, fun e => ?_⟩
  subst e
  rw [← zb8_e k (by omega) t ht u3 u1]
  exact hn
