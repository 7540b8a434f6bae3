
theorem zfa_sk {tx : Nat → Int} {L f u pl i : Nat} (hi : i ≤ L) : zfa tx L (f + 1) u pl (zsk tx L i) = zfa tx L (f + 1) u pl i := by
  rw [zfa_succ, zfa_succ, zsk_sk hi]
/-- whether two readings of factors end alike, but for spaces -/
def zae (tx : Nat → Int) (L : Nat) (a b : Nat × Nat × Nat) : Prop := a.1 = b.1 ∧ a.2.1 = b.2.1 ∧ zsk tx L a.2.2 = zsk tx L b.2.2
theorem zfa_ae {tx : Nat → Int} {L f u pl i : Nat} (hi : i ≤ L) : zae tx L (zfa tx L f u pl (zsk tx L i)) (zfa tx L f u pl i) := by
  cases f with
  | zero => exact ⟨rfl, rfl, zsk_sk hi⟩
  | succ f => rw [zfa_sk hi]; exact ⟨rfl, rfl, rfl⟩
theorem zfa_stop {tx : Nat → Int} {L f u pl i : Nat} (hi : zsk tx L i = i) (h : zlet (zpeek tx L i) < 0 ∨ u / 2 ^ (zlet (zpeek tx L i)).toNat % 2 = 1) : zfa tx L f u pl i = (u, pl, i) := by
  cases f with
  | zero => rfl
  | succ f => rw [zfa_succ, hi, if_pos h]
theorem zfa_go {tx : Nat → Int} {L f u pl i : Nat} (hi : zsk tx L i = i) (h : ¬ (zlet (zpeek tx L i) < 0 ∨ u / 2 ^ (zlet (zpeek tx L i)).toNat % 2 = 1)) : zfa tx L (f + 1) u pl i = zfa tx L f (u ||| 2 ^ (zlet (zpeek tx L i)).toNat) (pl + zwt (zlet (zpeek tx L i)).toNat * zexv tx L (i + 1)) (zexq tx L (i + 1)) := by
  rw [zfa_succ, hi, if_neg h]
theorem zor0 : ∀ u, u < 8 → u % 2 = 0 → (u ||| 2 ^ 0) < 8 ∧ (u ||| 2 ^ 0) % 2 = 1 ∧ (u ||| 2 ^ 0) / 2 % 2 = u / 2 % 2 ∧ (u ||| 2 ^ 0) / 4 % 2 = u / 4 % 2 := by decide +kernel
theorem zor1 : ∀ u, u < 8 → u / 2 % 2 = 0 → (u ||| 2 ^ 1) < 8 ∧ (u ||| 2 ^ 1) % 2 = u % 2 ∧ (u ||| 2 ^ 1) / 2 % 2 = 1 ∧ (u ||| 2 ^ 1) / 4 % 2 = u / 4 % 2 := by decide +kernel
theorem zor2 : ∀ u, u < 8 → u / 4 % 2 = 0 → (u ||| 2 ^ 2) < 8 ∧ (u ||| 2 ^ 2) % 2 = u % 2 ∧ (u ||| 2 ^ 2) / 2 % 2 = u / 2 % 2 ∧ (u ||| 2 ^ 2) / 4 % 2 = 1 := by decide +kernel
/-- what the model keeps of an exponent -/
def zco (b : Nat) (x : Int) : Prop := (b = 1 → 0 ≤ x ∧ x ≤ 2) ∧ (b = 0 → x = -9)
def zps0 (x : Int) : Int := if x = -9 then 0 else x
theorem zps0_in {b : Nat} {x : Int} (hb : b < 2) (h : zco b x) : 0 ≤ zps0 x ∧ zps0 x ≤ 2 := by
  obtain ⟨h1, h2⟩ := h
  unfold zps0
  split <;> omega
theorem zfa_mono {tx : Nat → Int} {L : Nat} : ∀ f u pl i, u ≠ 0 → (zfa tx L f u pl i).1 ≠ 0 := by
  intro f
  induction f with
  | zero => intro u pl i h; exact h
  | succ f ih =>
    intro u pl i h
    rw [zfa_succ]
    split
    · exact h
    · exact ih _ _ _ (fun q => h (by
        have := Nat.or_eq_zero_iff.mp q
        exact this.1))
/-- with no factor, the end is where the spaces end -/
theorem zTq_0 {tx : Nat → Int} {L i : Nat} (h : zTu tx L i = 0) : zTq tx L i = zsk tx L (zTm tx L i) := by
  unfold zTu at h
  unfold zTq
  rw [zfa_succ] at h ⊢
  split
  · rfl
  · next q =>
    rw [if_neg q] at h
    exact absurd h (zfa_mono _ _ _ _ (fun q2 => by
      have h1 := (Nat.or_eq_zero_iff.mp q2).2
      exact absurd h1 (by have := Nat.two_pow_pos (zlet (zpeek tx L (zsk tx L (zTm tx L i)))).toNat; omega)))
theorem zlet_c (c : Int) : (c = 120 ∧ zlet c = 0) ∨ (c = 121 ∧ zlet c = 1) ∨ (c = 116 ∧ zlet c = 2) ∨ (c ≠ 120 ∧ c ≠ 121 ∧ c ≠ 116 ∧ zlet c = -1) := by
  unfold zlet
  by_cases a : c = 120
  · rw [if_pos a]; omega
  · rw [if_neg a]
    by_cases b : c = 121
    · rw [if_pos b]; omega
    · rw [if_neg b]
      by_cases d : c = 116
      · rw [if_pos d]; omega
      · rw [if_neg d]; omega
/-- whether the letter that stands here can be a factor -/
def zcan (tx : Nat → Int) (L u q : Nat) : Prop := (zpeek tx L q = 120 ∧ u % 2 = 0) ∨ (zpeek tx L q = 121 ∧ u / 2 % 2 = 0) ∨ (zpeek tx L q = 116 ∧ u / 4 % 2 = 0)
theorem zcan_i {tx : Nat → Int} {L u q : Nat} : zcan tx L u q ↔ ¬ (zlet (zpeek tx L q) < 0 ∨ u / 2 ^ (zlet (zpeek tx L q)).toNat % 2 = 1) := by
  unfold zcan
  rcases zlet_c (zpeek tx L q) with ⟨a, b⟩ | ⟨a, b⟩ | ⟨a, b⟩ | ⟨a1, a2, a3, b⟩
  · rw [b, a, show ((0 : Int)).toNat = 0 from rfl, Nat.pow_zero, Nat.div_one]
    omega
  · rw [b, a, show ((1 : Int)).toNat = 1 from rfl, show 2 ^ 1 = 2 from rfl]
    omega
  · rw [b, a, show ((2 : Int)).toNat = 2 from rfl, show 2 ^ 2 = 4 from rfl]
    omega
  · rw [b]
    omega
theorem zco_in {b : Nat} {x : Int} (hb : b < 2) (h : zco b x) : -9 ≤ x ∧ x ≤ 2 := by
  obtain ⟨h1, h2⟩ := h
  omega
theorem zcan_lt {tx : Nat → Int} {L u q : Nat} (h : zcan tx L u q) : q + 1 ≤ L := by
  have : zpeek tx L q ≠ -1 := by unfold zcan at h; omega
  exact zpeek_ne this
def zbI (b nT : Int) (u : Nat) : Prop := (b = 0 ∧ nT < 0 ∧ u = 0) ∨ (b = 1 ∧ (0 ≤ nT ∨ u ≠ 0))
def zccI (tx : Nat → Int) (L q : Nat) (cc : Int) : Prop := (cc = 120 ↔ zpeek tx L q = 120) ∧ (cc = 121 ↔ zpeek tx L q = 121) ∧ (cc = 116 ↔ zpeek tx L q = 116)
theorem zccI_of {tx : Nat → Int} {L i q : Nat} {h : zH} (H : zTy tx L i h) : zccI tx L q (zhr tx L q) := by
  unfold zccI
  rcases zTy_c H q with ⟨-, a, b, -⟩ | ⟨-, a, b⟩
  · rw [a, b]; exact ⟨Iff.rfl, Iff.rfl, Iff.rfl⟩
  · rw [a, b]; omega
theorem zcan_y {tx : Nat → Int} {L u q : Nat} {cc x y t : Int} (hc : zccI tx L q cc) (hx : zco (u % 2) x) (hy : zco (u / 2 % 2) y) (ht : zco (u / 4 % 2) t) (h : (cc = 120 ∧ x = -9) ∨ (cc = 121 ∧ y = -9) ∨ (cc = 116 ∧ t = -9)) : zcan tx L u q := by
  obtain ⟨i0, i1, i2⟩ := hc
  rcases h with ⟨a, b⟩ | ⟨a, b⟩ | ⟨a, b⟩
  · exact Or.inl ⟨i0.mp a, by have := hx.1; omega⟩
  · exact Or.inr (Or.inl ⟨i1.mp a, by have := hy.1; omega⟩)
  · exact Or.inr (Or.inr ⟨i2.mp a, by have := ht.1; omega⟩)
theorem zcan_z {tx : Nat → Int} {L u q : Nat} {cc x y t : Int} (hc : zccI tx L q cc) (hx : zco (u % 2) x) (hy : zco (u / 2 % 2) y) (ht : zco (u / 4 % 2) t) (h : zcan tx L u q) : (cc = 120 ∧ x = -9) ∨ (cc = 121 ∧ y = -9) ∨ (cc = 116 ∧ t = -9) := by
  obtain ⟨i0, i1, i2⟩ := hc
  rcases h with ⟨a, b⟩ | ⟨a, b⟩ | ⟨a, b⟩
  · exact Or.inl ⟨i0.mpr a, hx.2 b⟩
  · exact Or.inr (Or.inl ⟨i1.mpr a, hy.2 b⟩)
  · exact Or.inr (Or.inr ⟨i2.mpr a, ht.2 b⟩)
/-- which of three numbers changes -/
def zch3 (k cc ev a b : Int) : Prop := (cc = k ∧ a = ev) ∨ (cc ≠ k ∧ a = b)
theorem zch3_y {k cc ev a b : Int} (h : zch3 k cc ev a b) (e : cc = k) : a = ev := by
  rcases h with w | w
  · exact w.2
  · exact absurd e w.1
theorem zch3_n {k cc ev a b : Int} (h : zch3 k cc ev a b) (e : cc ≠ k) : a = b := by
  rcases h with w | w
  · exact absurd w.1 e
  · exact w.2
def zwI (tx : Nat → Int) (L q : Nat) (w : Int) : Prop := (48 ≤ zpeek tx L q ∧ zpeek tx L q ≤ 50 ∧ w = zpeek tx L q - 48) ∨ (¬ (48 ≤ zpeek tx L q ∧ zpeek tx L q ≤ 50) ∧ w = -9)
theorem zwI_c {tx : Nat → Int} {L q : Nat} {w : Int} (h : zwI tx L q w) : (w = -9 → zexq tx L q = q ∧ zexv tx L q = 1) ∧ (w ≠ -9 → zexq tx L q = q + 1 ∧ (zexv tx L q : Int) = w) := by
  unfold zexq zexv
  rcases h with ⟨a, b, c⟩ | ⟨a, c⟩
  · rw [if_pos ⟨a, b⟩, if_pos ⟨a, b⟩]
    omega
  · rw [if_neg a, if_neg a]
    exact ⟨fun _ => ⟨rfl, rfl⟩, fun q2 => absurd c q2⟩
theorem zwI_in {tx : Nat → Int} {L q : Nat} {w : Int} (h : zwI tx L q w) : w = -9 ∨ (0 ≤ w ∧ w ≤ 2) := by
  rcases h with ⟨a, b, c⟩ | ⟨a, c⟩ <;> omega
def zFrs (a j : Nat) : Prop := (a = 445 ∧ (j = 5 ∨ j = 6)) ∨ a = 449
theorem zTy_fr {tx : Nat → Int} {L i : Nat} {h h' : zH} (H : zTy tx L i h) {i' : Nat} (hi : i' ≤ L) (h5 : h' 445 5 = (i' : Int)) (e : ∀ a j, (a = 445 ∧ j = 4) ∨ a = 448 → h' a j = h a j) : zTy tx L i' h' := ⟨by rw [e _ _ (by omega)]; exact H.1, H.2.1, h5, hi, fun j hj => by rw [e _ _ (by omega)]; exact H.2.2.2.2 j hj⟩
/-- what is to be read behind the place q, where there is no space -/
noncomputable def zGG (tx : Nat → Int) (L : Nat) (p fi : Int) (fl q : Nat) (S : Nat → Int) : Int × (Nat → Int) := zif (fi = 0 ∧ zsg tx L q = 0) ((q : Int), S) (zps tx L p fl (zsgp tx L q) (decide (zsg tx L q < 0)) S)
theorem zts_fl2 {g : zH} {A : Nat} {p w : Int} {S : Nat → Int} (hS : g A = S) {at_ : Nat} (h : at_ < 27) {F : Nat → Int} (hF : ∀ j, F j = if j = at_ then (S j + w) % p else S j) : zup g A at_ ((S at_ + w) % p) = zfl g A 27 F := by
  funext b j
  unfold zup zfl
  by_cases e : b = A
  · subst e
    by_cases e2 : j = at_
    · rw [if_pos ⟨rfl, e2⟩, if_pos ⟨rfl, by omega⟩, hF, if_pos e2, e2]
    · rw [if_neg (fun q => e2 q.2)]
      by_cases e3 : j < 27
      · rw [if_pos ⟨rfl, e3⟩, hF, if_neg e2, hS]
      · rw [if_neg (fun q => e3 q.2)]
  · rw [if_neg (fun q => e q.1), if_neg (fun q => e q.1)]
theorem zsg_p {tx : Nat → Int} {L q : Nat} (h : zsg tx L q ≠ 0) : zsgp tx L q = q + 1 ∧ q < L := by
  unfold zsg at h
  unfold zsgp
  by_cases a : zpeek tx L q = 43
  · rw [if_pos a]
    exact ⟨rfl, zpeek_ne (tx := tx) (L := L) (q := q) (by omega)⟩
  · rw [if_neg a] at h ⊢
    by_cases b : zpeek tx L q = 45
    · rw [if_pos b]
      exact ⟨rfl, zpeek_ne (tx := tx) (L := L) (q := q) (by omega)⟩
    · rw [if_neg b] at h
      exact absurd rfl h
theorem zsg_c (tx : Nat → Int) (L q : Nat) : (zpeek tx L q = 43 ∧ zsg tx L q = 1 ∧ zsgp tx L q = q + 1) ∨ (zpeek tx L q = 45 ∧ zsg tx L q = -1 ∧ zsgp tx L q = q + 1) ∨ (zpeek tx L q ≠ 43 ∧ zpeek tx L q ≠ 45 ∧ zsg tx L q = 0 ∧ zsgp tx L q = q) := by
  unfold zsg zsgp
  by_cases a : zpeek tx L q = 43
  · rw [if_pos a, if_pos a]; exact Or.inl ⟨a, rfl, rfl⟩
  · rw [if_neg a, if_neg a]
    by_cases b : zpeek tx L q = 45
    · rw [if_pos b, if_pos b]; exact Or.inr (Or.inl ⟨b, rfl, rfl⟩)
    · rw [if_neg b, if_neg b]; exact Or.inr (Or.inr ⟨a, b, rfl, rfl⟩)
theorem ztS_in {p z : Int} (hp : 0 < p) {neg : Bool} {a : Nat} {S : Nat → Int} (h : ∀ j, j < 27 → 0 ≤ S j ∧ S j < p) : ∀ j, j < 27 → 0 ≤ ztS p neg z a S j ∧ ztS p neg z a S j < p := by
  intro j hj
  unfold ztS
  split
  · exact z_mod hp _
  · exact h j hj

theorem zhr_lt {tx : Nat → Int} {L q : Nat} (h : zhr tx L q ≠ -9) : q < L := by
  unfold zhr at h
  split at h
  · assumption
  · exact absurd rfl h

set_option maxRecDepth 100000 in
set_option maxHeartbeats 4000000 in
theorem t_X10_readsTerm {h : zH} {tx : Nat → Int} {L i : Nat} (H : zTy tx L i h) (hsk : zsk tx L i = i) {sg p : Int} {neg : Bool} (hsg : sg = if neg then -1 else 1) (hp : 5 ≤ p ∧ p ≤ 31) (hp0 : h 446 0 = p) (hS : ∀ j, j < 27 → 0 ≤ h 449 j ∧ h 449 j < p) : CV yX10_readsTerm mX10_readsTerm [vR 445, vI sg] h (fun r_ => (zTn tx L i < 0 ∧ zTu tx L i = 0 → r_ = zup (zup h 445 5 (zsk tx L (zTq tx L i) : Int)) 445 6 (zsk tx L (zTq tx L i) : Int)) ∧ (¬ (zTn tx L i < 0 ∧ zTu tx L i = 0) → r_ = zfl (zup h 445 5 (zsk tx L (zTq tx L i) : Int)) 449 27 (ztS p neg (zTz tx L i) (zTa tx L i) (h 449)))) := by
  refine inV [some (vR 445), some (vI sg), none, none, none, none, none, none, none, none] mvX10_readsTerm rfl (Nat.le_of_ble_eq_true rfl) rfl ?_
  have hiL := H.2.2.2.1
  have hm := zTm_le (tx := tx) hiL
  have hq := zTq_le (tx := tx) hiL
  have hsk2 := zsk_le (tx := tx) hm.2
  have hnn : -1 ≤ zTn tx L i ∧ zTn tx L i ≤ 999 := znr_in (tx := tx) (L := L) i
  have hzz : (zTn tx L i < 0 → zTz tx L i = 1) ∧ (¬ zTn tx L i < 0 → zTz tx L i = zTn tx L i) := by
    unfold zTz
    exact ⟨fun q => if_pos q, fun q => if_neg q⟩
  have L77 : ∀ (zm77 : Nat) (f u pl q : Nat) (h' : zH) (vn b x y t g : Int), 2 * f + g.toNat = zm77 → (h' = zup h 445 5 (q : Int)) → (q ≤ L) → (zsk tx L q = q) → (vn = zTz tx L i) → (zbI b (zTn tx L i) u) → (u < 8) → (f + u % 2 + u / 2 % 2 + u / 4 % 2 = 3) → (zco (u % 2) x) → (zco (u / 2 % 2) y) → (zco (u / 4 % 2) t) → ((pl : Int) = 9 * zps0 x + 3 * zps0 y + zps0 t) → (g = 0 ∨ g = 1) → (g = 0 → zae tx L (u, pl, q) (zfa tx L 3 0 0 (zTm tx L i))) → (g = 1 → zae tx L (zfa tx L f u pl q) (zfa tx L 3 0 0 (zTm tx L i))) → WP mX10_readsTerm (zMQ mX10_readsTerm (zKV (fun r_ => (zTn tx L i < 0 ∧ zTu tx L i = 0 → r_ = zup (zup h 445 5 (zsk tx L (zTq tx L i) : Int)) 445 6 (zsk tx L (zTq tx L i) : Int)) ∧ (¬ (zTn tx L i < 0 ∧ zTu tx L i = 0) → r_ = zfl (zup h 445 5 (zsk tx L (zTq tx L i) : Int)) 449 27 (ztS p neg (zTz tx L i) (zTa tx L i) (h 449)))))) 77 [some (vR 445), some (vI sg), some (vI vn), some (vI b), some (vI x), some (vI y), some (vI t), some (vI g), none, none] [] zN zGR h' := by
    intro zm77
    induction zm77 using Nat.strongRecOn with | _ zm77 ih77 => ?_
    intro f u pl q h' vn b x y t g hzm77 hh hqL hqs hvn hb hu8 hf hx hy ht hpl hg hg0 hg1
    subst hzm77
    have H' : zTy tx L q h' := by rw [hh]; exact zTy_up H hqL
    have k5 : h' 445 5 = (q : Int) := H'.2.2.1
    have hcI := zccI_of (q := q) H'
    have bz : 0 ≤ b ∧ b ≤ 1 := by unfold zbI at hb; omega
    have hx3 := zco_in (by omega) hx
    have hy3 := zco_in (by omega) hy
    have ht3 := zco_in (by omega) ht
    have hhr : -9 ≤ zhr tx L q ∧ zhr tx L q < 200 := by rcases zTy_c H' q with ⟨-, a, -, a2, a3⟩ | ⟨-, a, -⟩ <;> omega
    have L301 : ∀ (vx : Int), (¬ (zTn tx L i < 0 ∧ zTu tx L i = 0)) → (zTu tx L i = u ∧ zTp tx L i = pl ∧ zsk tx L (zTq tx L i) = q) → (vx = zps0 x) → WP mX10_readsTerm (zMQ mX10_readsTerm (zKV (fun r_ => (zTn tx L i < 0 ∧ zTu tx L i = 0 → r_ = zup (zup h 445 5 (zsk tx L (zTq tx L i) : Int)) 445 6 (zsk tx L (zTq tx L i) : Int)) ∧ (¬ (zTn tx L i < 0 ∧ zTu tx L i = 0) → r_ = zfl (zup h 445 5 (zsk tx L (zTq tx L i) : Int)) 449 27 (ztS p neg (zTz tx L i) (zTa tx L i) (h 449)))))) 301 [some (vR 445), some (vI sg), some (vI vn), none, some (vI x), some (vI y), some (vI t), none, none, none] [vI vx, vI 9] zN zGR h' := by
      intro vx hnC hfin hvx
      have L316 : ∀ (vy : Int), (vy = zps0 y) → WP mX10_readsTerm (zMQ mX10_readsTerm (zKV (fun r_ => (zTn tx L i < 0 ∧ zTu tx L i = 0 → r_ = zup (zup h 445 5 (zsk tx L (zTq tx L i) : Int)) 445 6 (zsk tx L (zTq tx L i) : Int)) ∧ (¬ (zTn tx L i < 0 ∧ zTu tx L i = 0) → r_ = zfl (zup h 445 5 (zsk tx L (zTq tx L i) : Int)) 449 27 (ztS p neg (zTz tx L i) (zTa tx L i) (h 449)))))) 316 [some (vR 445), some (vI sg), some (vI vn), none, some (vI x), some (vI y), some (vI t), none, none, none] [vI vy, vI 3, vI (9 * vx)] zN zGR h' := by
        intro vy hvy
        have L331 : ∀ (vt : Int), (vt = zps0 t) → WP mX10_readsTerm (zMQ mX10_readsTerm (zKV (fun r_ => (zTn tx L i < 0 ∧ zTu tx L i = 0 → r_ = zup (zup h 445 5 (zsk tx L (zTq tx L i) : Int)) 445 6 (zsk tx L (zTq tx L i) : Int)) ∧ (¬ (zTn tx L i < 0 ∧ zTu tx L i = 0) → r_ = zfl (zup h 445 5 (zsk tx L (zTq tx L i) : Int)) 449 27 (ztS p neg (zTz tx L i) (zTa tx L i) (h 449)))))) 331 [some (vR 445), some (vI sg), some (vI vn), none, some (vI x), some (vI y), some (vI t), none, none, none] [vI vt, vI (9 * vx + 3 * vy)] zN zGR h' := by
          intro vt hvt
          have hpv : 9 * vx + 3 * vy + vt = (pl : Int) := by omega
          have bx := zps0_in (by omega) hx
          have by' := zps0_in (by omega) hy
          have bt := zps0_in (by omega) ht
          have hpl27 : pl < 27 := by omega
          have kS : h' 449 pl = h 449 pl := by rw [hh, zup_o (by omega)]
          have hSp := hS pl hpl27
          have kp : h' 446 0 = p := by rw [hh, zup_o (by omega)]; exact hp0
          have hzb : 0 ≤ zTz tx L i ∧ zTz tx L i ≤ 999 := by omega
          have hzm := z_mod (by omega) (zTz tx L i) (p := p)
          have hsg2 : sg = 1 ∨ sg = -1 := by rw [hsg]; cases neg; exact Or.inl rfl; exact Or.inr rfl
          have hsz : -31 ≤ sg * (zTz tx L i % p) ∧ sg * (zTz tx L i % p) ≤ 31 := by rcases hsg2 with e | e <;> rw [e] <;> omega
          refine wp_iadd dX10_readsTerm_331 (w_istore8 dX10_readsTerm_332 rfl (by decide) (w_aload0 dX10_readsTerm_334 (wp_getr 449 dX10_readsTerm_335 fl_RX10_19 is_445 rfl (w_iload8 dX10_readsTerm_338 (w_aload0 dX10_readsTerm_340 (w_aload0 dX10_readsTerm_341 (wp_getr 449 dX10_readsTerm_342 fl_RX10_19 is_445 rfl (w_iload8 dX10_readsTerm_345 ?_))))))))
          skip
          refine x_iald pl dX10_readsTerm_347 is_449 (by omega) hpl27 (w_iload1 dX10_readsTerm_348 (w_aload0 dX10_readsTerm_349 (w_iload2 dX10_readsTerm_350 ?_)))
          apply v_i1 (M := mX10_readsTerm) dX10_readsTerm_351 lk_RX10_128 mvX10_mod (by decide) meX10_readsTerm is_445 (Nat.le_of_ble_eq_true rfl)
          · exact t_X10_mod (by rw [hvn]; exact ⟨by omega, by omega⟩) hp kp
          intro x351 h351 hP351
          obtain ⟨eh351, ex351⟩ := hP351
          replace eh351 := eh351.symm
          subst eh351
          replace ex351 := ex351.symm
          subst ex351
          rw [hvn]
          refine wp_imul dX10_readsTerm_354 (wp_iadd dX10_readsTerm_355 ?_)
          rw [kS]
          apply v_i1 (M := mX10_readsTerm) dX10_readsTerm_356 lk_RX10_128 mvX10_mod (by decide) meX10_readsTerm is_445 (Nat.le_of_ble_eq_true rfl)
          · exact t_X10_mod ⟨by omega, by omega⟩ hp kp
          intro x356 h356 hP356
          obtain ⟨eh356, ex356⟩ := hP356
          replace eh356 := eh356.symm
          subst eh356
          replace ex356 := ex356.symm
          subst ex356
          refine x_iast pl dX10_readsTerm_359 is_449 (by omega) hpl27 ?_
          refine r_v dX10_readsTerm_360 rfl meX10_readsTerm ?_
          refine ⟨fun w => absurd w hnC, fun _ => ?_⟩
          rw [hfin.2.2, ← hh]
          have hza : zTa tx L i = pl := by
            unfold zTa
            split
            · next w =>
              have hu0 : u = 0 := by omega
              have ex : x = -9 := hx.2 (by omega)
              have ey : y = -9 := hy.2 (by omega)
              have et : t = -9 := ht.2 (by omega)
              have e0 : zps0 x = 0 := by rw [ex]; rfl
              have e1 : zps0 y = 0 := by rw [ey]; rfl
              have e2 : zps0 t = 0 := by rw [et]; rfl
              omega
            · exact hfin.2.1
          have h449 : h' 449 = h 449 := by rw [hh]; exact zup_a (by decide)
          have hw : ∀ w : Int, zcg p w (if neg then -(zTz tx L i) else zTz tx L i) → zup h' 449 pl ((h 449 pl + w) % p) = zfl h' 449 27 (ztS p neg (zTz tx L i) (zTa tx L i) (h 449)) := by
            intro w e
            rw [((zcg.rf (a := h 449 pl)).ad e).em, hza]
            exact zts_fl2 h449 hpl27 (fun j => rfl)
          refine hw _ ?_
          rw [hsg]
          cases neg
          · rw [if_neg (by decide), if_neg (by decide), Int.one_mul]
            exact zcg.md
          · rw [if_pos rfl, if_pos rfl]
            exact ((zcg.rf (a := -1)).ml zcg.md).tr (zcg.of (by omega))
        refine wp_imul dX10_readsTerm_316 (wp_iadd dX10_readsTerm_317 (w_iload6 dX10_readsTerm_318 (wp_bipush dX10_readsTerm_320 (by decide) ?_)))
        refine wp_icmp_ne 329 dX10_readsTerm_322 rfl ⟨by omega, by omega⟩ ⟨by omega, by omega⟩ (fun c322 => ?_) (fun c322 => ?_)
        · skip
          refine w_iload6 dX10_readsTerm_329 ?_
          first
          | exact L331 _ (by unfold zps0; rw [if_pos (by omega)])
          | exact L331 _ (by unfold zps0; rw [if_neg (by omega)])
        · skip
          refine wp_iconst dX10_readsTerm_325 (wp_goto 331 dX10_readsTerm_326 rfl ?_)
          first
          | exact L331 _ (by unfold zps0; rw [if_pos (by omega)])
          | exact L331 _ (by unfold zps0; rw [if_neg (by omega)])
      refine wp_imul dX10_readsTerm_301 (wp_iconst dX10_readsTerm_302 (w_iload5 dX10_readsTerm_303 (wp_bipush dX10_readsTerm_305 (by decide) ?_)))
      refine wp_icmp_ne 314 dX10_readsTerm_307 rfl ⟨by omega, by omega⟩ ⟨by omega, by omega⟩ (fun c307 => ?_) (fun c307 => ?_)
      · skip
        refine w_iload5 dX10_readsTerm_314 ?_
        first
        | exact L316 _ (by unfold zps0; rw [if_pos (by omega)])
        | exact L316 _ (by unfold zps0; rw [if_neg (by omega)])
      · skip
        refine wp_iconst dX10_readsTerm_310 (wp_goto 316 dX10_readsTerm_311 rfl ?_)
        first
        | exact L316 _ (by unfold zps0; rw [if_pos (by omega)])
        | exact L316 _ (by unfold zps0; rw [if_neg (by omega)])
    have L135 : ∀ (cc gg : Int), (g = 1) → (zhr tx L q = cc) → ((gg = 0 ∨ gg = 1) ∧ (gg = 1 ↔ zcan tx L u q)) → WP mX10_readsTerm (zMQ mX10_readsTerm (zKV (fun r_ => (zTn tx L i < 0 ∧ zTu tx L i = 0 → r_ = zup (zup h 445 5 (zsk tx L (zTq tx L i) : Int)) 445 6 (zsk tx L (zTq tx L i) : Int)) ∧ (¬ (zTn tx L i < 0 ∧ zTu tx L i = 0) → r_ = zfl (zup h 445 5 (zsk tx L (zTq tx L i) : Int)) 449 27 (ztS p neg (zTz tx L i) (zTa tx L i) (h 449)))))) 135 [some (vR 445), some (vI sg), some (vI vn), some (vI b), some (vI x), some (vI y), some (vI t), none, some (vI cc), none] [vI gg] zN zGR h' := by
      intro cc gg hg9 hcc hgg
      rw [hcc] at hcI hhr
      obtain ⟨gg1, gg2⟩ := id hgg
      have L178 : ∀ (h1 : zH) (w : Int), (gg = 1) → (zcan tx L u q) → (h1 = zup h 445 5 ((q + 1 : Nat) : Int)) → (zwI tx L (q + 1) w) → WP mX10_readsTerm (zMQ mX10_readsTerm (zKV (fun r_ => (zTn tx L i < 0 ∧ zTu tx L i = 0 → r_ = zup (zup h 445 5 (zsk tx L (zTq tx L i) : Int)) 445 6 (zsk tx L (zTq tx L i) : Int)) ∧ (¬ (zTn tx L i < 0 ∧ zTu tx L i = 0) → r_ = zfl (zup h 445 5 (zsk tx L (zTq tx L i) : Int)) 449 27 (ztS p neg (zTz tx L i) (zTa tx L i) (h 449)))))) 178 [some (vR 445), some (vI sg), some (vI vn), some (vI b), some (vI x), some (vI y), some (vI t), some (vI gg), some (vI cc), none] [vI w] zN zGR h1 := by
        intro h1 w hgg9 hcn hh1 hw
        have hq1 : q + 1 ≤ L := zcan_lt hcn
        have hwi := zwI_in hw
        obtain ⟨hw1, hw2⟩ := zwI_c hw
        have H1 : zTy tx L (q + 1) h1 := by rw [hh1]; exact zTy_up H hq1
        have k51 : h1 445 5 = ((q + 1 : Nat) : Int) := H1.2.2.1
        have L214 : ∀ (h2 : zH) (ev : Int), (h2 = zup h 445 5 (zexq tx L (q + 1) : Int)) → (ev = (zexv tx L (q + 1) : Int)) → WP mX10_readsTerm (zMQ mX10_readsTerm (zKV (fun r_ => (zTn tx L i < 0 ∧ zTu tx L i = 0 → r_ = zup (zup h 445 5 (zsk tx L (zTq tx L i) : Int)) 445 6 (zsk tx L (zTq tx L i) : Int)) ∧ (¬ (zTn tx L i < 0 ∧ zTu tx L i = 0) → r_ = zfl (zup h 445 5 (zsk tx L (zTq tx L i) : Int)) 449 27 (ztS p neg (zTz tx L i) (zTa tx L i) (h 449)))))) 214 [some (vR 445), some (vI sg), some (vI vn), some (vI b), some (vI x), some (vI y), some (vI t), some (vI gg), some (vI cc), none] [vI ev] zN zGR h2 := by
          intro h2 ev hh2 hev0
          have hq2 := zexq_le (tx := tx) (L := L) (i := q + 1) hq1
          have H2 : zTy tx L (zexq tx L (q + 1)) h2 := by rw [hh2]; exact zTy_up H hq2.2
          have hevl := zexv_le (tx := tx) (L := L) (i := q + 1)
          have L230 : ∀ (x' : Int), (zch3 120 cc ev x' x) → WP mX10_readsTerm (zMQ mX10_readsTerm (zKV (fun r_ => (zTn tx L i < 0 ∧ zTu tx L i = 0 → r_ = zup (zup h 445 5 (zsk tx L (zTq tx L i) : Int)) 445 6 (zsk tx L (zTq tx L i) : Int)) ∧ (¬ (zTn tx L i < 0 ∧ zTu tx L i = 0) → r_ = zfl (zup h 445 5 (zsk tx L (zTq tx L i) : Int)) 449 27 (ztS p neg (zTz tx L i) (zTa tx L i) (h 449)))))) 230 [some (vR 445), some (vI sg), some (vI vn), some (vI b), none, some (vI y), some (vI t), some (vI gg), some (vI cc), some (vI ev)] [vI x'] zN zGR h2 := by
            intro x' hx1
            have L246 : ∀ (y' : Int), (zch3 121 cc ev y' y) → WP mX10_readsTerm (zMQ mX10_readsTerm (zKV (fun r_ => (zTn tx L i < 0 ∧ zTu tx L i = 0 → r_ = zup (zup h 445 5 (zsk tx L (zTq tx L i) : Int)) 445 6 (zsk tx L (zTq tx L i) : Int)) ∧ (¬ (zTn tx L i < 0 ∧ zTu tx L i = 0) → r_ = zfl (zup h 445 5 (zsk tx L (zTq tx L i) : Int)) 449 27 (ztS p neg (zTz tx L i) (zTa tx L i) (h 449)))))) 246 [some (vR 445), some (vI sg), some (vI vn), some (vI b), some (vI x'), none, some (vI t), some (vI gg), some (vI cc), some (vI ev)] [vI y'] zN zGR h2 := by
              intro y' hy1
              have L262 : ∀ (t' : Int), (zch3 116 cc ev t' t) → WP mX10_readsTerm (zMQ mX10_readsTerm (zKV (fun r_ => (zTn tx L i < 0 ∧ zTu tx L i = 0 → r_ = zup (zup h 445 5 (zsk tx L (zTq tx L i) : Int)) 445 6 (zsk tx L (zTq tx L i) : Int)) ∧ (¬ (zTn tx L i < 0 ∧ zTu tx L i = 0) → r_ = zfl (zup h 445 5 (zsk tx L (zTq tx L i) : Int)) 449 27 (ztS p neg (zTz tx L i) (zTa tx L i) (h 449)))))) 262 [some (vR 445), some (vI sg), some (vI vn), some (vI b), some (vI x'), some (vI y'), none, some (vI gg), some (vI cc), some (vI ev)] [vI t'] zN zGR h2 := by
                intro t' ht1
                refine w_istore6 dX10_readsTerm_262 rfl (by decide) (wp_iconst dX10_readsTerm_264 (w_istore3 dX10_readsTerm_265 rfl (by decide) (w_aload0 dX10_readsTerm_266 ?_)))
                apply v_v0 (M := mX10_readsTerm) dX10_readsTerm_267 lk_RX10_122 mvX10_skips (by decide) meX10_readsTerm is_445 (Nat.le_of_ble_eq_true rfl)
                · exact t_X10_skips H2
                intro h267 hP267
                replace hP267 := hP267.symm
                subst hP267
                refine wp_goto 77 dX10_readsTerm_270 rfl ?_
                refine w_forget8 ?_
                refine w_forget9 ?_
                clear hw1 hw2 hwi hw hh1 H1 k51
                have hev : (0 : Int) ≤ ev ∧ ev ≤ 2 := by omega
                obtain ⟨f', rfl⟩ : ∃ f', f = f' + 1 := ⟨f - 1, by unfold zcan at hcn; omega⟩
                have hnot := zcan_i.mp hcn
                have hgo := hg1 (by omega)
                rw [zfa_go hqs hnot] at hgo
                have hq3 := zsk_le (tx := tx) hq2.2
                have hae : zae tx L (zfa tx L f' (u ||| 2 ^ (zlet (zpeek tx L q)).toNat) (pl + zwt (zlet (zpeek tx L q)).toNat * zexv tx L (q + 1)) (zsk tx L (zexq tx L (q + 1)))) (zfa tx L 3 0 0 (zTm tx L i)) := by
                  have := zfa_ae (tx := tx) (f := f') (u := u ||| 2 ^ (zlet (zpeek tx L q)).toNat) (pl := pl + zwt (zlet (zpeek tx L q)).toNat * zexv tx L (q + 1)) hq2.2
                  exact ⟨this.1.trans hgo.1, this.2.1.trans hgo.2.1, this.2.2.trans hgo.2.2⟩
                have hne : u ||| 2 ^ (zlet (zpeek tx L q)).toNat ≠ 0 := fun q2 => by
                  have h1 := (Nat.or_eq_zero_iff.mp q2).2
                  exact absurd h1 (by have := Nat.two_pow_pos (zlet (zpeek tx L q)).toNat; omega)
                obtain ⟨i0, i1, i2⟩ := hcI
                clear hgo hnot gg1 gg2 hgg
                rcases zlet_c (zpeek tx L q) with ⟨a, l⟩ | ⟨a, l⟩ | ⟨a, l⟩ | ⟨a1, a2, a3, l⟩
                · have ex1 := zch3_y hx1 (i0.mpr a)
                  have ey1 := zch3_n hy1 (fun w => by have := i1.mp w; omega)
                  have et1 := zch3_n ht1 (fun w => by have := i2.mp w; omega)
                  have hbit : u % 2 = 0 := by unfold zcan at hcn; omega
                  clear i0 i1 i2 hcn hx1 hy1 ht1
                  rw [l] at hae hne
                  obtain ⟨o1, o2, o3, o4⟩ := zor0 u hu8 hbit
                  have ex : x = -9 := hx.2 hbit
                  have p1 : zps0 x = 0 := by rw [ex]; rfl
                  have p2 : zps0 x' = (zexv tx L (q + 1) : Int) := by unfold zps0; rw [if_neg (by omega)]; omega
                  have p3 : zwt (0 : Int).toNat = 9 := rfl
                  rw [p3] at hae
                  rw [ey1, et1]
                  refine ih77 _ (by omega) f' (u ||| 2 ^ (0 : Int).toNat) (pl + 9 * zexv tx L (q + 1)) (zsk tx L (zexq tx L (q + 1))) _ _ _ _ _ _ _ rfl ?_ hq3.2 (zsk_sk hq2.2) hvn (Or.inr ⟨rfl, Or.inr hne⟩) o1 ?_ ?_ ?_ ?_ ?_ (Or.inr hgg9) (fun w => by omega) (fun _ => hae)
                  · rw [hh2, zup_up]
                  · show f' + (u ||| 2 ^ 0) % 2 + (u ||| 2 ^ 0) / 2 % 2 + (u ||| 2 ^ 0) / 4 % 2 = 3
                    omega
                  · show zco ((u ||| 2 ^ 0) % 2) x'
                    rw [o2]
                    exact ⟨fun _ => by omega, fun w => absurd w (by decide)⟩
                  · show zco ((u ||| 2 ^ 0) / 2 % 2) y
                    rw [o3]
                    exact hy
                  · show zco ((u ||| 2 ^ 0) / 4 % 2) t
                    rw [o4]
                    exact ht
                  · rw [p2]
                    omega
                · have ex1 := zch3_n hx1 (fun w => by have := i0.mp w; omega)
                  have ey1 := zch3_y hy1 (i1.mpr a)
                  have et1 := zch3_n ht1 (fun w => by have := i2.mp w; omega)
                  have hbit : u / 2 % 2 = 0 := by unfold zcan at hcn; omega
                  clear i0 i1 i2 hcn hx1 hy1 ht1
                  rw [l] at hae hne
                  obtain ⟨o1, o2, o3, o4⟩ := zor1 u hu8 hbit
                  have ex : y = -9 := hy.2 hbit
                  have p1 : zps0 y = 0 := by rw [ex]; rfl
                  have p2 : zps0 y' = (zexv tx L (q + 1) : Int) := by unfold zps0; rw [if_neg (by omega)]; omega
                  have p3 : zwt (1 : Int).toNat = 3 := rfl
                  rw [p3] at hae
                  rw [ex1, et1]
                  refine ih77 _ (by omega) f' (u ||| 2 ^ (1 : Int).toNat) (pl + 3 * zexv tx L (q + 1)) (zsk tx L (zexq tx L (q + 1))) _ _ _ _ _ _ _ rfl ?_ hq3.2 (zsk_sk hq2.2) hvn (Or.inr ⟨rfl, Or.inr hne⟩) o1 ?_ ?_ ?_ ?_ ?_ (Or.inr hgg9) (fun w => by omega) (fun _ => hae)
                  · rw [hh2, zup_up]
                  · show f' + (u ||| 2 ^ 1) % 2 + (u ||| 2 ^ 1) / 2 % 2 + (u ||| 2 ^ 1) / 4 % 2 = 3
                    omega
                  · show zco ((u ||| 2 ^ 1) % 2) x
                    rw [o2]
                    exact hx
                  · show zco ((u ||| 2 ^ 1) / 2 % 2) y'
                    rw [o3]
                    exact ⟨fun _ => by omega, fun w => absurd w (by decide)⟩
                  · show zco ((u ||| 2 ^ 1) / 4 % 2) t
                    rw [o4]
                    exact ht
                  · rw [p2]
                    omega
                · have ex1 := zch3_n hx1 (fun w => by have := i0.mp w; omega)
                  have ey1 := zch3_n hy1 (fun w => by have := i1.mp w; omega)
                  have et1 := zch3_y ht1 (i2.mpr a)
                  have hbit : u / 4 % 2 = 0 := by unfold zcan at hcn; omega
                  clear i0 i1 i2 hcn hx1 hy1 ht1
                  rw [l] at hae hne
                  obtain ⟨o1, o2, o3, o4⟩ := zor2 u hu8 hbit
                  have ex : t = -9 := ht.2 hbit
                  have p1 : zps0 t = 0 := by rw [ex]; rfl
                  have p2 : zps0 t' = (zexv tx L (q + 1) : Int) := by unfold zps0; rw [if_neg (by omega)]; omega
                  have p3 : zwt (2 : Int).toNat = 1 := rfl
                  rw [p3] at hae
                  rw [ex1, ey1]
                  refine ih77 _ (by omega) f' (u ||| 2 ^ (2 : Int).toNat) (pl + 1 * zexv tx L (q + 1)) (zsk tx L (zexq tx L (q + 1))) _ _ _ _ _ _ _ rfl ?_ hq3.2 (zsk_sk hq2.2) hvn (Or.inr ⟨rfl, Or.inr hne⟩) o1 ?_ ?_ ?_ ?_ ?_ (Or.inr hgg9) (fun w => by omega) (fun _ => hae)
                  · rw [hh2, zup_up]
                  · show f' + (u ||| 2 ^ 2) % 2 + (u ||| 2 ^ 2) / 2 % 2 + (u ||| 2 ^ 2) / 4 % 2 = 3
                    omega
                  · show zco ((u ||| 2 ^ 2) % 2) x
                    rw [o2]
                    exact hx
                  · show zco ((u ||| 2 ^ 2) / 2 % 2) y
                    rw [o3]
                    exact hy
                  · show zco ((u ||| 2 ^ 2) / 4 % 2) t'
                    rw [o4]
                    exact ⟨fun _ => by omega, fun w => absurd w (by decide)⟩
                  · rw [p2]
                    omega
                · unfold zcan at hcn
                  omega
              refine w_istore5 dX10_readsTerm_246 rfl (by decide) (w_iload8 dX10_readsTerm_248 (wp_bipush dX10_readsTerm_250 (by decide) ?_))
              refine wp_icmp_ne 260 dX10_readsTerm_252 rfl ⟨by omega, by omega⟩ ⟨by omega, by omega⟩ (fun c252 => ?_) (fun c252 => ?_)
              · skip
                refine w_iload6 dX10_readsTerm_260 ?_
                refine w_forget6 ?_
                first | exact L262 _ (Or.inl ⟨by omega, rfl⟩) | exact L262 _ (Or.inr ⟨by omega, rfl⟩)
              · skip
                refine w_iload9 dX10_readsTerm_255 (wp_goto 262 dX10_readsTerm_257 rfl ?_)
                refine w_forget6 ?_
                first | exact L262 _ (Or.inl ⟨by omega, rfl⟩) | exact L262 _ (Or.inr ⟨by omega, rfl⟩)
            refine w_istore4 dX10_readsTerm_230 rfl (by decide) (w_iload8 dX10_readsTerm_232 (wp_bipush dX10_readsTerm_234 (by decide) ?_))
            refine wp_icmp_ne 244 dX10_readsTerm_236 rfl ⟨by omega, by omega⟩ ⟨by omega, by omega⟩ (fun c236 => ?_) (fun c236 => ?_)
            · skip
              refine w_iload5 dX10_readsTerm_244 ?_
              refine w_forget5 ?_
              first | exact L246 _ (Or.inl ⟨by omega, rfl⟩) | exact L246 _ (Or.inr ⟨by omega, rfl⟩)
            · skip
              refine w_iload9 dX10_readsTerm_239 (wp_goto 246 dX10_readsTerm_241 rfl ?_)
              refine w_forget5 ?_
              first | exact L246 _ (Or.inl ⟨by omega, rfl⟩) | exact L246 _ (Or.inr ⟨by omega, rfl⟩)
          refine w_istore9 dX10_readsTerm_214 rfl (by decide) (w_iload8 dX10_readsTerm_216 (wp_bipush dX10_readsTerm_218 (by decide) ?_))
          refine wp_icmp_ne 228 dX10_readsTerm_220 rfl ⟨by omega, by omega⟩ ⟨by omega, by omega⟩ (fun c220 => ?_) (fun c220 => ?_)
          · skip
            refine w_iload4 dX10_readsTerm_228 ?_
            refine w_forget4 ?_
            first | exact L230 _ (Or.inl ⟨by omega, rfl⟩) | exact L230 _ (Or.inr ⟨by omega, rfl⟩)
          · skip
            refine w_iload9 dX10_readsTerm_223 (wp_goto 230 dX10_readsTerm_225 rfl ?_)
            refine w_forget4 ?_
            first | exact L230 _ (Or.inl ⟨by omega, rfl⟩) | exact L230 _ (Or.inr ⟨by omega, rfl⟩)
        refine w_istore9 dX10_readsTerm_178 rfl (by decide) (w_aload0 dX10_readsTerm_180 (wp_dup dX10_readsTerm_181 rfl ?_))
        skip
        refine wp_geti dX10_readsTerm_182 fl_RX10_112 is_445 (w_iload9 dX10_readsTerm_185 (wp_bipush dX10_readsTerm_187 (by decide) ?_))
        refine wp_icmp_ne 196 dX10_readsTerm_189 rfl ⟨by omega, by omega⟩ ⟨by omega, by omega⟩ (fun c189 => ?_) (fun c189 => ?_)
        · skip
          refine wp_iconst dX10_readsTerm_196 (wp_iadd dX10_readsTerm_197 ?_)
          rw [k51]
          refine wp_puti dX10_readsTerm_198 fl_RX10_112 is_445 rfl (w_iload9 dX10_readsTerm_201 (wp_bipush dX10_readsTerm_203 (by decide) ?_))
          refine wp_icmp_ne 212 dX10_readsTerm_205 rfl ⟨by omega, by omega⟩ ⟨by omega, by omega⟩ (fun c205 => ?_) (fun c205 => ?_)
          · skip
            refine w_iload9 dX10_readsTerm_212 ?_
            refine w_forget9 ?_
            first
            | (exfalso; omega)
            | (have c9 : w = -9 := by omega
               obtain ⟨e1, e2⟩ := hw1 c9
               exact L214 _ _ (by rw [hh1, zup_up, e1, Int.add_zero]) (by rw [e2]; rfl))
            | (have c9 : w ≠ -9 := by omega
               obtain ⟨e1, e2⟩ := hw2 c9
               exact L214 _ _ (by rw [hh1, zup_up, e1]; rfl) e2.symm)
          · skip
            refine wp_iconst dX10_readsTerm_208 (wp_goto 214 dX10_readsTerm_209 rfl ?_)
            refine w_forget9 ?_
            first
            | (exfalso; omega)
            | (have c9 : w = -9 := by omega
               obtain ⟨e1, e2⟩ := hw1 c9
               exact L214 _ _ (by rw [hh1, zup_up, e1, Int.add_zero]) (by rw [e2]; rfl))
            | (have c9 : w ≠ -9 := by omega
               obtain ⟨e1, e2⟩ := hw2 c9
               exact L214 _ _ (by rw [hh1, zup_up, e1]; rfl) e2.symm)
        · skip
          refine wp_iconst dX10_readsTerm_192 (wp_goto 197 dX10_readsTerm_193 rfl (wp_iadd dX10_readsTerm_197 ?_))
          rw [k51]
          refine wp_puti dX10_readsTerm_198 fl_RX10_112 is_445 rfl (w_iload9 dX10_readsTerm_201 (wp_bipush dX10_readsTerm_203 (by decide) ?_))
          refine wp_icmp_ne 212 dX10_readsTerm_205 rfl ⟨by omega, by omega⟩ ⟨by omega, by omega⟩ (fun c205 => ?_) (fun c205 => ?_)
          · skip
            refine w_iload9 dX10_readsTerm_212 ?_
            refine w_forget9 ?_
            first
            | (exfalso; omega)
            | (have c9 : w = -9 := by omega
               obtain ⟨e1, e2⟩ := hw1 c9
               exact L214 _ _ (by rw [hh1, zup_up, e1, Int.add_zero]) (by rw [e2]; rfl))
            | (have c9 : w ≠ -9 := by omega
               obtain ⟨e1, e2⟩ := hw2 c9
               exact L214 _ _ (by rw [hh1, zup_up, e1]; rfl) e2.symm)
          · skip
            refine wp_iconst dX10_readsTerm_208 (wp_goto 214 dX10_readsTerm_209 rfl ?_)
            refine w_forget9 ?_
            first
            | (exfalso; omega)
            | (have c9 : w = -9 := by omega
               obtain ⟨e1, e2⟩ := hw1 c9
               exact L214 _ _ (by rw [hh1, zup_up, e1, Int.add_zero]) (by rw [e2]; rfl))
            | (have c9 : w ≠ -9 := by omega
               obtain ⟨e1, e2⟩ := hw2 c9
               exact L214 _ _ (by rw [hh1, zup_up, e1]; rfl) e2.symm)
      refine w_istore7 dX10_readsTerm_135 rfl (by decide) (w_iload7 dX10_readsTerm_137 ?_)
      refine wp_if_eq 270 dX10_readsTerm_139 rfl ⟨by omega, by omega⟩ (fun c139 => ?_) (fun c139 => ?_)
      · skip
        refine wp_goto 77 dX10_readsTerm_270 rfl ?_
        refine w_forget8 ?_
        have hnc : ¬ zcan tx L u q := fun w => by have := gg2.mpr w; omega
        refine ih77 _ (by omega) f u pl q _ _ _ _ _ _ _ rfl hh hqL hqs hvn hb hu8 hf hx hy ht hpl (by omega) (fun _ => ?_) (fun w => absurd w (by omega))
        have := hg1 (by omega)
        rw [zfa_stop hqs (Classical.not_not.mp (fun w => hnc (zcan_i.mpr w)))] at this
        exact this
      · skip
        refine w_aload0 dX10_readsTerm_142 (wp_dup dX10_readsTerm_143 rfl (wp_geti dX10_readsTerm_144 fl_RX10_112 is_445 (wp_iconst dX10_readsTerm_147 (wp_iadd dX10_readsTerm_148 ?_))))
        rw [k5]
        have hcn : zcan tx L u q := gg2.mp (by omega)
        have hq1 : q + 1 ≤ L := zcan_lt hcn
        have hn1 : zup h' 445 5 ((q : Int) + 1) = zup h 445 5 ((q + 1 : Nat) : Int) := by rw [hh, zup_up]; rfl
        have H1' : zTy tx L (q + 1) (zup h' 445 5 ((q : Int) + 1)) := by rw [hn1]; exact zTy_up H hq1
        have hc1 := zTy_c H1' (q + 1)
        refine wp_puti dX10_readsTerm_149 fl_RX10_112 is_445 rfl (w_aload0 dX10_readsTerm_152 ?_)
        apply v_i0 (M := mX10_readsTerm) dX10_readsTerm_153 lk_RX10_115 mvX10_here (by decide) meX10_readsTerm is_445 (Nat.le_of_ble_eq_true rfl)
        · exact t_X10_here H1'
        intro x153 h153 hP153
        obtain ⟨eh153, ex153⟩ := hP153
        replace eh153 := eh153.symm
        subst eh153
        replace ex153 := ex153.symm
        subst ex153
        refine wp_bipush dX10_readsTerm_156 (by decide) (wp_bipush dX10_readsTerm_158 (by decide) ?_)
        apply s_i3 (M := mX10_readsTerm) dX10_readsTerm_160 lk_RX10_80 mvX10_in (by decide) meX10_readsTerm (Nat.le_of_ble_eq_true rfl)
        · exact t_X10_in ⟨by omega, by omega⟩ ⟨by decide, by decide⟩ ⟨by decide, by decide⟩
        intro x160 h160 hP160
        obtain ⟨eh160, hP160⟩ := hP160
        replace eh160 := eh160.symm
        subst eh160
        refine wp_if_eq 176 dX10_readsTerm_163 rfl ⟨by omega, by omega⟩ (fun c163 => ?_) (fun c163 => ?_)
        · skip
          refine wp_bipush dX10_readsTerm_176 (by decide) ?_
          first
          | exact L178 _ _ (by omega) hcn hn1 (Or.inl (by omega))
          | exact L178 _ _ (by omega) hcn hn1 (Or.inr (by omega))
        · skip
          refine w_aload0 dX10_readsTerm_166 ?_
          apply v_i0 (M := mX10_readsTerm) dX10_readsTerm_167 lk_RX10_115 mvX10_here (by decide) meX10_readsTerm is_445 (Nat.le_of_ble_eq_true rfl)
          · exact t_X10_here H1'
          intro x167 h167 hP167
          obtain ⟨eh167, ex167⟩ := hP167
          replace eh167 := eh167.symm
          subst eh167
          replace ex167 := ex167.symm
          subst ex167
          refine wp_bipush dX10_readsTerm_170 (by decide) (wp_isub dX10_readsTerm_172 (wp_goto 178 dX10_readsTerm_173 rfl ?_))
          first
          | exact L178 _ _ (by omega) hcn hn1 (Or.inl (by omega))
          | exact L178 _ _ (by omega) hcn hn1 (Or.inr (by omega))
    refine w_iload7 dX10_readsTerm_77 ?_
    refine wp_if_eq 273 dX10_readsTerm_79 rfl ⟨by omega, by omega⟩ (fun c79 => ?_) (fun c79 => ?_)
    · skip
      refine w_iload3 dX10_readsTerm_273 ?_
      have hae := hg0 (by omega)
      unfold zbI at hb
      have hfin : zTu tx L i = u ∧ zTp tx L i = pl ∧ zsk tx L (zTq tx L i) = q := ⟨hae.1.symm, hae.2.1.symm, hae.2.2.symm.trans hqs⟩
      refine wp_if_ne 286 dX10_readsTerm_274 rfl ⟨by omega, by omega⟩ (fun c274 => ?_) (fun c274 => ?_)
      · skip
        refine wp_bipush dX10_readsTerm_286 (by decide) (w_iload4 dX10_readsTerm_288 (wp_bipush dX10_readsTerm_290 (by decide) ?_))
        refine wp_icmp_ne 299 dX10_readsTerm_292 rfl ⟨by omega, by omega⟩ ⟨by omega, by omega⟩ (fun c292 => ?_) (fun c292 => ?_)
        · skip
          refine w_iload4 dX10_readsTerm_299 ?_
          refine w_forget3 ?_
          refine w_forget7 ?_
          first
          | exact L301 _ (fun w => by omega) hfin (by unfold zps0; rw [if_pos (by omega)])
          | exact L301 _ (fun w => by omega) hfin (by unfold zps0; rw [if_neg (by omega)])
        · skip
          refine wp_iconst dX10_readsTerm_295 (wp_goto 301 dX10_readsTerm_296 rfl ?_)
          refine w_forget3 ?_
          refine w_forget7 ?_
          first
          | exact L301 _ (fun w => by omega) hfin (by unfold zps0; rw [if_pos (by omega)])
          | exact L301 _ (fun w => by omega) hfin (by unfold zps0; rw [if_neg (by omega)])
      · skip
        refine w_aload0 dX10_readsTerm_277 (w_aload0 dX10_readsTerm_278 (wp_geti dX10_readsTerm_279 fl_RX10_112 is_445 ?_))
        rw [k5]
        refine wp_puti dX10_readsTerm_282 fl_RX10_125 is_445 rfl ?_
        refine r_v dX10_readsTerm_285 rfl meX10_readsTerm ?_
        refine ⟨fun _ => ?_, fun w => absurd ⟨by omega, by omega⟩ w⟩
        rw [hh, hfin.2.2]
    · skip
      refine w_aload0 dX10_readsTerm_82 ?_
      apply v_i0 (M := mX10_readsTerm) dX10_readsTerm_83 lk_RX10_115 mvX10_here (by decide) meX10_readsTerm is_445 (Nat.le_of_ble_eq_true rfl)
      · exact t_X10_here H'
      intro x83 h83 hP83
      obtain ⟨eh83, ex83⟩ := hP83
      replace eh83 := eh83.symm
      subst eh83
      replace ex83 := ex83.symm
      subst ex83
      refine w_istore8 dX10_readsTerm_86 rfl (by decide) (w_iload8 dX10_readsTerm_88 (wp_bipush dX10_readsTerm_90 (by decide) ?_))
      refine wp_icmp_ne 102 dX10_readsTerm_92 rfl ⟨by omega, by omega⟩ ⟨by omega, by omega⟩ (fun c92 => ?_) (fun c92 => ?_)
      · skip
        refine w_iload8 dX10_readsTerm_102 (wp_bipush dX10_readsTerm_104 (by decide) ?_)
        refine wp_icmp_ne 116 dX10_readsTerm_106 rfl ⟨by omega, by omega⟩ ⟨by omega, by omega⟩ (fun c106 => ?_) (fun c106 => ?_)
        · skip
          refine w_iload8 dX10_readsTerm_116 (wp_bipush dX10_readsTerm_118 (by decide) ?_)
          refine wp_icmp_ne 134 dX10_readsTerm_120 rfl ⟨by omega, by omega⟩ ⟨by omega, by omega⟩ (fun c120 => ?_) (fun c120 => ?_)
          · skip
            refine wp_iconst dX10_readsTerm_134 ?_
            refine w_forget7 ?_
            first
            | exact L135 _ 1 (by omega) rfl ⟨Or.inr rfl, fun _ => zcan_y hcI hx hy ht (by first | exact Or.inl ⟨by assumption, by assumption⟩ | exact Or.inr (Or.inl ⟨by assumption, by assumption⟩) | exact Or.inr (Or.inr ⟨by omega, by omega⟩)), fun _ => rfl⟩
            | exact L135 _ 0 (by omega) rfl ⟨Or.inl rfl, fun w => absurd w (by decide), fun w => by exfalso; have := zcan_z hcI hx hy ht w; omega⟩
          · skip
            refine w_iload6 dX10_readsTerm_123 (wp_bipush dX10_readsTerm_125 (by decide) ?_)
            refine wp_icmp_ne 134 dX10_readsTerm_127 rfl ⟨by omega, by omega⟩ ⟨by omega, by omega⟩ (fun c127 => ?_) (fun c127 => ?_)
            · skip
              refine wp_iconst dX10_readsTerm_134 ?_
              refine w_forget7 ?_
              first
              | exact L135 _ 1 (by omega) rfl ⟨Or.inr rfl, fun _ => zcan_y hcI hx hy ht (by first | exact Or.inl ⟨by assumption, by assumption⟩ | exact Or.inr (Or.inl ⟨by assumption, by assumption⟩) | exact Or.inr (Or.inr ⟨by omega, by omega⟩)), fun _ => rfl⟩
              | exact L135 _ 0 (by omega) rfl ⟨Or.inl rfl, fun w => absurd w (by decide), fun w => by exfalso; have := zcan_z hcI hx hy ht w; omega⟩
            · skip
              refine wp_iconst dX10_readsTerm_130 (wp_goto 135 dX10_readsTerm_131 rfl ?_)
              refine w_forget7 ?_
              first
              | exact L135 _ 1 (by omega) rfl ⟨Or.inr rfl, fun _ => zcan_y hcI hx hy ht (by first | exact Or.inl ⟨by assumption, by assumption⟩ | exact Or.inr (Or.inl ⟨by assumption, by assumption⟩) | exact Or.inr (Or.inr ⟨by omega, by omega⟩)), fun _ => rfl⟩
              | exact L135 _ 0 (by omega) rfl ⟨Or.inl rfl, fun w => absurd w (by decide), fun w => by exfalso; have := zcan_z hcI hx hy ht w; omega⟩
        · skip
          refine w_iload5 dX10_readsTerm_109 (wp_bipush dX10_readsTerm_111 (by decide) ?_)
          refine wp_icmp_eq 130 dX10_readsTerm_113 rfl ⟨by omega, by omega⟩ ⟨by omega, by omega⟩ (fun c113 => ?_) (fun c113 => ?_)
          · skip
            refine wp_iconst dX10_readsTerm_130 (wp_goto 135 dX10_readsTerm_131 rfl ?_)
            refine w_forget7 ?_
            first
            | exact L135 _ 1 (by omega) rfl ⟨Or.inr rfl, fun _ => zcan_y hcI hx hy ht (by first | exact Or.inl ⟨by assumption, by assumption⟩ | exact Or.inr (Or.inl ⟨by assumption, by assumption⟩) | exact Or.inr (Or.inr ⟨by omega, by omega⟩)), fun _ => rfl⟩
            | exact L135 _ 0 (by omega) rfl ⟨Or.inl rfl, fun w => absurd w (by decide), fun w => by exfalso; have := zcan_z hcI hx hy ht w; omega⟩
          · skip
            refine w_iload8 dX10_readsTerm_116 (wp_bipush dX10_readsTerm_118 (by decide) ?_)
            refine wp_icmp_ne 134 dX10_readsTerm_120 rfl ⟨by omega, by omega⟩ ⟨by omega, by omega⟩ (fun c120 => ?_) (fun c120 => ?_)
            · skip
              refine wp_iconst dX10_readsTerm_134 ?_
              refine w_forget7 ?_
              first
              | exact L135 _ 1 (by omega) rfl ⟨Or.inr rfl, fun _ => zcan_y hcI hx hy ht (by first | exact Or.inl ⟨by assumption, by assumption⟩ | exact Or.inr (Or.inl ⟨by assumption, by assumption⟩) | exact Or.inr (Or.inr ⟨by omega, by omega⟩)), fun _ => rfl⟩
              | exact L135 _ 0 (by omega) rfl ⟨Or.inl rfl, fun w => absurd w (by decide), fun w => by exfalso; have := zcan_z hcI hx hy ht w; omega⟩
            · skip
              refine w_iload6 dX10_readsTerm_123 (wp_bipush dX10_readsTerm_125 (by decide) ?_)
              refine wp_icmp_ne 134 dX10_readsTerm_127 rfl ⟨by omega, by omega⟩ ⟨by omega, by omega⟩ (fun c127 => ?_) (fun c127 => ?_)
              · skip
                refine wp_iconst dX10_readsTerm_134 ?_
                refine w_forget7 ?_
                first
                | exact L135 _ 1 (by omega) rfl ⟨Or.inr rfl, fun _ => zcan_y hcI hx hy ht (by first | exact Or.inl ⟨by assumption, by assumption⟩ | exact Or.inr (Or.inl ⟨by assumption, by assumption⟩) | exact Or.inr (Or.inr ⟨by omega, by omega⟩)), fun _ => rfl⟩
                | exact L135 _ 0 (by omega) rfl ⟨Or.inl rfl, fun w => absurd w (by decide), fun w => by exfalso; have := zcan_z hcI hx hy ht w; omega⟩
              · skip
                refine wp_iconst dX10_readsTerm_130 (wp_goto 135 dX10_readsTerm_131 rfl ?_)
                refine w_forget7 ?_
                first
                | exact L135 _ 1 (by omega) rfl ⟨Or.inr rfl, fun _ => zcan_y hcI hx hy ht (by first | exact Or.inl ⟨by assumption, by assumption⟩ | exact Or.inr (Or.inl ⟨by assumption, by assumption⟩) | exact Or.inr (Or.inr ⟨by omega, by omega⟩)), fun _ => rfl⟩
                | exact L135 _ 0 (by omega) rfl ⟨Or.inl rfl, fun w => absurd w (by decide), fun w => by exfalso; have := zcan_z hcI hx hy ht w; omega⟩
      · skip
        refine w_iload4 dX10_readsTerm_95 (wp_bipush dX10_readsTerm_97 (by decide) ?_)
        refine wp_icmp_eq 130 dX10_readsTerm_99 rfl ⟨by omega, by omega⟩ ⟨by omega, by omega⟩ (fun c99 => ?_) (fun c99 => ?_)
        · skip
          refine wp_iconst dX10_readsTerm_130 (wp_goto 135 dX10_readsTerm_131 rfl ?_)
          refine w_forget7 ?_
          first
          | exact L135 _ 1 (by omega) rfl ⟨Or.inr rfl, fun _ => zcan_y hcI hx hy ht (by first | exact Or.inl ⟨by assumption, by assumption⟩ | exact Or.inr (Or.inl ⟨by assumption, by assumption⟩) | exact Or.inr (Or.inr ⟨by omega, by omega⟩)), fun _ => rfl⟩
          | exact L135 _ 0 (by omega) rfl ⟨Or.inl rfl, fun w => absurd w (by decide), fun w => by exfalso; have := zcan_z hcI hx hy ht w; omega⟩
        · skip
          refine w_iload8 dX10_readsTerm_102 (wp_bipush dX10_readsTerm_104 (by decide) ?_)
          refine wp_icmp_ne 116 dX10_readsTerm_106 rfl ⟨by omega, by omega⟩ ⟨by omega, by omega⟩ (fun c106 => ?_) (fun c106 => ?_)
          · skip
            refine w_iload8 dX10_readsTerm_116 (wp_bipush dX10_readsTerm_118 (by decide) ?_)
            refine wp_icmp_ne 134 dX10_readsTerm_120 rfl ⟨by omega, by omega⟩ ⟨by omega, by omega⟩ (fun c120 => ?_) (fun c120 => ?_)
            · skip
              refine wp_iconst dX10_readsTerm_134 ?_
              refine w_forget7 ?_
              first
              | exact L135 _ 1 (by omega) rfl ⟨Or.inr rfl, fun _ => zcan_y hcI hx hy ht (by first | exact Or.inl ⟨by assumption, by assumption⟩ | exact Or.inr (Or.inl ⟨by assumption, by assumption⟩) | exact Or.inr (Or.inr ⟨by omega, by omega⟩)), fun _ => rfl⟩
              | exact L135 _ 0 (by omega) rfl ⟨Or.inl rfl, fun w => absurd w (by decide), fun w => by exfalso; have := zcan_z hcI hx hy ht w; omega⟩
            · skip
              refine w_iload6 dX10_readsTerm_123 (wp_bipush dX10_readsTerm_125 (by decide) ?_)
              refine wp_icmp_ne 134 dX10_readsTerm_127 rfl ⟨by omega, by omega⟩ ⟨by omega, by omega⟩ (fun c127 => ?_) (fun c127 => ?_)
              · skip
                refine wp_iconst dX10_readsTerm_134 ?_
                refine w_forget7 ?_
                first
                | exact L135 _ 1 (by omega) rfl ⟨Or.inr rfl, fun _ => zcan_y hcI hx hy ht (by first | exact Or.inl ⟨by assumption, by assumption⟩ | exact Or.inr (Or.inl ⟨by assumption, by assumption⟩) | exact Or.inr (Or.inr ⟨by omega, by omega⟩)), fun _ => rfl⟩
                | exact L135 _ 0 (by omega) rfl ⟨Or.inl rfl, fun w => absurd w (by decide), fun w => by exfalso; have := zcan_z hcI hx hy ht w; omega⟩
              · skip
                refine wp_iconst dX10_readsTerm_130 (wp_goto 135 dX10_readsTerm_131 rfl ?_)
                refine w_forget7 ?_
                first
                | exact L135 _ 1 (by omega) rfl ⟨Or.inr rfl, fun _ => zcan_y hcI hx hy ht (by first | exact Or.inl ⟨by assumption, by assumption⟩ | exact Or.inr (Or.inl ⟨by assumption, by assumption⟩) | exact Or.inr (Or.inr ⟨by omega, by omega⟩)), fun _ => rfl⟩
                | exact L135 _ 0 (by omega) rfl ⟨Or.inl rfl, fun w => absurd w (by decide), fun w => by exfalso; have := zcan_z hcI hx hy ht w; omega⟩
          · skip
            refine w_iload5 dX10_readsTerm_109 (wp_bipush dX10_readsTerm_111 (by decide) ?_)
            refine wp_icmp_eq 130 dX10_readsTerm_113 rfl ⟨by omega, by omega⟩ ⟨by omega, by omega⟩ (fun c113 => ?_) (fun c113 => ?_)
            · skip
              refine wp_iconst dX10_readsTerm_130 (wp_goto 135 dX10_readsTerm_131 rfl ?_)
              refine w_forget7 ?_
              first
              | exact L135 _ 1 (by omega) rfl ⟨Or.inr rfl, fun _ => zcan_y hcI hx hy ht (by first | exact Or.inl ⟨by assumption, by assumption⟩ | exact Or.inr (Or.inl ⟨by assumption, by assumption⟩) | exact Or.inr (Or.inr ⟨by omega, by omega⟩)), fun _ => rfl⟩
              | exact L135 _ 0 (by omega) rfl ⟨Or.inl rfl, fun w => absurd w (by decide), fun w => by exfalso; have := zcan_z hcI hx hy ht w; omega⟩
            · skip
              refine w_iload8 dX10_readsTerm_116 (wp_bipush dX10_readsTerm_118 (by decide) ?_)
              refine wp_icmp_ne 134 dX10_readsTerm_120 rfl ⟨by omega, by omega⟩ ⟨by omega, by omega⟩ (fun c120 => ?_) (fun c120 => ?_)
              · skip
                refine wp_iconst dX10_readsTerm_134 ?_
                refine w_forget7 ?_
                first
                | exact L135 _ 1 (by omega) rfl ⟨Or.inr rfl, fun _ => zcan_y hcI hx hy ht (by first | exact Or.inl ⟨by assumption, by assumption⟩ | exact Or.inr (Or.inl ⟨by assumption, by assumption⟩) | exact Or.inr (Or.inr ⟨by omega, by omega⟩)), fun _ => rfl⟩
                | exact L135 _ 0 (by omega) rfl ⟨Or.inl rfl, fun w => absurd w (by decide), fun w => by exfalso; have := zcan_z hcI hx hy ht w; omega⟩
              · skip
                refine w_iload6 dX10_readsTerm_123 (wp_bipush dX10_readsTerm_125 (by decide) ?_)
                refine wp_icmp_ne 134 dX10_readsTerm_127 rfl ⟨by omega, by omega⟩ ⟨by omega, by omega⟩ (fun c127 => ?_) (fun c127 => ?_)
                · skip
                  refine wp_iconst dX10_readsTerm_134 ?_
                  refine w_forget7 ?_
                  first
                  | exact L135 _ 1 (by omega) rfl ⟨Or.inr rfl, fun _ => zcan_y hcI hx hy ht (by first | exact Or.inl ⟨by assumption, by assumption⟩ | exact Or.inr (Or.inl ⟨by assumption, by assumption⟩) | exact Or.inr (Or.inr ⟨by omega, by omega⟩)), fun _ => rfl⟩
                  | exact L135 _ 0 (by omega) rfl ⟨Or.inl rfl, fun w => absurd w (by decide), fun w => by exfalso; have := zcan_z hcI hx hy ht w; omega⟩
                · skip
                  refine wp_iconst dX10_readsTerm_130 (wp_goto 135 dX10_readsTerm_131 rfl ?_)
                  refine w_forget7 ?_
                  first
                  | exact L135 _ 1 (by omega) rfl ⟨Or.inr rfl, fun _ => zcan_y hcI hx hy ht (by first | exact Or.inl ⟨by assumption, by assumption⟩ | exact Or.inr (Or.inl ⟨by assumption, by assumption⟩) | exact Or.inr (Or.inr ⟨by omega, by omega⟩)), fun _ => rfl⟩
                  | exact L135 _ 0 (by omega) rfl ⟨Or.inl rfl, fun w => absurd w (by decide), fun w => by exfalso; have := zcan_z hcI hx hy ht w; omega⟩
  have L62 : ∀ (h' : zH) (vn b : Int), (h' = zup h 445 5 (zsk tx L (zTm tx L i) : Int)) → (vn = zTz tx L i) → ((b = 0 ∧ zTn tx L i < 0) ∨ (b = 1 ∧ 0 ≤ zTn tx L i)) → WP mX10_readsTerm (zMQ mX10_readsTerm (zKV (fun r_ => (zTn tx L i < 0 ∧ zTu tx L i = 0 → r_ = zup (zup h 445 5 (zsk tx L (zTq tx L i) : Int)) 445 6 (zsk tx L (zTq tx L i) : Int)) ∧ (¬ (zTn tx L i < 0 ∧ zTu tx L i = 0) → r_ = zfl (zup h 445 5 (zsk tx L (zTq tx L i) : Int)) 449 27 (ztS p neg (zTz tx L i) (zTa tx L i) (h 449)))))) 62 [some (vR 445), some (vI sg), some (vI vn), some (vI b), none, none, none, none, none, none] [] zN zGR h' := by
    intro h' vn b hh hvn hb
    refine wp_bipush dX10_readsTerm_62 (by decide) (w_istore4 dX10_readsTerm_64 rfl (by decide) (wp_bipush dX10_readsTerm_66 (by decide) (w_istore5 dX10_readsTerm_68 rfl (by decide) (wp_bipush dX10_readsTerm_70 (by decide) (w_istore6 dX10_readsTerm_72 rfl (by decide) (wp_iconst dX10_readsTerm_74 (w_istore7 dX10_readsTerm_75 rfl (by decide) ?_)))))))
    exact L77 _ 3 0 0 (zsk tx L (zTm tx L i)) _ _ _ _ _ _ _ rfl hh hsk2.2 (zsk_sk hm.2) hvn (by unfold zbI; omega) (by decide) rfl ⟨fun q => absurd q (by decide), fun _ => rfl⟩ ⟨fun q => absurd q (by decide), fun _ => rfl⟩ ⟨fun q => absurd q (by decide), fun _ => rfl⟩ (by decide) (Or.inr rfl) (fun q => absurd q (by decide)) (fun _ => zfa_ae hm.2)
  have L16 : ∀ (zm16 : Nat) (n q : Nat) (h' : zH) (vn b3 : Int) (v : Int), 3 - n = zm16 → (n ≤ 3) → (q ≤ L) → (h' = zup h 445 5 (q : Int)) → (znr tx L (3 - n) v q = znr tx L 3 (-1) i) → (vn = max v 0) → ((n = 0 ∧ q = i ∧ v = -1) ∨ (n = 1 ∧ 0 ≤ v ∧ v ≤ 9) ∨ (n = 2 ∧ 0 ≤ v ∧ v ≤ 99) ∨ (n = 3 ∧ 0 ≤ v ∧ v ≤ 999)) → (48 ≤ zpeek tx L i ∧ zpeek tx L i ≤ 57) → (b3 = 1) → WP mX10_readsTerm (zMQ mX10_readsTerm (zKV (fun r_ => (zTn tx L i < 0 ∧ zTu tx L i = 0 → r_ = zup (zup h 445 5 (zsk tx L (zTq tx L i) : Int)) 445 6 (zsk tx L (zTq tx L i) : Int)) ∧ (¬ (zTn tx L i < 0 ∧ zTu tx L i = 0) → r_ = zfl (zup h 445 5 (zsk tx L (zTq tx L i) : Int)) 449 27 (ztS p neg (zTz tx L i) (zTa tx L i) (h 449)))))) 16 [some (vR 445), some (vI sg), some (vI vn), some (vI b3), some (vI (n : Int)), none, none, none, none, none] [] zN zGR h' := by
    intro zm16
    induction zm16 using Nat.strongRecOn with | _ zm16 ih16 => ?_
    intro n q h' vn b3 v hzm16 hn hqL hh hz hv hv2 hd hb3
    subst hzm16
    have H' : zTy tx L q h' := by rw [hh]; exact zTy_up H hqL
    have hcq := zTy_c H' q
    have k5 : h' 445 5 = (q : Int) := H'.2.2.1
    refine w_iload4 dX10_readsTerm_16 (wp_iconst dX10_readsTerm_18 ?_)
    refine wp_icmp_ge 58 dX10_readsTerm_19 rfl ⟨by omega, by omega⟩ ⟨by omega, by omega⟩ (fun c19 => ?_) (fun c19 => ?_)
    · skip
      refine w_aload0 dX10_readsTerm_58 ?_
      apply v_v0 (M := mX10_readsTerm) dX10_readsTerm_59 lk_RX10_122 mvX10_skips (by decide) meX10_readsTerm is_445 (Nat.le_of_ble_eq_true rfl)
      · exact t_X10_skips H'
      intro h59 hP59
      replace hP59 := hP59.symm
      subst hP59
      refine w_forget4 ?_
      have e : znr tx L 3 (-1) i = (v, q) := by
        rw [← hz]
        by_cases w : n = 3
        · rw [w]; rfl
        · rw [show 3 - n = 3 - (n + 1) + 1 by omega]
          exact if_neg (by omega)
      have e1 : zTn tx L i = v := by unfold zTn; rw [e]
      have hn0 : n ≠ 0 := fun w => by
        have hqi : q = i := by omega
        rw [hqi] at hcq
        first | omega | (rw [hqi] at hP23; omega)
      have e2 : zTm tx L i = q := by unfold zTm; rw [e]
      exact L62 _ _ _ (by rw [e2, hh, zup_up]) (by rw [hzz.2 (by omega), e1]; omega) (Or.inr ⟨by omega, by omega⟩)
    · skip
      refine w_aload0 dX10_readsTerm_22 ?_
      apply v_i0 (M := mX10_readsTerm) dX10_readsTerm_23 lk_RX10_118 mvX10_isDigit (by decide) meX10_readsTerm is_445 (Nat.le_of_ble_eq_true rfl)
      · exact t_X10_isDigit H'
      intro x23 h23 hP23
      obtain ⟨eh23, hP23⟩ := hP23
      replace eh23 := eh23.symm
      subst eh23
      refine wp_if_eq 58 dX10_readsTerm_26 rfl ⟨by omega, by omega⟩ (fun c26 => ?_) (fun c26 => ?_)
      · skip
        refine w_aload0 dX10_readsTerm_58 ?_
        apply v_v0 (M := mX10_readsTerm) dX10_readsTerm_59 lk_RX10_122 mvX10_skips (by decide) meX10_readsTerm is_445 (Nat.le_of_ble_eq_true rfl)
        · exact t_X10_skips H'
        intro h59 hP59
        replace hP59 := hP59.symm
        subst hP59
        refine w_forget4 ?_
        have e : znr tx L 3 (-1) i = (v, q) := by
          rw [← hz]
          by_cases w : n = 3
          · rw [w]; rfl
          · rw [show 3 - n = 3 - (n + 1) + 1 by omega]
            exact if_neg (by omega)
        have e1 : zTn tx L i = v := by unfold zTn; rw [e]
        have hn0 : n ≠ 0 := fun w => by
          have hqi : q = i := by omega
          rw [hqi] at hcq
          first | omega | (rw [hqi] at hP23; omega)
        have e2 : zTm tx L i = q := by unfold zTm; rw [e]
        exact L62 _ _ _ (by rw [e2, hh, zup_up]) (by rw [hzz.2 (by omega), e1]; omega) (Or.inr ⟨by omega, by omega⟩)
      · skip
        refine wp_bipush dX10_readsTerm_29 (by decide) (w_iload2 dX10_readsTerm_31 (wp_imul dX10_readsTerm_32 (w_aload0 dX10_readsTerm_33 ?_)))
        apply v_i0 (M := mX10_readsTerm) dX10_readsTerm_34 lk_RX10_115 mvX10_here (by decide) meX10_readsTerm is_445 (Nat.le_of_ble_eq_true rfl)
        · exact t_X10_here H'
        intro x34 h34 hP34
        obtain ⟨eh34, ex34⟩ := hP34
        replace eh34 := eh34.symm
        subst eh34
        replace ex34 := ex34.symm
        subst ex34
        refine wp_iadd dX10_readsTerm_37 (wp_bipush dX10_readsTerm_38 (by decide) (wp_isub dX10_readsTerm_40 (w_istore2 dX10_readsTerm_41 rfl (by decide) (w_aload0 dX10_readsTerm_42 (wp_dup dX10_readsTerm_43 rfl (wp_geti dX10_readsTerm_44 fl_RX10_112 is_445 (wp_iconst dX10_readsTerm_47 (wp_iadd dX10_readsTerm_48 ?_))))))))
        rw [k5]
        refine wp_puti dX10_readsTerm_49 fl_RX10_112 is_445 rfl (w_iinc4 dX10_readsTerm_52 rfl (by decide) (wp_goto 16 dX10_readsTerm_55 rfl ?_))
        have hdq : 48 ≤ zpeek tx L q ∧ zpeek tx L q ≤ 57 := by omega
        refine ih16 _ (by omega) (n + 1) (q + 1) _ _ _ (max v 0 * 10 + zpeek tx L q - 48) rfl (by omega) (by omega) ?_ ?_ ?_ ?_ hd hb3
        · rw [hh, zup_up, show (q : Int) + 1 = ((q + 1 : Nat) : Int) by omega]
        · rw [← hz, show 3 - n = 3 - (n + 1) + 1 by omega]
          exact (if_pos hdq).symm
        · omega
        · omega
  refine wp_iconst dX10_readsTerm_0 (w_istore2 dX10_readsTerm_1 rfl (by decide) (w_aload0 dX10_readsTerm_2 ?_))
  apply v_i0 (M := mX10_readsTerm) dX10_readsTerm_3 lk_RX10_118 mvX10_isDigit (by decide) meX10_readsTerm is_445 (Nat.le_of_ble_eq_true rfl)
  · exact t_X10_isDigit H
  intro x3 h3 hP3
  obtain ⟨eh3, hP3⟩ := hP3
  replace eh3 := eh3.symm
  subst eh3
  refine w_istore3 dX10_readsTerm_6 rfl (by decide) (w_iload3 dX10_readsTerm_7 ?_)
  refine wp_if_eq 62 dX10_readsTerm_8 rfl ⟨by omega, by omega⟩ (fun c8 => ?_) (fun c8 => ?_)
  · skip
    have e : zTn tx L i = -1 ∧ zTm tx L i = i := by
      unfold zTn zTm
      have e0 : znr tx L 3 (-1) i = (-1, i) := if_neg (by omega)
      rw [e0]
      exact ⟨rfl, rfl⟩
    exact L62 _ _ _ (by rw [e.2, hsk]; exact (zup_id H.2.2.1).symm) (by rw [hzz.1 (by omega)]) (Or.inl ⟨by omega, by omega⟩)
  · skip
    refine wp_iconst dX10_readsTerm_11 (w_istore2 dX10_readsTerm_12 rfl (by decide) (wp_iconst dX10_readsTerm_13 (w_istore4 dX10_readsTerm_14 rfl (by decide) ?_)))
    exact L16 _ 0 i h 0 _ (-1) rfl (Nat.zero_le _) hiL (zup_id H.2.2.1).symm rfl rfl (Or.inl ⟨rfl, rfl, rfl⟩) (by omega) (by omega)
set_option maxRecDepth 100000 in
set_option maxHeartbeats 4000000 in
theorem t_X10_reads {h : zH} {tx : Nat → Int} {L : Nat} (Hw : h 445 4 = (L : Int) ∧ L ≤ 60 ∧ ∀ j, j < L → h 448 j = tx j ∧ 0 ≤ tx j ∧ tx j < 200) {p : Int} (hp : 5 ≤ p ∧ p ≤ 31) (hp0 : h 446 0 = p) : CI yX10_reads mX10_reads [vR 445] h (fun r h' => zFr zFrs h h' ∧ ((zparse tx L p).1 < 0 → r = -9 ∧ ∀ j, j < 27 → h' 449 j = (zparse tx L p).2 j ∧ 0 ≤ h' 449 j ∧ h' 449 j < p) ∧ (0 ≤ (zparse tx L p).1 → r = (zparse tx L p).1)) := by
  refine inV [some (vR 445), none, none, none] mvX10_reads rfl (Nat.le_of_ble_eq_true rfl) rfl ?_
  have hL60 := Hw.2.1
  have zpl := zparse_le (tx := tx) (L := L) (p := p)
  have sk0 := zsk_le (tx := tx) (Nat.zero_le L)
  have L40 : ∀ (zm40 : Nat) (fl q : Nat) (h' : zH) (mo fi : Int) (S : Nat → Int), fl = zm40 → (q ≤ L) → (zsk tx L q = q) → (h' 445 5 = (q : Int)) → (zFr zFrs h h') → (∀ j, j < 27 → h' 449 j = S j ∧ 0 ≤ S j ∧ S j < p) → (0 ≤ mo ∧ mo ≤ 1) → (0 ≤ fi ∧ fi ≤ 1) → (fl = 0 → (mo = 0 ∧ h' 445 6 = -9 ∧ (zparse tx L p).1 = -1) ∨ (h' 445 6 = (zparse tx L p).1 ∧ 0 ≤ (zparse tx L p).1)) → (fl = 0 → (zparse tx L p).1 = -1 → ∀ j, j < 27 → S j = (zparse tx L p).2 j) → (fl ≠ 0 → mo = 1 ∧ h' 445 6 = -9 ∧ ((fi = 1 ∧ fl = 61) ∨ (fi = 0 ∧ 60 ≤ fl + q))) → (fl ≠ 0 → zGG tx L p fi fl q S = zparse tx L p) → WP mX10_reads (zMQ mX10_reads (zKI (fun r h' => zFr zFrs h h' ∧ ((zparse tx L p).1 < 0 → r = -9 ∧ ∀ j, j < 27 → h' 449 j = (zparse tx L p).2 j ∧ 0 ≤ h' 449 j ∧ h' 449 j < p) ∧ (0 ≤ (zparse tx L p).1 → r = (zparse tx L p).1)))) 40 [some (vR 445), some (vI mo), some (vI fi), none] [] zN zGR h' := by
    intro zm40
    induction zm40 using Nat.strongRecOn with | _ zm40 ih40 => ?_
    intro fl q h' mo fi S hzm40 hqL hqs H5 hF hS hm01 hf01 hA hA2 hB hC
    subst hzm40
    have hfb : -9 ≤ h' 445 6 ∧ h' 445 6 ≤ 60 := by by_cases w : fl = 0 <;> omega
    have h4 : h' 445 4 = (L : Int) := by rw [hF _ _ (by unfold zFrs; omega)]; exact Hw.1
    have H' : zTy tx L q h' := ⟨h4, hL60, H5, hqL, fun j hj => by rw [hF _ _ (by unfold zFrs; omega)]; exact Hw.2.2 j hj⟩
    have hpk : -9 ≤ zhr tx L q ∧ zhr tx L q < 200 ∧ (zhr tx L q = 45 ↔ zpeek tx L q = 45) ∧ (zhr tx L q = 43 ↔ zpeek tx L q = 43) := by rcases zTy_c H' q with ⟨-, a, b, b1, b2⟩ | ⟨-, a, b⟩ <;> omega
    have k446 : h' 446 0 = p := by rw [hF _ _ (by unfold zFrs; omega)]; exact hp0
    have L67 : ∀ (sv : Int), (fl ≠ 0) → (mo = 1) → (sv = if decide (zsg tx L q < 0) = true then -1 else 1) → WP mX10_reads (zMQ mX10_reads (zKI (fun r h' => zFr zFrs h h' ∧ ((zparse tx L p).1 < 0 → r = -9 ∧ ∀ j, j < 27 → h' 449 j = (zparse tx L p).2 j ∧ 0 ≤ h' 449 j ∧ h' 449 j < p) ∧ (0 ≤ (zparse tx L p).1 → r = (zparse tx L p).1)))) 67 [some (vR 445), none, some (vI fi), none] [vI sv] zN zGR h' := by
      intro sv hfl hmo hsv
      have hgc := zsg_c tx L q
      have L115 : ∀ (h2 : zH) (iq : Nat), ((h2 = zup h' 445 5 (iq : Int) ∧ iq = zsk tx L (zsgp tx L q) ∧ (fi = 1 ∨ zsg tx L q ≠ 0)) ∨ (h2 = zup h' 445 6 (q : Int) ∧ fi = 0 ∧ zsg tx L q = 0)) → WP mX10_reads (zMQ mX10_reads (zKI (fun r h' => zFr zFrs h h' ∧ ((zparse tx L p).1 < 0 → r = -9 ∧ ∀ j, j < 27 → h' 449 j = (zparse tx L p).2 j ∧ 0 ≤ h' 449 j ∧ h' 449 j < p) ∧ (0 ≤ (zparse tx L p).1 → r = (zparse tx L p).1)))) 115 [some (vR 445), none, some (vI fi), some (vI sv)] [] zN zGR h2 := by
        intro h2 iq hO
        have sgl := zsgp_le (tx := tx) hqL
        have skl := zsk_le (tx := tx) sgl.2
        have k6 : (h2 445 6 = -9 ∧ (h2 = zup h' 445 5 (iq : Int) ∧ iq = zsk tx L (zsgp tx L q) ∧ (fi = 1 ∨ zsg tx L q ≠ 0))) ∨ (h2 445 6 = (q : Int) ∧ (h2 = zup h' 445 6 (q : Int) ∧ fi = 0 ∧ zsg tx L q = 0)) := by
          rcases hO with w | w
          · left
            refine ⟨?_, w⟩
            rw [w.1, zup_o (by omega)]
            have := hB hfl
            omega
          · right
            refine ⟨?_, w⟩
            rw [w.1, zup_s]
        have k6b : -9 ≤ h2 445 6 ∧ h2 445 6 ≤ 60 := by omega
        have L129 : ∀ (h3 : zH), ((h2 = zup h' 445 5 (iq : Int) ∧ iq = zsk tx L (zsgp tx L q) ∧ (fi = 1 ∨ zsg tx L q ≠ 0) ∧ ((zTn tx L iq < 0 ∧ zTu tx L iq = 0 → h3 = zup (zup h2 445 5 (zsk tx L (zTq tx L iq) : Int)) 445 6 (zsk tx L (zTq tx L iq) : Int)) ∧ (¬ (zTn tx L iq < 0 ∧ zTu tx L iq = 0) → h3 = zfl (zup h2 445 5 (zsk tx L (zTq tx L iq) : Int)) 449 27 (ztS p (decide (zsg tx L q < 0)) (zTz tx L iq) (zTa tx L iq) (h2 449))))) ∨ (h3 = h2 ∧ h2 = zup h' 445 6 (q : Int) ∧ fi = 0 ∧ zsg tx L q = 0)) → WP mX10_reads (zMQ mX10_reads (zKI (fun r h' => zFr zFrs h h' ∧ ((zparse tx L p).1 < 0 → r = -9 ∧ ∀ j, j < 27 → h' 449 j = (zparse tx L p).2 j ∧ 0 ≤ h' 449 j ∧ h' 449 j < p) ∧ (0 ≤ (zparse tx L p).1 → r = (zparse tx L p).1)))) 129 [some (vR 445), none, none, none] [] zN zGR h3 := by
          intro h3 hQ
          have hF3 : zFr zFrs h h3 := fun a j n => by
            have n2 := n
            unfold zFrs at n2
            rcases hQ with ⟨o1, o2, o3, hR⟩ | ⟨o0, o1, o2, o3⟩
            · by_cases hcc : zTn tx L iq < 0 ∧ zTu tx L iq = 0
              · rw [hR.1 hcc, zup_o (by omega), zup_o (by omega), o1, zup_o (by omega)]; exact hF a j n
              · rw [hR.2 hcc, zfl_o (by omega), zup_o (by omega), o1, zup_o (by omega)]; exact hF a j n
            · rw [o0, o1, zup_o (by omega)]; exact hF a j n
          have k34 : h3 445 4 = (L : Int) := by rw [hF3 _ _ (by unfold zFrs; omega)]; exact Hw.1
          have k3b : 0 ≤ h3 445 5 ∧ h3 445 5 ≤ 60 := by
            rcases hQ with ⟨o1, o2, o3, hR⟩ | ⟨o0, o1, o2, o3⟩
            · have tq0 := zTq_le (tx := tx) (L := L) (i := iq) (by omega)
              have sk50 := zsk_le (tx := tx) tq0.2.1
              by_cases hcc : zTn tx L iq < 0 ∧ zTu tx L iq = 0
              · rw [hR.1 hcc, zup_o (by omega), zup_s]; omega
              · rw [hR.2 hcc, zfl_o (by omega), zup_s]; omega
            · rw [o0, o1, zup_o (by omega)]; omega
          refine wp_iconst dX10_reads_129 (w_istore2 dX10_reads_130 rfl (by decide) (w_aload0 dX10_reads_131 (wp_geti dX10_reads_132 fl_RX10_112 is_445 (w_aload0 dX10_reads_135 (wp_geti dX10_reads_136 fl_RX10_109 is_445 ?_)))))
          refine wp_icmp_ge 146 dX10_reads_139 rfl ⟨by omega, by omega⟩ ⟨by omega, by omega⟩ (fun c139 => ?_) (fun c139 => ?_)
          · skip
            refine wp_iconst dX10_reads_146 (w_istore1 dX10_reads_147 rfl (by decide) (wp_goto 40 dX10_reads_148 rfl ?_))
            rcases hQ with ⟨o1, o2, o3, hR⟩ | ⟨o0, o1, o2, o3⟩
            · have k35 : h3 445 5 = (zsk tx L (zTq tx L iq) : Int) := by
                by_cases hcc : zTn tx L iq < 0 ∧ zTu tx L iq = 0
                · rw [hR.1 hcc, zup_o (by omega), zup_s]
                · rw [hR.2 hcc, zfl_o (by omega), zup_s]
              have tq := zTq_le (tx := tx) (L := L) (i := iq) (by omega)
              have sk5 := zsk_le (tx := tx) tq.2.1
              obtain ⟨f', hf'⟩ : ∃ f', fl = f' + 1 := ⟨fl - 1, by omega⟩
              have hz := hC hfl
              have hz2 : zGG tx L p fi fl q S = zps tx L p fl (zsgp tx L q) (decide (zsg tx L q < 0)) S := zif_n (fun w => by omega)
              rw [hz2, hf'] at hz
              unfold zps at hz
              rw [← o2] at hz
              by_cases hcc : zTn tx L iq < 0 ∧ zTu tx L iq = 0
              · rw [if_pos hcc] at hz
                have e3 := hR.1 hcc
                have e4 : zsk tx L (zTq tx L iq) = zTq tx L iq := by
                  rw [zTq_0 hcc.2]
                  exact zsk_sk (zTm_le (tx := tx) (by omega)).2
                have e5 : h3 445 6 = (zTq tx L iq : Int) := by rw [e3, zup_s, e4]
                refine ih40 _ (by omega) 0 (zsk tx L (zTq tx L iq)) _ _ _ S rfl sk5.2 (zsk_sk tq.2.1) k35 hF3 (fun j hj => ?_) (by omega) (by decide) (fun _ => Or.inr ⟨?_, ?_⟩) (fun _ w => ?_) (fun w => absurd rfl w) (fun w => absurd rfl w)
                · rw [e3, zup_o (by omega), zup_o (by omega), o1, zup_o (by omega)]; exact hS j hj
                · rw [e5, ← hz]
                · rw [← hz]; show (0 : Int) ≤ (zTq tx L iq : Int); omega
                · rw [← hz] at w; exact absurd w (by show ¬ ((zTq tx L iq : Int) = -1); omega)
              · rw [if_neg hcc] at hz
                have e3 := hR.2 hcc
                have e6 : h3 445 6 = -9 := by rw [e3, zfl_o (by omega), zup_o (by omega), o1, zup_o (by omega)]; omega
                have e7 : ∀ j, j < 27 → h3 449 j = ztS p (decide (zsg tx L q < 0)) (zTz tx L iq) (zTa tx L iq) S j := fun j hj => by
                  rw [e3, zfl_i hj]
                  unfold ztS
                  rw [o1, zup_o (by omega), (hS j hj).1]
                have e8 := ztS_in (p := p) (by omega) (neg := decide (zsg tx L q < 0)) (z := zTz tx L iq) (a := zTa tx L iq) (fun j hj => (hS j hj).2)
                by_cases hl : L ≤ zsk tx L (zTq tx L iq)
                · rw [if_pos hl] at hz
                  refine ih40 _ (by omega) 0 (zsk tx L (zTq tx L iq)) _ _ _ (ztS p (decide (zsg tx L q < 0)) (zTz tx L iq) (zTa tx L iq) S) rfl sk5.2 (zsk_sk tq.2.1) k35 hF3 (fun j hj => ⟨e7 j hj, e8 j hj⟩) (by omega) (by decide) (fun _ => Or.inl ⟨by omega, e6, ?_⟩) (fun _ w j hj => ?_) (fun w => absurd rfl w) (fun w => absurd rfl w)
                  · rw [← hz]
                  · rw [← hz]
                · rw [if_neg hl] at hz
                  have hq1 : fi = 1 ∧ fl = 61 ∨ q + 1 ≤ zsk tx L (zTq tx L iq) := by
                    rcases o3 with w | w
                    · left
                      have := (hB hfl).2.2
                      omega
                    · right
                      have := zsg_p w
                      omega
                  refine ih40 _ (by omega) f' (zsk tx L (zTq tx L iq)) _ _ _ (ztS p (decide (zsg tx L q < 0)) (zTz tx L iq) (zTa tx L iq) S) rfl sk5.2 (zsk_sk tq.2.1) k35 hF3 (fun j hj => ⟨e7 j hj, e8 j hj⟩) (by omega) (by decide) (fun w => ?_) (fun w => ?_) (fun _ => ⟨by omega, e6, Or.inr ⟨rfl, ?_⟩⟩) (fun _ => ?_)
                  · exfalso
                    have := (hB hfl).2.2
                    omega
                  · exfalso
                    have := (hB hfl).2.2
                    omega
                  · have := (hB hfl).2.2
                    omega
                  · by_cases w : zsg tx L (zsk tx L (zTq tx L iq)) = 0
                    · rw [if_pos w] at hz
                      rw [← hz]
                      exact zif_y ⟨rfl, w⟩
                    · rw [if_neg w] at hz
                      rw [← hz]
                      have h9 : zGG tx L p 0 f' (zsk tx L (zTq tx L iq)) (ztS p (decide (zsg tx L q < 0)) (zTz tx L iq) (zTa tx L iq) S) = zps tx L p f' (zsgp tx L (zsk tx L (zTq tx L iq))) _ _ := zif_n (fun w2 => w w2.2)
                      rw [h9, (zsg_p w).1]
            · have hz := hC hfl
              have hz2 : zGG tx L p fi fl q S = ((q : Int), S) := zif_y ⟨o2, o3⟩
              rw [hz2] at hz
              rw [o0] at hF3 ⊢
              refine ih40 _ (by omega) 0 q _ _ _ S rfl hqL hqs ?_ hF3 (fun j hj => ?_) (by decide) (by decide) (fun _ => Or.inr ⟨?_, ?_⟩) (fun _ w => ?_) (fun w => absurd rfl w) (fun w => absurd rfl w)
              · rw [o1, zup_o (by omega)]; exact H5
              · rw [o1, zup_o (by omega)]; exact hS j hj
              · rw [o1, zup_s, ← hz]
              · rw [← hz]; show (0 : Int) ≤ (q : Int); omega
              · rw [← hz] at w; exact absurd w (by show ¬ ((q : Int) = -1); omega)
          · skip
            refine wp_iconst dX10_reads_142 (wp_goto 147 dX10_reads_143 rfl (w_istore1 dX10_reads_147 rfl (by decide) (wp_goto 40 dX10_reads_148 rfl ?_)))
            rcases hQ with ⟨o1, o2, o3, hR⟩ | ⟨o0, o1, o2, o3⟩
            · have k35 : h3 445 5 = (zsk tx L (zTq tx L iq) : Int) := by
                by_cases hcc : zTn tx L iq < 0 ∧ zTu tx L iq = 0
                · rw [hR.1 hcc, zup_o (by omega), zup_s]
                · rw [hR.2 hcc, zfl_o (by omega), zup_s]
              have tq := zTq_le (tx := tx) (L := L) (i := iq) (by omega)
              have sk5 := zsk_le (tx := tx) tq.2.1
              obtain ⟨f', hf'⟩ : ∃ f', fl = f' + 1 := ⟨fl - 1, by omega⟩
              have hz := hC hfl
              have hz2 : zGG tx L p fi fl q S = zps tx L p fl (zsgp tx L q) (decide (zsg tx L q < 0)) S := zif_n (fun w => by omega)
              rw [hz2, hf'] at hz
              unfold zps at hz
              rw [← o2] at hz
              by_cases hcc : zTn tx L iq < 0 ∧ zTu tx L iq = 0
              · rw [if_pos hcc] at hz
                have e3 := hR.1 hcc
                have e4 : zsk tx L (zTq tx L iq) = zTq tx L iq := by
                  rw [zTq_0 hcc.2]
                  exact zsk_sk (zTm_le (tx := tx) (by omega)).2
                have e5 : h3 445 6 = (zTq tx L iq : Int) := by rw [e3, zup_s, e4]
                refine ih40 _ (by omega) 0 (zsk tx L (zTq tx L iq)) _ _ _ S rfl sk5.2 (zsk_sk tq.2.1) k35 hF3 (fun j hj => ?_) (by omega) (by decide) (fun _ => Or.inr ⟨?_, ?_⟩) (fun _ w => ?_) (fun w => absurd rfl w) (fun w => absurd rfl w)
                · rw [e3, zup_o (by omega), zup_o (by omega), o1, zup_o (by omega)]; exact hS j hj
                · rw [e5, ← hz]
                · rw [← hz]; show (0 : Int) ≤ (zTq tx L iq : Int); omega
                · rw [← hz] at w; exact absurd w (by show ¬ ((zTq tx L iq : Int) = -1); omega)
              · rw [if_neg hcc] at hz
                have e3 := hR.2 hcc
                have e6 : h3 445 6 = -9 := by rw [e3, zfl_o (by omega), zup_o (by omega), o1, zup_o (by omega)]; omega
                have e7 : ∀ j, j < 27 → h3 449 j = ztS p (decide (zsg tx L q < 0)) (zTz tx L iq) (zTa tx L iq) S j := fun j hj => by
                  rw [e3, zfl_i hj]
                  unfold ztS
                  rw [o1, zup_o (by omega), (hS j hj).1]
                have e8 := ztS_in (p := p) (by omega) (neg := decide (zsg tx L q < 0)) (z := zTz tx L iq) (a := zTa tx L iq) (fun j hj => (hS j hj).2)
                by_cases hl : L ≤ zsk tx L (zTq tx L iq)
                · rw [if_pos hl] at hz
                  refine ih40 _ (by omega) 0 (zsk tx L (zTq tx L iq)) _ _ _ (ztS p (decide (zsg tx L q < 0)) (zTz tx L iq) (zTa tx L iq) S) rfl sk5.2 (zsk_sk tq.2.1) k35 hF3 (fun j hj => ⟨e7 j hj, e8 j hj⟩) (by omega) (by decide) (fun _ => Or.inl ⟨by omega, e6, ?_⟩) (fun _ w j hj => ?_) (fun w => absurd rfl w) (fun w => absurd rfl w)
                  · rw [← hz]
                  · rw [← hz]
                · rw [if_neg hl] at hz
                  have hq1 : fi = 1 ∧ fl = 61 ∨ q + 1 ≤ zsk tx L (zTq tx L iq) := by
                    rcases o3 with w | w
                    · left
                      have := (hB hfl).2.2
                      omega
                    · right
                      have := zsg_p w
                      omega
                  refine ih40 _ (by omega) f' (zsk tx L (zTq tx L iq)) _ _ _ (ztS p (decide (zsg tx L q < 0)) (zTz tx L iq) (zTa tx L iq) S) rfl sk5.2 (zsk_sk tq.2.1) k35 hF3 (fun j hj => ⟨e7 j hj, e8 j hj⟩) (by omega) (by decide) (fun w => ?_) (fun w => ?_) (fun _ => ⟨by omega, e6, Or.inr ⟨rfl, ?_⟩⟩) (fun _ => ?_)
                  · exfalso
                    have := (hB hfl).2.2
                    omega
                  · exfalso
                    have := (hB hfl).2.2
                    omega
                  · have := (hB hfl).2.2
                    omega
                  · by_cases w : zsg tx L (zsk tx L (zTq tx L iq)) = 0
                    · rw [if_pos w] at hz
                      rw [← hz]
                      exact zif_y ⟨rfl, w⟩
                    · rw [if_neg w] at hz
                      rw [← hz]
                      have h9 : zGG tx L p 0 f' (zsk tx L (zTq tx L iq)) (ztS p (decide (zsg tx L q < 0)) (zTz tx L iq) (zTa tx L iq) S) = zps tx L p f' (zsgp tx L (zsk tx L (zTq tx L iq))) _ _ := zif_n (fun w2 => w w2.2)
                      rw [h9, (zsg_p w).1]
            · have hz := hC hfl
              have hz2 : zGG tx L p fi fl q S = ((q : Int), S) := zif_y ⟨o2, o3⟩
              rw [hz2] at hz
              rw [o0] at hF3 ⊢
              refine ih40 _ (by omega) 0 q _ _ _ S rfl hqL hqs ?_ hF3 (fun j hj => ?_) (by decide) (by decide) (fun _ => Or.inr ⟨?_, ?_⟩) (fun _ w => ?_) (fun w => absurd rfl w) (fun w => absurd rfl w)
              · rw [o1, zup_o (by omega)]; exact H5
              · rw [o1, zup_o (by omega)]; exact hS j hj
              · rw [o1, zup_s, ← hz]
              · rw [← hz]; show (0 : Int) ≤ (q : Int); omega
              · rw [← hz] at w; exact absurd w (by show ¬ ((q : Int) = -1); omega)
        refine w_aload0 dX10_reads_115 (wp_geti dX10_reads_116 fl_RX10_125 is_445 (wp_bipush dX10_reads_119 (by decide) ?_))
        refine wp_icmp_ne 129 dX10_reads_121 rfl ⟨by omega, by omega⟩ ⟨by omega, by omega⟩ (fun c121 => ?_) (fun c121 => ?_)
        · skip
          refine w_forget2 ?_
          refine w_forget3 ?_
          first
          | exact L129 _ (Or.inl ⟨q1, q2, q3, hP126⟩)
          | (rcases k6 with w | w
             · exact absurd w.1 c121
             · exact L129 _ (Or.inr ⟨rfl, w.2⟩))
        · skip
          have k7 : h2 = zup h' 445 5 (iq : Int) ∧ iq = zsk tx L (zsgp tx L q) ∧ (fi = 1 ∨ zsg tx L q ≠ 0) := by
            rcases k6 with w | w
            · exact w.2
            · have := w.1; omega
          obtain ⟨q1, q2, q3⟩ := k7
          refine w_aload0 dX10_reads_124 (w_iload3 dX10_reads_125 ?_)
          apply v_v1 (M := mX10_reads) dX10_reads_126 lk_RX10_131 mvX10_readsTerm (by decide) meX10_reads is_445 (Nat.le_of_ble_eq_true rfl)
          · exact t_X10_readsTerm (i := iq) (neg := decide (zsg tx L q < 0)) (by rw [q1]; exact zTy_up H' (by omega)) (by rw [q2]; exact zsk_sk sgl.2) hsv hp (by rw [q1, zup_o (by omega)]; exact k446) (fun j hj => by rw [q1, zup_o (by omega), (hS j hj).1]; exact (hS j hj).2)
          intro h126 hP126
          refine w_forget2 ?_
          refine w_forget3 ?_
          first
          | exact L129 _ (Or.inl ⟨q1, q2, q3, hP126⟩)
          | (rcases k6 with w | w
             · exact absurd w.1 c121
             · exact L129 _ (Or.inr ⟨rfl, w.2⟩))
      refine w_istore3 dX10_reads_67 rfl (by decide) (w_aload0 dX10_reads_68 ?_)
      apply v_i0 (M := mX10_reads) dX10_reads_69 lk_RX10_115 mvX10_here (by decide) meX10_reads is_445 (Nat.le_of_ble_eq_true rfl)
      · exact t_X10_here H'
      intro x69 h69 hP69
      obtain ⟨eh69, ex69⟩ := hP69
      replace eh69 := eh69.symm
      subst eh69
      replace ex69 := ex69.symm
      subst ex69
      refine wp_bipush dX10_reads_72 (by decide) ?_
      refine wp_icmp_eq 86 dX10_reads_74 rfl ⟨by omega, by omega⟩ ⟨by omega, by omega⟩ (fun c74 => ?_) (fun c74 => ?_)
      · skip
        have hpk0 : zhr tx L q ≠ -9 := by omega
        refine w_aload0 dX10_reads_86 (wp_dup dX10_reads_87 rfl (wp_geti dX10_reads_88 fl_RX10_112 is_445 (wp_iconst dX10_reads_91 (wp_iadd dX10_reads_92 (wp_puti dX10_reads_93 fl_RX10_112 is_445 rfl (w_aload0 dX10_reads_96 ?_))))))
        apply v_v0 (M := mX10_reads) dX10_reads_97 lk_RX10_122 mvX10_skips (by decide) meX10_reads is_445 (Nat.le_of_ble_eq_true rfl)
        · exact t_X10_skips (tx := tx) (L := L) (i := q + 1) (by rw [H5]; exact zTy_up H' (by have := zhr_lt hpk0; omega))
        intro h97 hP97
        replace hP97 := hP97.symm
        subst hP97
        refine wp_goto 115 dX10_reads_100 rfl ?_
        first
        | (have c9 : zsg tx L q = 0 ∧ zsgp tx L q = q := by omega
           first
           | (have c8 : fi = 0 := by omega
              exact L115 _ q (Or.inr ⟨rfl, c8, c9.1⟩))
           | exact L115 _ q (Or.inl ⟨(zup_id H5).symm, by rw [c9.2, hqs], Or.inl (by omega)⟩))
        | (have c9 : zsg tx L q ≠ 0 ∧ zsgp tx L q = q + 1 := by omega
           exact L115 _ (zsk tx L (q + 1)) (Or.inl ⟨by rw [zup_up], by rw [c9.2], Or.inr c9.1⟩))
      · skip
        refine w_aload0 dX10_reads_77 ?_
        apply v_i0 (M := mX10_reads) dX10_reads_78 lk_RX10_115 mvX10_here (by decide) meX10_reads is_445 (Nat.le_of_ble_eq_true rfl)
        · exact t_X10_here H'
        intro x78 h78 hP78
        obtain ⟨eh78, ex78⟩ := hP78
        replace eh78 := eh78.symm
        subst eh78
        replace ex78 := ex78.symm
        subst ex78
        refine wp_bipush dX10_reads_81 (by decide) ?_
        refine wp_icmp_ne 103 dX10_reads_83 rfl ⟨by omega, by omega⟩ ⟨by omega, by omega⟩ (fun c83 => ?_) (fun c83 => ?_)
        · skip
          refine w_iload2 dX10_reads_103 ?_
          refine wp_if_ne 115 dX10_reads_104 rfl ⟨by omega, by omega⟩ (fun c104 => ?_) (fun c104 => ?_)
          · skip
            first
            | (have c9 : zsg tx L q = 0 ∧ zsgp tx L q = q := by omega
               first
               | (have c8 : fi = 0 := by omega
                  exact L115 _ q (Or.inr ⟨rfl, c8, c9.1⟩))
               | exact L115 _ q (Or.inl ⟨(zup_id H5).symm, by rw [c9.2, hqs], Or.inl (by omega)⟩))
            | (have c9 : zsg tx L q ≠ 0 ∧ zsgp tx L q = q + 1 := by omega
               exact L115 _ (zsk tx L (q + 1)) (Or.inl ⟨by rw [zup_up], by rw [c9.2], Or.inr c9.1⟩))
          · skip
            refine w_aload0 dX10_reads_107 (w_aload0 dX10_reads_108 (wp_geti dX10_reads_109 fl_RX10_112 is_445 ?_))
            rw [H5]
            refine wp_puti dX10_reads_112 fl_RX10_125 is_445 rfl ?_
            first
            | (have c9 : zsg tx L q = 0 ∧ zsgp tx L q = q := by omega
               first
               | (have c8 : fi = 0 := by omega
                  exact L115 _ q (Or.inr ⟨rfl, c8, c9.1⟩))
               | exact L115 _ q (Or.inl ⟨(zup_id H5).symm, by rw [c9.2, hqs], Or.inl (by omega)⟩))
            | (have c9 : zsg tx L q ≠ 0 ∧ zsgp tx L q = q + 1 := by omega
               exact L115 _ (zsk tx L (q + 1)) (Or.inl ⟨by rw [zup_up], by rw [c9.2], Or.inr c9.1⟩))
        · skip
          have hpk0 : zhr tx L q ≠ -9 := by omega
          refine w_aload0 dX10_reads_86 (wp_dup dX10_reads_87 rfl (wp_geti dX10_reads_88 fl_RX10_112 is_445 (wp_iconst dX10_reads_91 (wp_iadd dX10_reads_92 (wp_puti dX10_reads_93 fl_RX10_112 is_445 rfl (w_aload0 dX10_reads_96 ?_))))))
          apply v_v0 (M := mX10_reads) dX10_reads_97 lk_RX10_122 mvX10_skips (by decide) meX10_reads is_445 (Nat.le_of_ble_eq_true rfl)
          · exact t_X10_skips (tx := tx) (L := L) (i := q + 1) (by rw [H5]; exact zTy_up H' (by have := zhr_lt hpk0; omega))
          intro h97 hP97
          replace hP97 := hP97.symm
          subst hP97
          refine wp_goto 115 dX10_reads_100 rfl ?_
          first
          | (have c9 : zsg tx L q = 0 ∧ zsgp tx L q = q := by omega
             first
             | (have c8 : fi = 0 := by omega
                exact L115 _ q (Or.inr ⟨rfl, c8, c9.1⟩))
             | exact L115 _ q (Or.inl ⟨(zup_id H5).symm, by rw [c9.2, hqs], Or.inl (by omega)⟩))
          | (have c9 : zsg tx L q ≠ 0 ∧ zsgp tx L q = q + 1 := by omega
             exact L115 _ (zsk tx L (q + 1)) (Or.inl ⟨by rw [zup_up], by rw [c9.2], Or.inr c9.1⟩))
    refine w_iload1 dX10_reads_40 ?_
    refine wp_if_eq 151 dX10_reads_41 rfl ⟨by omega, by omega⟩ (fun c41 => ?_) (fun c41 => ?_)
    · skip
      refine w_aload0 dX10_reads_151 (wp_geti dX10_reads_152 fl_RX10_125 is_445 ?_)
      refine r_i dX10_reads_155 rfl meX10_reads ?_
      have hf0 : fl = 0 := by
        by_cases w : fl = 0
        · exact w
        · exfalso
          have := hB w
          omega
      refine ⟨hF, fun w => ?_, fun w => ?_⟩
      · have hr := hA hf0
        have e := hA2 hf0 (by omega)
        refine ⟨by omega, fun j hj => ?_⟩
        have w1 := hS j hj
        exact ⟨w1.1.trans (e j hj), by omega, by omega⟩
      · have hr := hA hf0
        omega
    · skip
      refine w_aload0 dX10_reads_44 (wp_geti dX10_reads_45 fl_RX10_125 is_445 (wp_bipush dX10_reads_48 (by decide) ?_))
      refine wp_icmp_ne 151 dX10_reads_50 rfl ⟨by omega, by omega⟩ ⟨by omega, by omega⟩ (fun c50 => ?_) (fun c50 => ?_)
      · skip
        refine w_aload0 dX10_reads_151 (wp_geti dX10_reads_152 fl_RX10_125 is_445 ?_)
        refine r_i dX10_reads_155 rfl meX10_reads ?_
        have hf0 : fl = 0 := by
          by_cases w : fl = 0
          · exact w
          · exfalso
            have := hB w
            omega
        refine ⟨hF, fun w => ?_, fun w => ?_⟩
        · have hr := hA hf0
          have e := hA2 hf0 (by omega)
          refine ⟨by omega, fun j hj => ?_⟩
          have w1 := hS j hj
          exact ⟨w1.1.trans (e j hj), by omega, by omega⟩
        · have hr := hA hf0
          omega
      · skip
        refine w_aload0 dX10_reads_53 ?_
        apply v_i0 (M := mX10_reads) dX10_reads_54 lk_RX10_115 mvX10_here (by decide) meX10_reads is_445 (Nat.le_of_ble_eq_true rfl)
        · exact t_X10_here H'
        intro x54 h54 hP54
        obtain ⟨eh54, ex54⟩ := hP54
        replace eh54 := eh54.symm
        subst eh54
        replace ex54 := ex54.symm
        subst ex54
        refine wp_bipush dX10_reads_57 (by decide) ?_
        refine wp_icmp_ne 66 dX10_reads_59 rfl ⟨by omega, by omega⟩ ⟨by omega, by omega⟩ (fun c59 => ?_) (fun c59 => ?_)
        · skip
          refine wp_iconst dX10_reads_66 ?_
          refine w_forget1 ?_
          first
          | (have c9 : zsg tx L q < 0 := by rcases zsg_c tx L q with w | w | w <;> omega
             exact L67 _ (by omega) (by omega) (by rw [if_pos (by simpa using c9)]))
          | (have c9 : ¬ zsg tx L q < 0 := by rcases zsg_c tx L q with w | w | w <;> omega
             exact L67 _ (by omega) (by omega) (by rw [if_neg (by simpa using c9)]))
        · skip
          refine wp_iconst dX10_reads_62 (wp_goto 67 dX10_reads_63 rfl ?_)
          refine w_forget1 ?_
          first
          | (have c9 : zsg tx L q < 0 := by rcases zsg_c tx L q with w | w | w <;> omega
             exact L67 _ (by omega) (by omega) (by rw [if_pos (by simpa using c9)]))
          | (have c9 : ¬ zsg tx L q < 0 := by rcases zsg_c tx L q with w | w | w <;> omega
             exact L67 _ (by omega) (by omega) (by rw [if_neg (by simpa using c9)]))
  have L2 : ∀ (zm2 : Nat) (i : Nat) (h' : zH) (vi : Int), 27 - i = zm2 → (i ≤ 27) → (vi = (i : Int)) → (h' = zfl h 449 i (fun _ => 0)) → WP mX10_reads (zMQ mX10_reads (zKI (fun r h' => zFr zFrs h h' ∧ ((zparse tx L p).1 < 0 → r = -9 ∧ ∀ j, j < 27 → h' 449 j = (zparse tx L p).2 j ∧ 0 ≤ h' 449 j ∧ h' 449 j < p) ∧ (0 ≤ (zparse tx L p).1 → r = (zparse tx L p).1)))) 2 [some (vR 445), some (vI vi), none, none] [] zN zGR h' := by
    intro zm2
    induction zm2 using Nat.strongRecOn with | _ zm2 ih2 => ?_
    intro i h' vi hzm2 hi hvi hh
    subst hzm2
    refine w_iload1 dX10_reads_2 (wp_bipush dX10_reads_3 (by decide) ?_)
    refine wp_icmp_ge 21 dX10_reads_5 rfl ⟨by omega, by omega⟩ ⟨by omega, by omega⟩ (fun c5 => ?_) (fun c5 => ?_)
    · skip
      refine w_aload0 dX10_reads_21 (wp_iconst dX10_reads_22 (wp_puti dX10_reads_23 fl_RX10_112 is_445 rfl (w_aload0 dX10_reads_26 (wp_bipush dX10_reads_27 (by decide) (wp_puti dX10_reads_29 fl_RX10_125 is_445 rfl (w_aload0 dX10_reads_32 ?_))))))
      apply v_v0 (M := mX10_reads) dX10_reads_33 lk_RX10_122 mvX10_skips (by decide) meX10_reads is_445 (Nat.le_of_ble_eq_true rfl)
      · exact t_X10_skips (tx := tx) (L := L) (i := 0) ⟨by rw [zup_o (by omega), zup_o (by omega), hh, zfl_o (by omega)]; exact Hw.1, hL60, by rw [zup_o (by omega), zup_s]; rfl, Nat.zero_le _, fun j hj => by rw [zup_o (by omega), zup_o (by omega), hh, zfl_o (by omega)]; exact Hw.2.2 j hj⟩
      intro h33 hP33
      replace hP33 := hP33.symm
      subst hP33
      refine wp_iconst dX10_reads_36 (w_istore1 dX10_reads_37 rfl (by decide) (wp_iconst dX10_reads_38 (w_istore2 dX10_reads_39 rfl (by decide) ?_)))
      refine L40 _ 61 (zsk tx L 0) _ _ _ (fun _ => 0) rfl sk0.2 (zsk_sk (Nat.zero_le _)) zup_s (fun a j n => ?_) (fun j hj => ?_) (by decide) (by decide) (fun w => absurd w (by decide)) (fun w => absurd w (by decide)) (fun _ => ⟨rfl, ?_, Or.inl ⟨rfl, rfl⟩⟩) (fun _ => ?_)
      · unfold zFrs at n
        rw [zup_o (by omega), zup_o (by omega), zup_o (by omega), hh, zfl_o (by omega)]
      · rw [zup_o (by omega), zup_o (by omega), zup_o (by omega), hh, show i = 27 by omega, zfl_i hj]
        exact ⟨rfl, Int.le_refl 0, by omega⟩
      · rw [zup_o (by omega), zup_s]
      · exact zif_n (fun w => absurd w.1 (by decide))
    · skip
      refine w_aload0 dX10_reads_8 (wp_getr 449 dX10_reads_9 fl_RX10_19 is_445 rfl (w_iload1 dX10_reads_12 (wp_iconst dX10_reads_13 (x_iast i dX10_reads_14 is_449 hvi (by omega) (w_iinc1 dX10_reads_15 rfl (by decide) (wp_goto 2 dX10_reads_18 rfl ?_))))))
      exact ih2 _ (by omega) (i + 1) _ _ rfl (by omega) (by omega) (by rw [hh]; exact zfl_s rfl)
  refine wp_iconst dX10_reads_0 (w_istore1 dX10_reads_1 rfl (by decide) ?_)
  exact L2 _ 0 h 0 rfl (Nat.zero_le _) rfl zfl_0.symm
