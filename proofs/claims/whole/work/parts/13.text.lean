
theorem zup_id {h : zH} {a j : Nat} {v : Int} (e : h a j = v) : zup h a j v = h := by
  funext a' j'
  unfold zup
  by_cases q : a' = a ∧ j' = j
  · rw [if_pos q, q.1, q.2, e]
  · rw [if_neg q]
theorem zup_up {h : zH} {a j : Nat} {v w : Int} : zup (zup h a j v) a j w = zup h a j w := by
  funext a' j'
  unfold zup
  by_cases q : a' = a ∧ j' = j
  · rw [if_pos q, if_pos q]
  · rw [if_neg q, if_neg q, if_neg q]
/-! ===== frames ===== -/
def zFr (F : Nat → Nat → Prop) (h h' : zH) : Prop := ∀ a j, ¬ F a j → h' a j = h a j
theorem zFr.rf {F : Nat → Nat → Prop} {h : zH} : zFr F h h := fun _ _ _ => rfl
theorem zFr.up {F : Nat → Nat → Prop} {h h' : zH} (H : zFr F h h') {a j : Nat} {v : Int} (q : F a j) : zFr F h (zup h' a j v) := fun a' j' n => by
  rw [zup_o (fun e => n (by rw [e.1, e.2]; exact q))]
  exact H a' j' n
theorem zFr.tr {F : Nat → Nat → Prop} {h h1 h2 : zH} (H : zFr F h h1) (H2 : zFr F h1 h2) : zFr F h h2 := fun a j n => (H2 a j n).trans (H a j n)
theorem zFr.mono {F G : Nat → Nat → Prop} {h h1 : zH} (H : zFr F h h1) (hs : ∀ a j, F a j → G a j) : zFr G h h1 := fun a j n => H a j (fun q => n (hs a j q))
def zpeek (tx : Nat → Int) (L i : Nat) : Int := if i < L then tx i else -1
def zskp (tx : Nat → Int) (L : Nat) : Nat → Nat → Nat
  | 0, i => i
  | f + 1, i => if i < L ∧ tx i = 32 then zskp tx L f (i + 1) else i
def zsk (tx : Nat → Int) (L i : Nat) : Nat := zskp tx L (L - i) i
theorem zsk_stop {tx : Nat → Int} {L i : Nat} (h : ¬ (i < L ∧ tx i = 32)) : zsk tx L i = i := by
  unfold zsk
  cases L - i with
  | zero => rfl
  | succ f => exact if_neg h
theorem zsk_step {tx : Nat → Int} {L i : Nat} (h : i < L ∧ tx i = 32) : zsk tx L i = zsk tx L (i + 1) := by
  unfold zsk
  rw [show L - i = (L - (i + 1)) + 1 by omega]
  exact if_pos h
theorem zsk_in (tx : Nat → Int) (L : Nat) : ∀ (m i : Nat), L - i = m → i ≤ L → i ≤ zsk tx L i ∧ zsk tx L i ≤ L ∧ ¬ (zsk tx L i < L ∧ tx (zsk tx L i) = 32) := by
  intro m
  induction m with
  | zero =>
    intro i hm hi
    rw [zsk_stop (by omega)]
    omega
  | succ m ih =>
    intro i hm hi
    by_cases q : i < L ∧ tx i = 32
    · rw [zsk_step q]
      have := ih (i + 1) (by omega) (by omega)
      exact ⟨by omega, this.2⟩
    · rw [zsk_stop q]
      exact ⟨Nat.le_refl i, hi, q⟩
theorem zsk_le {tx : Nat → Int} {L i : Nat} (hi : i ≤ L) : i ≤ zsk tx L i ∧ zsk tx L i ≤ L := ⟨(zsk_in tx L _ i rfl hi).1, (zsk_in tx L _ i rfl hi).2.1⟩
theorem zsk_sk {tx : Nat → Int} {L i : Nat} (hi : i ≤ L) : zsk tx L (zsk tx L i) = zsk tx L i := zsk_stop (zsk_in tx L _ i rfl hi).2.2
def zsg (tx : Nat → Int) (L i : Nat) : Int := if zpeek tx L i = 43 then 1 else if zpeek tx L i = 45 then -1 else 0
def zsgp (tx : Nat → Int) (L i : Nat) : Nat := if zpeek tx L i = 43 then i + 1 else if zpeek tx L i = 45 then i + 1 else i
theorem zsg_in (tx : Nat → Int) (L i : Nat) : -1 ≤ zsg tx L i ∧ zsg tx L i ≤ 1 := by
  unfold zsg
  split
  · omega
  · split <;> omega
def zlet (c : Int) : Int := if c = 120 then 0 else if c = 121 then 1 else if c = 116 then 2 else -1
def zisd (c : Int) : Prop := 48 ≤ c ∧ c ≤ 57
def znr (tx : Nat → Int) (L : Nat) : Nat → Int → Nat → Int × Nat
  | 0, v, i => (v, i)
  | k + 1, v, i => if 48 ≤ zpeek tx L i ∧ zpeek tx L i ≤ 57 then znr tx L k (max v 0 * 10 + zpeek tx L i - 48) (i + 1) else (v, i)
def zexv (tx : Nat → Int) (L i : Nat) : Nat := if 48 ≤ zpeek tx L i ∧ zpeek tx L i ≤ 50 then (zpeek tx L i - 48).toNat else 1
def zexq (tx : Nat → Int) (L i : Nat) : Nat := if 48 ≤ zpeek tx L i ∧ zpeek tx L i ≤ 50 then i + 1 else i
def zwt (l : Nat) : Nat := if l = 0 then 9 else if l = 1 then 3 else 1
def zfa (tx : Nat → Int) (L : Nat) : Nat → Nat → Nat → Nat → Nat × Nat × Nat
  | 0, u, pl, i => (u, pl, i)
  | f + 1, u, pl, i => if zlet (zpeek tx L (zsk tx L i)) < 0 ∨ u / 2 ^ (zlet (zpeek tx L (zsk tx L i))).toNat % 2 = 1 then (u, pl, zsk tx L i) else zfa tx L f (u ||| 2 ^ (zlet (zpeek tx L (zsk tx L i))).toNat) (pl + zwt (zlet (zpeek tx L (zsk tx L i))).toNat * zexv tx L (zsk tx L i + 1)) (zexq tx L (zsk tx L i + 1))
theorem zfa_succ {tx : Nat → Int} {L f u pl i : Nat} : zfa tx L (f + 1) u pl i = if zlet (zpeek tx L (zsk tx L i)) < 0 ∨ u / 2 ^ (zlet (zpeek tx L (zsk tx L i))).toNat % 2 = 1 then (u, pl, zsk tx L i) else zfa tx L f (u ||| 2 ^ (zlet (zpeek tx L (zsk tx L i))).toNat) (pl + zwt (zlet (zpeek tx L (zsk tx L i))).toNat * zexv tx L (zsk tx L i + 1)) (zexq tx L (zsk tx L i + 1)) := rfl
theorem zlet_in (c : Int) : -1 ≤ zlet c ∧ zlet c ≤ 2 := by
  unfold zlet
  split
  · decide
  · split
    · decide
    · split <;> decide
/-- the buffer holds tx (L codes), read up to i -/
def zTx (tx : Nat → Int) (L i : Nat) (h : zH) : Prop := h 138 0 = (L : Int) ∧ L ≤ 60 ∧ h 138 3 = (i : Int) ∧ i ≤ L ∧ ∀ j, j < L → h 140 j = tx j ∧ 0 ≤ tx j ∧ tx j < 200
theorem zTx_up {tx : Nat → Int} {L i : Nat} {h : zH} (H : zTx tx L i h) {i' : Nat} (hi : i' ≤ L) : zTx tx L i' (zup h 138 3 (i' : Int)) := by
  obtain ⟨h1, h2, h3, h4, h5⟩ := H
  refine ⟨by rw [zup_o (by omega)]; exact h1, h2, zup_s, hi, fun j hj => ?_⟩
  rw [zup_o (by omega)]
  exact h5 j hj
theorem zTx_s {tx : Nat → Int} {L i : Nat} {h : zH} (H : zTx tx L i h) {j : Nat} {v : Int} : zTx tx L i (zup h 139 j v) := by
  obtain ⟨h1, h2, h3, h4, h5⟩ := H
  refine ⟨by rw [zup_o (by omega)]; exact h1, h2, by rw [zup_o (by omega)]; exact h3, h4, fun j hj => ?_⟩
  rw [zup_o (by omega)]
  exact h5 j hj
theorem zpeek_in {tx : Nat → Int} {L i : Nat} {h : zH} (H : zTx tx L i h) (q : Nat) : -1 ≤ zpeek tx L q ∧ zpeek tx L q < 200 := by
  unfold zpeek
  split
  · next z => have := H.2.2.2.2 q z; omega
  · omega
theorem zpeek_ne {tx : Nat → Int} {L q : Nat} (h : zpeek tx L q ≠ -1) : q < L := by
  unfold zpeek at h
  split at h
  · assumption
  · exact absurd rfl h
theorem zsgp_le {tx : Nat → Int} {L i : Nat} (hi : i ≤ L) : i ≤ zsgp tx L i ∧ zsgp tx L i ≤ L := by
  unfold zsgp
  by_cases q : zpeek tx L i = -1
  · rw [if_neg (by omega), if_neg (by omega)]
    omega
  · have := zpeek_ne q
    split
    · omega
    · split <;> omega
theorem zexq_le {tx : Nat → Int} {L i : Nat} (hi : i ≤ L) : i ≤ zexq tx L i ∧ zexq tx L i ≤ L := by
  unfold zexq
  split
  · have := zpeek_ne (tx := tx) (L := L) (q := i) (by omega)
    omega
  · omega
theorem zexv_le {tx : Nat → Int} {L i : Nat} : zexv tx L i ≤ 2 := by
  unfold zexv
  split <;> omega
theorem znr_le {tx : Nat → Int} {L : Nat} : ∀ (k : Nat) (v : Int) (i : Nat), i ≤ L → i ≤ (znr tx L k v i).2 ∧ (znr tx L k v i).2 ≤ L := by
  intro k
  induction k with
  | zero => intro v i hi; exact ⟨Nat.le_refl i, hi⟩
  | succ k ih =>
    intro v i hi
    unfold znr
    split
    · next q =>
      have := zpeek_ne (tx := tx) (L := L) (q := i) (by omega)
      have := ih (max v 0 * 10 + zpeek tx L i - 48) (i + 1) (by omega)
      omega
    · exact ⟨Nat.le_refl i, hi⟩
theorem znr_in {tx : Nat → Int} {L : Nat} (i : Nat) : -1 ≤ (znr tx L 3 (-1) i).1 ∧ (znr tx L 3 (-1) i).1 ≤ 999 := by
  unfold znr
  split
  · unfold znr
    split
    · unfold znr
      split
      · unfold znr
        dsimp only
        omega
      · dsimp only
        omega
    · dsimp only
      omega
  · dsimp only
    omega
def zbd (u : Nat) : Nat := 18 * (u % 2) + 6 * (u / 2 % 2) + 2 * (u / 4 % 2)
theorem zbd_ok : ∀ u, u < 8 → ∀ l, l < 3 → ¬ u / 2 ^ l % 2 = 1 → (u ||| 2 ^ l) < 8 ∧ zbd (u ||| 2 ^ l) = zbd u + 2 * zwt l ∧ (u ||| 2 ^ l) ≠ 0 := by decide +kernel
theorem zfa_le {tx : Nat → Int} {L : Nat} : ∀ (f u pl i : Nat), i ≤ L → u < 8 → pl ≤ zbd u → i ≤ (zfa tx L f u pl i).2.2 ∧ (zfa tx L f u pl i).2.2 ≤ L ∧ (zfa tx L f u pl i).2.1 ≤ 26 := by
  intro f
  induction f with
  | zero =>
    intro u pl i hi hu hp
    have hb : ∀ u, u < 8 → zbd u ≤ 26 := by decide +kernel
    have := hb u hu
    exact ⟨Nat.le_refl i, hi, by show pl ≤ 26; omega⟩
  | succ f ih =>
    intro u pl i hi hu hp
    have hb : ∀ u, u < 8 → zbd u ≤ 26 := by decide +kernel
    have h0 := hb u hu
    have h1 := zsk_le (tx := tx) hi
    have h2 := zlet_in (zpeek tx L (zsk tx L i))
    unfold zfa
    split
    · exact ⟨h1.1, h1.2, by show pl ≤ 26; omega⟩
    · next q =>
      have hne : zpeek tx L (zsk tx L i) ≠ -1 := by
        intro z
        rw [z] at q
        exact q (Or.inl (by decide))
      have h3 := zpeek_ne hne
      have h4 := zbd_ok u hu (zlet (zpeek tx L (zsk tx L i))).toNat (by omega) (fun z => q (Or.inr z))
      have h5 := zexq_le (tx := tx) (L := L) (i := zsk tx L i + 1) (by omega)
      have h6 := zexv_le (tx := tx) (L := L) (i := zsk tx L i + 1)
      have h7 : zwt (zlet (zpeek tx L (zsk tx L i))).toNat * zexv tx L (zsk tx L i + 1) ≤ zwt (zlet (zpeek tx L (zsk tx L i))).toNat * 2 := Nat.mul_le_mul_left _ h6
      have h8 := ih _ _ _ h5.2 h4.1 (show pl + zwt (zlet (zpeek tx L (zsk tx L i))).toNat * zexv tx L (zsk tx L i + 1) ≤ _ by rw [h4.2.1]; omega)
      exact ⟨by omega, h8.2⟩
/-- what a term makes of the polynomial S -/
def ztS (p : Int) (neg : Bool) (z : Int) (a : Nat) (S : Nat → Int) : Nat → Int := fun j => if j = a then (S j + (if neg then -z else z)) % p else S j
def zTn (tx : Nat → Int) (L i : Nat) : Int := (znr tx L 3 (-1) i).1
def zTm (tx : Nat → Int) (L i : Nat) : Nat := (znr tx L 3 (-1) i).2
def zTu (tx : Nat → Int) (L i : Nat) : Nat := (zfa tx L 3 0 0 (zTm tx L i)).1
def zTp (tx : Nat → Int) (L i : Nat) : Nat := (zfa tx L 3 0 0 (zTm tx L i)).2.1
def zTq (tx : Nat → Int) (L i : Nat) : Nat := (zfa tx L 3 0 0 (zTm tx L i)).2.2
theorem zTm_le {tx : Nat → Int} {L i : Nat} (hi : i ≤ L) : i ≤ zTm tx L i ∧ zTm tx L i ≤ L := znr_le 3 (-1) i hi
theorem zTq_le {tx : Nat → Int} {L i : Nat} (hi : i ≤ L) : i ≤ zTq tx L i ∧ zTq tx L i ≤ L ∧ zTp tx L i ≤ 26 := by
  have h1 := zTm_le (tx := tx) hi
  have h2 := zfa_le (tx := tx) (L := L) 3 0 0 (zTm tx L i) h1.2 (by decide) (Nat.zero_le _)
  exact ⟨Nat.le_trans h1.1 h2.1, h2.2.1, h2.2.2⟩
def zTa (tx : Nat → Int) (L i : Nat) : Nat := if zTu tx L i = 0 then 0 else zTp tx L i
def zTz (tx : Nat → Int) (L i : Nat) : Int := if zTn tx L i < 0 then 1 else zTn tx L i
theorem zts_fl {g : zH} {p w : Int} {S : Nat → Int} (hS : g 139 = S) {at_ : Nat} (h : at_ < 27) {F : Nat → Int} (hF : ∀ j, F j = if j = at_ then (S j + w) % p else S j) : zup g 139 at_ ((S at_ + w) % p) = zfl g 139 27 F := by
  funext b j
  unfold zup zfl
  by_cases e : b = 139
  · subst e
    by_cases e2 : j = at_
    · rw [if_pos ⟨rfl, e2⟩, if_pos ⟨rfl, by omega⟩, hF, if_pos e2, e2]
    · rw [if_neg (fun q => e2 q.2)]
      by_cases e3 : j < 27
      · rw [if_pos ⟨rfl, e3⟩, hF, if_neg e2, hS]
      · rw [if_neg (fun q => e3 q.2)]
  · rw [if_neg (fun q => e q.1), if_neg (fun q => e q.1)]
/-- the reading from i on, behind a sign: where the fault is (-1: none), and what is made -/
def zps (tx : Nat → Int) (L : Nat) (p : Int) : Nat → Nat → Bool → (Nat → Int) → Int × (Nat → Int)
  | 0, i, _, S => (i, S)
  | f + 1, i, neg, S =>
    if zTn tx L (zsk tx L i) < 0 ∧ zTu tx L (zsk tx L i) = 0 then (zTq tx L (zsk tx L i), S)
    else if L ≤ zsk tx L (zTq tx L (zsk tx L i)) then (-1, ztS p neg (zTz tx L (zsk tx L i)) (zTa tx L (zsk tx L i)) S)
    else if zsg tx L (zsk tx L (zTq tx L (zsk tx L i))) = 0 then (zsk tx L (zTq tx L (zsk tx L i)), ztS p neg (zTz tx L (zsk tx L i)) (zTa tx L (zsk tx L i)) S)
    else zps tx L p f (zsk tx L (zTq tx L (zsk tx L i)) + 1) (decide (zsg tx L (zsk tx L (zTq tx L (zsk tx L i))) < 0)) (ztS p neg (zTz tx L (zsk tx L i)) (zTa tx L (zsk tx L i)) S)
def zparse (tx : Nat → Int) (L : Nat) (p : Int) : Int × (Nat → Int) := zps tx L p 61 (zsgp tx L (zsk tx L 0)) (decide (zsg tx L (zsk tx L 0) < 0)) (fun _ => 0)

set_option maxRecDepth 100000 in
set_option maxHeartbeats 4000000 in
theorem t_X8_peek {h : zH} {tx : Nat → Int} {L i : Nat} (H : zTx tx L i h) : CI yX8_peek mX8_peek [vR 138] h (fun r h' => h' = h ∧ r = zpeek tx L i) := by
  refine inV [some (vR 138)] mvX8_peek rfl (Nat.le_of_ble_eq_true rfl) rfl ?_
  obtain ⟨h1, h2, h3, h4, h5⟩ := H
  refine w_aload0 dX8_peek_0 (wp_geti dX8_peek_1 fl_RX8_22 is_138 ?_)
  rw [h3]
  refine wp_if_lt 39 dX8_peek_4 rfl ⟨by omega, by omega⟩ (fun c4 => absurd c4 (by omega)) (fun c4 => ?_)
  refine w_aload0 dX8_peek_7 (wp_geti dX8_peek_8 fl_RX8_22 is_138 (w_aload0 dX8_peek_11 (wp_geti dX8_peek_12 fl_RX8_18 is_138 ?_)))
  rw [h1, h3]
  refine wp_icmp_ge 39 dX8_peek_15 rfl ⟨by omega, by omega⟩ ⟨by omega, by omega⟩ (fun c15 => ?_) (fun c15 => ?_)
  · skip
    refine wp_iconst dX8_peek_39 ?_
    refine r_i dX8_peek_40 rfl meX8_peek ?_
    refine ⟨rfl, ?_⟩
    unfold zpeek
    first | (rw [if_pos (by omega)]; exact (h5 i (by omega)).1) | rw [if_neg (by omega)]
  · skip
    refine w_aload0 dX8_peek_18 (wp_geti dX8_peek_19 fl_RX8_22 is_138 (wp_bipush dX8_peek_22 (by decide) ?_))
    rw [h3]
    refine wp_icmp_ge 39 dX8_peek_24 rfl ⟨by omega, by omega⟩ ⟨by omega, by omega⟩ (fun c24 => absurd c24 (by omega)) (fun c24 => ?_)
    refine w_aload0 dX8_peek_27 (wp_getr 140 dX8_peek_28 fl_RX8_15 is_138 rfl (w_aload0 dX8_peek_31 (wp_geti dX8_peek_32 fl_RX8_22 is_138 ?_)))
    rw [h3]
    refine x_iald i dX8_peek_35 is_140 rfl (by omega) (wp_goto 40 dX8_peek_36 rfl ?_)
    refine r_i dX8_peek_40 rfl meX8_peek ?_
    refine ⟨rfl, ?_⟩
    unfold zpeek
    first | (rw [if_pos (by omega)]; exact (h5 i (by omega)).1) | rw [if_neg (by omega)]
set_option maxRecDepth 100000 in
set_option maxHeartbeats 4000000 in
theorem t_X8_append {h : zH} {tx : Nat → Int} {L i : Nat} {cc : Int} (hL : h 138 0 = (L : Int)) (hL60 : L ≤ 60) : CI yX8_append mX8_append [vR 138, vI cc] h (fun r h' => (L < 60 → h' = zup (zup h 140 L cc) 138 0 ((L + 1 : Nat) : Int) ∧ r = 1) ∧ (L = 60 → h' = h ∧ r = 0)) := by
  refine inV [some (vR 138), some (vI cc)] mvX8_append rfl (Nat.le_of_ble_eq_true rfl) rfl ?_
  refine w_aload0 dX8_append_0 (wp_geti dX8_append_1 fl_RX8_18 is_138 ?_)
  rw [hL]
  refine wp_if_lt 16 dX8_append_4 rfl ⟨by omega, by omega⟩ (fun c4 => absurd c4 (by omega)) (fun c4 => ?_)
  refine w_aload0 dX8_append_7 (wp_geti dX8_append_8 fl_RX8_18 is_138 (wp_bipush dX8_append_11 (by decide) ?_))
  rw [hL]
  refine wp_icmp_lt 18 dX8_append_13 rfl ⟨by omega, by omega⟩ ⟨by omega, by omega⟩ (fun c13 => ?_) (fun c13 => ?_)
  · skip
    refine w_aload0 dX8_append_18 (wp_getr 140 dX8_append_19 fl_RX8_15 is_138 rfl (w_aload0 dX8_append_22 (wp_geti dX8_append_23 fl_RX8_18 is_138 (w_iload1 dX8_append_26 ?_))))
    rw [hL]
    refine x_iast L dX8_append_27 is_140 rfl (by omega) (w_aload0 dX8_append_28 (wp_dup dX8_append_29 rfl (wp_geti dX8_append_30 fl_RX8_18 is_138 ?_)))
    rw [zup_o (by omega), hL]
    refine wp_iconst dX8_append_33 (wp_iadd dX8_append_34 (wp_puti dX8_append_35 fl_RX8_18 is_138 rfl (wp_iconst dX8_append_38 ?_)))
    refine r_z dX8_append_39 rfl meX8_append (by first | exact Or.inl rfl | exact Or.inr rfl | omega) ?_
    exact ⟨fun _ => ⟨rfl, rfl⟩, fun q => absurd q (by omega)⟩
  · skip
    refine wp_iconst dX8_append_16 ?_
    refine r_z dX8_append_17 rfl meX8_append (by first | exact Or.inl rfl | exact Or.inr rfl | omega) ?_
    exact ⟨fun q => absurd q (by omega), fun _ => ⟨rfl, rfl⟩⟩
set_option maxRecDepth 100000 in
set_option maxHeartbeats 4000000 in
theorem t_X8_skipSpaces {h : zH} {tx : Nat → Int} {L i : Nat} (H : zTx tx L i h) : CV yX8_skipSpaces mX8_skipSpaces [vR 138] h (fun h' => h' = zup h 138 3 (zsk tx L i : Int)) := by
  refine inV [some (vR 138)] mvX8_skipSpaces rfl (Nat.le_of_ble_eq_true rfl) rfl ?_
  have L0 : ∀ (zm0 : Nat) (q : Nat) (h' : zH), L - q = zm0 → (h' = zup h 138 3 (q : Int)) → (i ≤ q ∧ q ≤ L) → (zsk tx L q = zsk tx L i) → WP mX8_skipSpaces (zMQ mX8_skipSpaces (zKV (fun h' => h' = zup h 138 3 (zsk tx L i : Int)))) 0 [some (vR 138)] [] zN zGR h' := by
    intro zm0
    induction zm0 using Nat.strongRecOn with | _ zm0 ih0 => ?_
    intro q h' hzm0 hh hq hz
    subst hzm0
    have H2 := zTx_up H hq.2
    rw [← hh] at H2
    have a1 := H2.1
    have a2 := H2.2.1
    have a3 := H2.2.2.1
    have a4 := zpeek_in H2 q
    have a5 := H2.2.2.2.2
    refine w_aload0 dX8_skipSpaces_0 (wp_geti dX8_skipSpaces_1 fl_RX8_22 is_138 (w_aload0 dX8_skipSpaces_4 (wp_geti dX8_skipSpaces_5 fl_RX8_18 is_138 ?_)))
    rw [a1, a3]
    refine wp_icmp_ge 33 dX8_skipSpaces_8 rfl ⟨by omega, by omega⟩ ⟨by omega, by omega⟩ (fun c8 => ?_) (fun c8 => ?_)
    · skip
      refine r_v dX8_skipSpaces_33 rfl meX8_skipSpaces ?_
      rw [hh, ← hz]
      rw [zsk_stop]
      intro z
      first | omega | (unfold zpeek at c17; rw [if_pos (by omega)] at c17; omega)
    · skip
      refine w_aload0 dX8_skipSpaces_11 ?_
      apply v_i0 (M := mX8_skipSpaces) dX8_skipSpaces_12 lk_RX8_42 mvX8_peek (by decide) meX8_skipSpaces is_138 (Nat.le_of_ble_eq_true rfl)
      · exact t_X8_peek H2
      intro x12 h12 hP12
      obtain ⟨eh12, ex12⟩ := hP12
      replace eh12 := eh12.symm
      subst eh12
      replace ex12 := ex12.symm
      subst ex12
      refine wp_bipush dX8_skipSpaces_15 (by decide) ?_
      refine wp_icmp_ne 33 dX8_skipSpaces_17 rfl ⟨by omega, by omega⟩ ⟨by omega, by omega⟩ (fun c17 => ?_) (fun c17 => ?_)
      · skip
        refine r_v dX8_skipSpaces_33 rfl meX8_skipSpaces ?_
        rw [hh, ← hz]
        rw [zsk_stop]
        intro z
        first | omega | (unfold zpeek at c17; rw [if_pos (by omega)] at c17; omega)
      · skip
        refine w_aload0 dX8_skipSpaces_20 (wp_dup dX8_skipSpaces_21 rfl (wp_geti dX8_skipSpaces_22 fl_RX8_22 is_138 (wp_iconst dX8_skipSpaces_25 (wp_iadd dX8_skipSpaces_26 ?_))))
        rw [a3]
        refine wp_puti dX8_skipSpaces_27 fl_RX8_22 is_138 rfl (wp_goto 0 dX8_skipSpaces_30 rfl ?_)
        refine ih0 _ (by omega) (q + 1) _ rfl (by rw [hh, zup_up]; rfl) ⟨by omega, by omega⟩ ?_
        rw [← hz]
        exact (zsk_step ⟨by omega, by unfold zpeek at c17; rw [if_pos (by omega)] at c17; exact c17⟩).symm
  exact L0 _ i h rfl (zup_id H.2.2.1).symm ⟨Nat.le_refl i, H.2.2.2.1⟩ rfl
set_option maxRecDepth 100000 in
set_option maxHeartbeats 4000000 in
theorem t_X8_takeSign {h : zH} {tx : Nat → Int} {L i : Nat} (H : zTx tx L i h) : CI yX8_takeSign mX8_takeSign [vR 138] h (fun r h' => h' = zup h 138 3 (zsgp tx L i : Int) ∧ r = zsg tx L i) := by
  refine inV [some (vR 138), none] mvX8_takeSign rfl (Nat.le_of_ble_eq_true rfl) rfl ?_
  have a4 := zpeek_in H i
  have a1 := H.2.1
  have a2 := H.2.2.2.1
  have a3 := H.2.2.1
  refine w_aload0 dX8_takeSign_0 ?_
  apply v_i0 (M := mX8_takeSign) dX8_takeSign_1 lk_RX8_42 mvX8_peek (by decide) meX8_takeSign is_138 (Nat.le_of_ble_eq_true rfl)
  · exact t_X8_peek H
  intro x1 h1 hP1
  obtain ⟨eh1, ex1⟩ := hP1
  replace eh1 := eh1.symm
  subst eh1
  replace ex1 := ex1.symm
  subst ex1
  refine w_istore1 dX8_takeSign_4 rfl (by decide) (w_iload1 dX8_takeSign_5 (wp_bipush dX8_takeSign_6 (by decide) ?_))
  refine wp_icmp_eq 19 dX8_takeSign_8 rfl ⟨by omega, by omega⟩ ⟨by omega, by omega⟩ (fun c8 => ?_) (fun c8 => ?_)
  · skip
    refine w_aload0 dX8_takeSign_19 (wp_dup dX8_takeSign_20 rfl (wp_geti dX8_takeSign_21 fl_RX8_22 is_138 (wp_iconst dX8_takeSign_24 (wp_iadd dX8_takeSign_25 ?_))))
    rw [a3]
    refine wp_puti dX8_takeSign_26 fl_RX8_22 is_138 rfl (w_iload1 dX8_takeSign_29 (wp_bipush dX8_takeSign_30 (by decide) ?_))
    refine wp_icmp_ne 39 dX8_takeSign_32 rfl ⟨by omega, by omega⟩ ⟨by omega, by omega⟩ (fun c32 => ?_) (fun c32 => ?_)
    · skip
      refine wp_iconst dX8_takeSign_39 ?_
      refine r_i dX8_takeSign_40 rfl meX8_takeSign ?_
      unfold zsgp zsg
      first | (exfalso; omega) | (rw [if_pos (by omega), if_pos (by omega)]; exact ⟨rfl, rfl⟩) | (rw [if_neg (by omega), if_pos (by omega), if_neg (by omega), if_pos (by omega)]; exact ⟨rfl, rfl⟩)
    · skip
      refine wp_iconst dX8_takeSign_35 (wp_goto 40 dX8_takeSign_36 rfl ?_)
      refine r_i dX8_takeSign_40 rfl meX8_takeSign ?_
      unfold zsgp zsg
      first | (exfalso; omega) | (rw [if_pos (by omega), if_pos (by omega)]; exact ⟨rfl, rfl⟩) | (rw [if_neg (by omega), if_pos (by omega), if_neg (by omega), if_pos (by omega)]; exact ⟨rfl, rfl⟩)
  · skip
    refine w_iload1 dX8_takeSign_11 (wp_bipush dX8_takeSign_12 (by decide) ?_)
    refine wp_icmp_eq 19 dX8_takeSign_14 rfl ⟨by omega, by omega⟩ ⟨by omega, by omega⟩ (fun c14 => ?_) (fun c14 => ?_)
    · skip
      refine w_aload0 dX8_takeSign_19 (wp_dup dX8_takeSign_20 rfl (wp_geti dX8_takeSign_21 fl_RX8_22 is_138 (wp_iconst dX8_takeSign_24 (wp_iadd dX8_takeSign_25 ?_))))
      rw [a3]
      refine wp_puti dX8_takeSign_26 fl_RX8_22 is_138 rfl (w_iload1 dX8_takeSign_29 (wp_bipush dX8_takeSign_30 (by decide) ?_))
      refine wp_icmp_ne 39 dX8_takeSign_32 rfl ⟨by omega, by omega⟩ ⟨by omega, by omega⟩ (fun c32 => ?_) (fun c32 => ?_)
      · skip
        refine wp_iconst dX8_takeSign_39 ?_
        refine r_i dX8_takeSign_40 rfl meX8_takeSign ?_
        unfold zsgp zsg
        first | (exfalso; omega) | (rw [if_pos (by omega), if_pos (by omega)]; exact ⟨rfl, rfl⟩) | (rw [if_neg (by omega), if_pos (by omega), if_neg (by omega), if_pos (by omega)]; exact ⟨rfl, rfl⟩)
      · skip
        refine wp_iconst dX8_takeSign_35 (wp_goto 40 dX8_takeSign_36 rfl ?_)
        refine r_i dX8_takeSign_40 rfl meX8_takeSign ?_
        unfold zsgp zsg
        first | (exfalso; omega) | (rw [if_pos (by omega), if_pos (by omega)]; exact ⟨rfl, rfl⟩) | (rw [if_neg (by omega), if_pos (by omega), if_neg (by omega), if_pos (by omega)]; exact ⟨rfl, rfl⟩)
    · skip
      refine wp_iconst dX8_takeSign_17 ?_
      refine r_i dX8_takeSign_18 rfl meX8_takeSign ?_
      unfold zsgp zsg
      rw [if_neg (by omega), if_neg (by omega), if_neg (by omega), if_neg (by omega)]
      exact ⟨(zup_id a3).symm, rfl⟩
set_option maxRecDepth 100000 in
set_option maxHeartbeats 4000000 in
theorem t_X8_letterOf {h : zH} {cc : Int} (hc : -1 ≤ cc ∧ cc < 200) : CI yX8_letterOf mX8_letterOf [vI cc] h (fun r h' => h' = h ∧ r = zlet cc) := by
  refine inS [some (vI cc)] mvX8_letterOf rfl (Nat.le_of_ble_eq_true rfl) rfl ?_
  refine w_iload0 dX8_letterOf_0 (wp_bipush dX8_letterOf_1 (by decide) ?_)
  refine wp_icmp_ne 10 dX8_letterOf_3 rfl ⟨by omega, by omega⟩ ⟨by omega, by omega⟩ (fun c3 => ?_) (fun c3 => ?_)
  · skip
    refine w_iload0 dX8_letterOf_10 (wp_bipush dX8_letterOf_11 (by decide) ?_)
    refine wp_icmp_ne 20 dX8_letterOf_13 rfl ⟨by omega, by omega⟩ ⟨by omega, by omega⟩ (fun c13 => ?_) (fun c13 => ?_)
    · skip
      refine w_iload0 dX8_letterOf_20 (wp_bipush dX8_letterOf_21 (by decide) ?_)
      refine wp_icmp_ne 30 dX8_letterOf_23 rfl ⟨by omega, by omega⟩ ⟨by omega, by omega⟩ (fun c23 => ?_) (fun c23 => ?_)
      · skip
        refine wp_iconst dX8_letterOf_30 ?_
        refine r_i dX8_letterOf_31 rfl meX8_letterOf ?_
        refine ⟨rfl, ?_⟩
        unfold zlet
        first | rw [if_pos (by omega)] | rw [if_neg (by omega), if_pos (by omega)] | rw [if_neg (by omega), if_neg (by omega), if_pos (by omega)] | rw [if_neg (by omega), if_neg (by omega), if_neg (by omega)]
      · skip
        refine wp_iconst dX8_letterOf_26 (wp_goto 31 dX8_letterOf_27 rfl ?_)
        refine r_i dX8_letterOf_31 rfl meX8_letterOf ?_
        refine ⟨rfl, ?_⟩
        unfold zlet
        first | rw [if_pos (by omega)] | rw [if_neg (by omega), if_pos (by omega)] | rw [if_neg (by omega), if_neg (by omega), if_pos (by omega)] | rw [if_neg (by omega), if_neg (by omega), if_neg (by omega)]
    · skip
      refine wp_iconst dX8_letterOf_16 (wp_goto 31 dX8_letterOf_17 rfl ?_)
      refine r_i dX8_letterOf_31 rfl meX8_letterOf ?_
      refine ⟨rfl, ?_⟩
      unfold zlet
      first | rw [if_pos (by omega)] | rw [if_neg (by omega), if_pos (by omega)] | rw [if_neg (by omega), if_neg (by omega), if_pos (by omega)] | rw [if_neg (by omega), if_neg (by omega), if_neg (by omega)]
  · skip
    refine wp_iconst dX8_letterOf_6 (wp_goto 31 dX8_letterOf_7 rfl ?_)
    refine r_i dX8_letterOf_31 rfl meX8_letterOf ?_
    refine ⟨rfl, ?_⟩
    unfold zlet
    first | rw [if_pos (by omega)] | rw [if_neg (by omega), if_pos (by omega)] | rw [if_neg (by omega), if_neg (by omega), if_pos (by omega)] | rw [if_neg (by omega), if_neg (by omega), if_neg (by omega)]
set_option maxRecDepth 100000 in
set_option maxHeartbeats 4000000 in
theorem t_X8_takeExponent {h : zH} {tx : Nat → Int} {L i : Nat} (H : zTx tx L i h) : CI yX8_takeExponent mX8_takeExponent [vR 138] h (fun r h' => h' = zup h 138 3 (zexq tx L i : Int) ∧ r = (zexv tx L i : Int)) := by
  refine inV [some (vR 138), none] mvX8_takeExponent rfl (Nat.le_of_ble_eq_true rfl) rfl ?_
  have a4 := zpeek_in H i
  have a1 := H.2.1
  have a2 := H.2.2.2.1
  have a3 := H.2.2.1
  refine w_aload0 dX8_takeExponent_0 ?_
  apply v_i0 (M := mX8_takeExponent) dX8_takeExponent_1 lk_RX8_42 mvX8_peek (by decide) meX8_takeExponent is_138 (Nat.le_of_ble_eq_true rfl)
  · exact t_X8_peek H
  intro x1 h1 hP1
  obtain ⟨eh1, ex1⟩ := hP1
  replace eh1 := eh1.symm
  subst eh1
  replace ex1 := ex1.symm
  subst ex1
  refine w_istore1 dX8_takeExponent_4 rfl (by decide) (w_iload1 dX8_takeExponent_5 (wp_bipush dX8_takeExponent_6 (by decide) ?_))
  refine wp_icmp_lt 17 dX8_takeExponent_8 rfl ⟨by omega, by omega⟩ ⟨by omega, by omega⟩ (fun c8 => ?_) (fun c8 => ?_)
  · skip
    refine wp_iconst dX8_takeExponent_17 ?_
    refine r_i dX8_takeExponent_18 rfl meX8_takeExponent ?_
    unfold zexq zexv
    rw [if_neg (by omega), if_neg (by omega)]
    exact ⟨(zup_id a3).symm, rfl⟩
  · skip
    refine w_iload1 dX8_takeExponent_11 (wp_bipush dX8_takeExponent_12 (by decide) ?_)
    refine wp_icmp_le 19 dX8_takeExponent_14 rfl ⟨by omega, by omega⟩ ⟨by omega, by omega⟩ (fun c14 => ?_) (fun c14 => ?_)
    · skip
      refine w_aload0 dX8_takeExponent_19 (wp_dup dX8_takeExponent_20 rfl (wp_geti dX8_takeExponent_21 fl_RX8_22 is_138 (wp_iconst dX8_takeExponent_24 (wp_iadd dX8_takeExponent_25 ?_))))
      rw [a3]
      refine wp_puti dX8_takeExponent_26 fl_RX8_22 is_138 rfl (w_iload1 dX8_takeExponent_29 (wp_bipush dX8_takeExponent_30 (by decide) (wp_isub dX8_takeExponent_32 ?_)))
      refine r_i dX8_takeExponent_33 rfl meX8_takeExponent ?_
      unfold zexq zexv
      rw [if_pos (by omega), if_pos (by omega)]
      exact ⟨rfl, by omega⟩
    · skip
      refine wp_iconst dX8_takeExponent_17 ?_
      refine r_i dX8_takeExponent_18 rfl meX8_takeExponent ?_
      unfold zexq zexv
      rw [if_neg (by omega), if_neg (by omega)]
      exact ⟨(zup_id a3).symm, rfl⟩
set_option maxRecDepth 100000 in
set_option maxHeartbeats 4000000 in
theorem t_X8_takeNumber {h : zH} {tx : Nat → Int} {L i : Nat} (H : zTx tx L i h) : CI yX8_takeNumber mX8_takeNumber [vR 138] h (fun r h' => h' = zup h 138 3 (zTm tx L i : Int) ∧ r = zTn tx L i) := by
  refine inV [some (vR 138), none, none, none] mvX8_takeNumber rfl (Nat.le_of_ble_eq_true rfl) rfl ?_
  have L4 : ∀ (zm4 : Nat) (k q : Nat) (h' : zH) (v vk : Int), 3 - k = zm4 → (k ≤ 3) → (vk = (k : Int)) → (h' = zup h 138 3 (q : Int)) → (i ≤ q ∧ q ≤ L) → (-1 ≤ v ∧ (k = 0 → v ≤ 0) ∧ (k = 1 → v ≤ 9) ∧ (k = 2 → v ≤ 99)) → (znr tx L (3 - k) v q = znr tx L 3 (-1) i) → WP mX8_takeNumber (zMQ mX8_takeNumber (zKI (fun r h' => h' = zup h 138 3 (zTm tx L i : Int) ∧ r = zTn tx L i))) 4 [some (vR 138), some (vI v), some (vI vk), none] [] zN zGR h' := by
    intro zm4
    induction zm4 using Nat.strongRecOn with | _ zm4 ih4 => ?_
    intro k q h' v vk hzm4 hk hvk hh hq hb hz
    subst hzm4
    have H2 := zTx_up H hq.2
    rw [← hh] at H2
    have a1 := H2.2.1
    have a3 := H2.2.2.1
    have a4 := zpeek_in H2 q
    refine w_iload2 dX8_takeNumber_4 (wp_iconst dX8_takeNumber_5 ?_)
    refine wp_icmp_ge 58 dX8_takeNumber_6 rfl ⟨by omega, by omega⟩ ⟨by omega, by omega⟩ (fun c6 => ?_) (fun c6 => ?_)
    · skip
      refine w_iload1 dX8_takeNumber_58 ?_
      refine r_i dX8_takeNumber_59 rfl meX8_takeNumber ?_
      unfold zTm zTn
      rw [← hz, show 3 - k = 0 by omega]
      exact ⟨hh, rfl⟩
    · skip
      refine w_aload0 dX8_takeNumber_9 ?_
      apply v_i0 (M := mX8_takeNumber) dX8_takeNumber_10 lk_RX8_42 mvX8_peek (by decide) meX8_takeNumber is_138 (Nat.le_of_ble_eq_true rfl)
      · exact t_X8_peek H2
      intro x10 h10 hP10
      obtain ⟨eh10, ex10⟩ := hP10
      replace eh10 := eh10.symm
      subst eh10
      replace ex10 := ex10.symm
      subst ex10
      refine w_istore3 dX8_takeNumber_13 rfl (by decide) (w_iload3 dX8_takeNumber_14 (wp_bipush dX8_takeNumber_15 (by decide) ?_))
      refine wp_icmp_lt 26 dX8_takeNumber_17 rfl ⟨by omega, by omega⟩ ⟨by omega, by omega⟩ (fun c17 => ?_) (fun c17 => ?_)
      · skip
        refine w_iload1 dX8_takeNumber_26 ?_
        refine r_i dX8_takeNumber_27 rfl meX8_takeNumber ?_
        unfold zTm zTn
        rw [← hz, show 3 - k = 3 - (k + 1) + 1 by omega]
        unfold znr
        rw [if_neg (by omega)]
        exact ⟨hh, rfl⟩
      · skip
        refine w_iload3 dX8_takeNumber_20 (wp_bipush dX8_takeNumber_21 (by decide) ?_)
        refine wp_icmp_le 28 dX8_takeNumber_23 rfl ⟨by omega, by omega⟩ ⟨by omega, by omega⟩ (fun c23 => ?_) (fun c23 => ?_)
        · skip
          refine w_iload1 dX8_takeNumber_28 (wp_iconst dX8_takeNumber_29 (x_mmax dX8_takeNumber_30 lk_RX8_51 ⟨by omega, by omega⟩ ⟨by omega, by omega⟩ (by decide) (Nat.le_of_ble_eq_true rfl) meX8_takeNumber (wp_bipush dX8_takeNumber_33 (by decide) (wp_imul dX8_takeNumber_35 (w_iload3 dX8_takeNumber_36 (wp_iadd dX8_takeNumber_37 (wp_bipush dX8_takeNumber_38 (by decide) (wp_isub dX8_takeNumber_40 (w_istore1 dX8_takeNumber_41 rfl (by decide) ?_)))))))))
          refine w_aload0 dX8_takeNumber_42 (wp_dup dX8_takeNumber_43 rfl (wp_geti dX8_takeNumber_44 fl_RX8_22 is_138 (wp_iconst dX8_takeNumber_47 (wp_iadd dX8_takeNumber_48 ?_))))
          rw [a3]
          refine wp_puti dX8_takeNumber_49 fl_RX8_22 is_138 rfl (w_iinc2 dX8_takeNumber_52 rfl (by decide) (wp_goto 4 dX8_takeNumber_55 rfl ?_))
          refine w_forget3 ?_
          have hqL := zpeek_ne (tx := tx) (L := L) (q := q) (by omega)
          refine ih4 _ (by omega) (k + 1) (q + 1) _ _ _ rfl (by omega) (by omega) (by rw [hh, zup_up]; rfl) ⟨by omega, by omega⟩ ⟨by omega, by omega, by omega, by omega⟩ ?_
          rw [← hz, show 3 - k = 3 - (k + 1) + 1 by omega]
          show _ = (if 48 ≤ zpeek tx L q ∧ zpeek tx L q ≤ 57 then _ else _)
          rw [if_pos (by omega)]
        · skip
          refine w_iload1 dX8_takeNumber_26 ?_
          refine r_i dX8_takeNumber_27 rfl meX8_takeNumber ?_
          unfold zTm zTn
          rw [← hz, show 3 - k = 3 - (k + 1) + 1 by omega]
          unfold znr
          rw [if_neg (by omega)]
          exact ⟨hh, rfl⟩
  refine wp_iconst dX8_takeNumber_0 (w_istore1 dX8_takeNumber_1 rfl (by decide) (wp_iconst dX8_takeNumber_2 (w_istore2 dX8_takeNumber_3 rfl (by decide) ?_)))
  exact L4 _ 0 i h _ _ rfl (Nat.zero_le _) rfl (zup_id H.2.2.1).symm ⟨Nat.le_refl i, H.2.2.2.1⟩ ⟨Int.le_refl _, fun _ => by decide, fun _ => by decide, fun _ => by decide⟩ rfl
set_option maxRecDepth 100000 in
set_option maxHeartbeats 4000000 in
theorem t_X8_takeFactors {h : zH} {tx : Nat → Int} {L i : Nat} (H : zTx tx L i h) : CI yX8_takeFactors mX8_takeFactors [vR 138] h (fun r h' => h' = zup h 138 3 ((zfa tx L 3 0 0 i).2.2 : Int) ∧ r = if (zfa tx L 3 0 0 i).1 = 0 then -1 else ((zfa tx L 3 0 0 i).2.1 : Int)) := by
  refine inV [some (vR 138), none, none, none, none, none] mvX8_takeFactors rfl (Nat.le_of_ble_eq_true rfl) rfl ?_
  have L6 : ∀ (zm6 : Nat) (k q u pl : Nat) (h' : zH) (vk vu vp : Int), 3 - k = zm6 → (k ≤ 3) → (vk = (k : Int)) → (vu = (u : Int)) → (vp = (pl : Int)) → (h' = zup h 138 3 (q : Int)) → (i ≤ q ∧ q ≤ L) → (u < 8) → (pl ≤ zbd u) → (zfa tx L (3 - k) u pl q = zfa tx L 3 0 0 i) → WP mX8_takeFactors (zMQ mX8_takeFactors (zKI (fun r h' => h' = zup h 138 3 ((zfa tx L 3 0 0 i).2.2 : Int) ∧ r = if (zfa tx L 3 0 0 i).1 = 0 then -1 else ((zfa tx L 3 0 0 i).2.1 : Int)))) 6 [some (vR 138), some (vI vu), some (vI vp), some (vI vk), none, none] [] zN zGR h' := by
    intro zm6
    induction zm6 using Nat.strongRecOn with | _ zm6 ih6 => ?_
    intro k q u pl h' vk vu vp hzm6 hk hvk hvu hvp hh hq hu hb hz
    subst hzm6
    have H2 := zTx_up H hq.2
    rw [← hh] at H2
    have s1 := zsk_le (tx := tx) hq.2
    have H3 := zTx_up H2 s1.2
    have a4 := zpeek_in H2 (zsk tx L q)
    have a5 := zlet_in (zpeek tx L (zsk tx L q))
    have hbb : ∀ u, u < 8 → zbd u ≤ 26 := by decide +kernel
    have hb6 := hbb u hu
    have hnx : k < 3 → zfa tx L (3 - k) u pl q = zfa tx L (3 - (k + 1) + 1) u pl q := fun z => by rw [show 3 - k = 3 - (k + 1) + 1 by omega]
    subst hvu
    subst hvp
    have L93 : ∀ (l : Nat) (w : Int), (((l : Nat) : Int) = zlet (zpeek tx L (zsk tx L q))) → (l < 3) → (k < 3) → (¬ u / 2 ^ l % 2 = 1) → (w = (zwt l * zexv tx L (zsk tx L q + 1) : Nat)) → WP mX8_takeFactors (zMQ mX8_takeFactors (zKI (fun r h' => h' = zup h 138 3 ((zfa tx L 3 0 0 i).2.2 : Int) ∧ r = if (zfa tx L 3 0 0 i).1 = 0 then -1 else ((zfa tx L 3 0 0 i).2.1 : Int)))) 93 [some (vR 138), some (vI ((u ||| 2 ^ l : Nat) : Int)), none, some (vI vk), none, none] [vI w, vI ((pl : Nat) : Int)] zN zGR (zup (zup (zup h' 138 3 (zsk tx L q : Int)) 138 3 ((zsk tx L q : Int) + 1)) 138 3 (zexq tx L (zsk tx L q + 1) : Int)) := by
      intro l w hl hl3 hk3 hbit hw
      have hne : zpeek tx L (zsk tx L q) ≠ -1 := by
        intro z
        rw [z] at hl
        have : zlet (-1) = -1 := by decide
        omega
      have h3 := zpeek_ne hne
      have b4 := zbd_ok u hu l hl3 hbit
      have s5 := zexq_le (tx := tx) (L := L) (i := zsk tx L q + 1) (by omega)
      refine wp_iadd dX8_takeFactors_93 (w_istore2 dX8_takeFactors_94 rfl (by decide) (w_iinc3 dX8_takeFactors_95 rfl (by decide) (wp_goto 6 dX8_takeFactors_98 rfl ?_)))
      refine ih6 _ (by omega) (k + 1) (zexq tx L (zsk tx L q + 1)) (u ||| 2 ^ l) (pl + zwt l * zexv tx L (zsk tx L q + 1)) _ _ _ _ rfl (by omega) (by omega) rfl ?_ ?_ ⟨by omega, by omega⟩ b4.1 ?_ ?_
      · rw [hw]
        omega
      · rw [hh, zup_up, zup_up, zup_up]
      · rw [b4.2.1]
        have h7 : zwt l * zexv tx L (zsk tx L q + 1) ≤ zwt l * 2 := Nat.mul_le_mul_left _ zexv_le
        omega
      · rw [← hz, hnx (by omega)]
        have hnc : ¬ (zlet (zpeek tx L (zsk tx L q)) < 0 ∨ u / 2 ^ (zlet (zpeek tx L (zsk tx L q))).toNat % 2 = 1) := by
          rw [← hl]
          intro z
          exact z.elim (fun z => by omega) (fun z => hbit (by simpa using z))
        rw [zfa_succ, if_neg hnc, ← hl]
        simp
    refine w_iload3 dX8_takeFactors_6 (wp_iconst dX8_takeFactors_7 ?_)
    refine wp_icmp_ge 101 dX8_takeFactors_8 rfl ⟨by omega, by omega⟩ ⟨by omega, by omega⟩ (fun c8 => ?_) (fun c8 => ?_)
    · skip
      refine w_iload1 dX8_takeFactors_101 ?_
      refine wp_if_ne 109 dX8_takeFactors_102 rfl ⟨by omega, by omega⟩ (fun c102 => ?_) (fun c102 => ?_)
      · skip
        refine w_iload2 dX8_takeFactors_109 ?_
        refine r_i dX8_takeFactors_110 rfl meX8_takeFactors ?_
        first
        | (have hfin : zfa tx L 3 0 0 i = (u, pl, q) := by
             rw [← hz, show 3 - k = 0 by omega]
             rfl
           rw [hfin]
           dsimp only
           refine ⟨hh, ?_⟩
           first | rw [if_pos (by omega)] | rw [if_neg (by omega)])
        | (have hfin : zfa tx L 3 0 0 i = (u, pl, zsk tx L q) := by
             rw [← hz, hnx (by omega), zfa_succ]
             rw [if_pos (by first | exact Or.inl c26 | (refine Or.inr ?_; rw [← hl]; simp only [Int.toNat_natCast]; omega))]
           rw [hfin]
           dsimp only
           refine ⟨by rw [hh, zup_up], ?_⟩
           first | rw [if_pos (by omega)] | rw [if_neg (by omega)])
      · skip
        refine wp_iconst dX8_takeFactors_105 (wp_goto 110 dX8_takeFactors_106 rfl ?_)
        refine r_i dX8_takeFactors_110 rfl meX8_takeFactors ?_
        first
        | (have hfin : zfa tx L 3 0 0 i = (u, pl, q) := by
             rw [← hz, show 3 - k = 0 by omega]
             rfl
           rw [hfin]
           dsimp only
           refine ⟨hh, ?_⟩
           first | rw [if_pos (by omega)] | rw [if_neg (by omega)])
        | (have hfin : zfa tx L 3 0 0 i = (u, pl, zsk tx L q) := by
             rw [← hz, hnx (by omega), zfa_succ]
             rw [if_pos (by first | exact Or.inl c26 | (refine Or.inr ?_; rw [← hl]; simp only [Int.toNat_natCast]; omega))]
           rw [hfin]
           dsimp only
           refine ⟨by rw [hh, zup_up], ?_⟩
           first | rw [if_pos (by omega)] | rw [if_neg (by omega)])
    · skip
      refine w_aload0 dX8_takeFactors_11 ?_
      apply v_v0 (M := mX8_takeFactors) dX8_takeFactors_12 lk_RX8_31 mvX8_skipSpaces (by decide) meX8_takeFactors is_138 (Nat.le_of_ble_eq_true rfl)
      · exact t_X8_skipSpaces H2
      intro h12 hP12
      replace hP12 := hP12.symm
      subst hP12
      refine w_aload0 dX8_takeFactors_15 ?_
      apply v_i0 (M := mX8_takeFactors) dX8_takeFactors_16 lk_RX8_42 mvX8_peek (by decide) meX8_takeFactors is_138 (Nat.le_of_ble_eq_true rfl)
      · exact t_X8_peek H3
      intro x16 h16 hP16
      obtain ⟨eh16, ex16⟩ := hP16
      replace eh16 := eh16.symm
      subst eh16
      replace ex16 := ex16.symm
      subst ex16
      apply s_i1 (M := mX8_takeFactors) dX8_takeFactors_19 lk_RX8_62 mvX8_letterOf (by decide) meX8_takeFactors (Nat.le_of_ble_eq_true rfl)
      · exact t_X8_letterOf a4
      intro x19 h19 hP19
      obtain ⟨eh19, ex19⟩ := hP19
      replace eh19 := eh19.symm
      subst eh19
      replace ex19 := ex19.symm
      subst ex19
      refine w_istore4 dX8_takeFactors_22 rfl (by decide) (w_iload4 dX8_takeFactors_24 ?_)
      refine wp_if_lt 101 dX8_takeFactors_26 rfl ⟨by omega, by omega⟩ (fun c26 => ?_) (fun c26 => ?_)
      · skip
        refine w_iload1 dX8_takeFactors_101 ?_
        refine wp_if_ne 109 dX8_takeFactors_102 rfl ⟨by omega, by omega⟩ (fun c102 => ?_) (fun c102 => ?_)
        · skip
          refine w_iload2 dX8_takeFactors_109 ?_
          refine r_i dX8_takeFactors_110 rfl meX8_takeFactors ?_
          first
          | (have hfin : zfa tx L 3 0 0 i = (u, pl, q) := by
               rw [← hz, show 3 - k = 0 by omega]
               rfl
             rw [hfin]
             dsimp only
             refine ⟨hh, ?_⟩
             first | rw [if_pos (by omega)] | rw [if_neg (by omega)])
          | (have hfin : zfa tx L 3 0 0 i = (u, pl, zsk tx L q) := by
               rw [← hz, hnx (by omega), zfa_succ]
               rw [if_pos (by first | exact Or.inl c26 | (refine Or.inr ?_; rw [← hl]; simp only [Int.toNat_natCast]; omega))]
             rw [hfin]
             dsimp only
             refine ⟨by rw [hh, zup_up], ?_⟩
             first | rw [if_pos (by omega)] | rw [if_neg (by omega)])
        · skip
          refine wp_iconst dX8_takeFactors_105 (wp_goto 110 dX8_takeFactors_106 rfl ?_)
          refine r_i dX8_takeFactors_110 rfl meX8_takeFactors ?_
          first
          | (have hfin : zfa tx L 3 0 0 i = (u, pl, q) := by
               rw [← hz, show 3 - k = 0 by omega]
               rfl
             rw [hfin]
             dsimp only
             refine ⟨hh, ?_⟩
             first | rw [if_pos (by omega)] | rw [if_neg (by omega)])
          | (have hfin : zfa tx L 3 0 0 i = (u, pl, zsk tx L q) := by
               rw [← hz, hnx (by omega), zfa_succ]
               rw [if_pos (by first | exact Or.inl c26 | (refine Or.inr ?_; rw [← hl]; simp only [Int.toNat_natCast]; omega))]
             rw [hfin]
             dsimp only
             refine ⟨by rw [hh, zup_up], ?_⟩
             first | rw [if_pos (by omega)] | rw [if_neg (by omega)])
      · skip
        obtain ⟨l, hl⟩ : ∃ l : Nat, ((l : Nat) : Int) = zlet (zpeek tx L (zsk tx L q)) := ⟨(zlet (zpeek tx L (zsk tx L q))).toNat, by omega⟩
        rw [← hl]
        have hl3 : l < 3 := by omega
        have t9 : ∀ u, u < 8 → ∀ l, l < 3 → ((((u : Nat) : Int) / 2 ^ ((l : Nat) : Int).toNat).toNat &&& (1 : Int).toNat : Nat) = u / 2 ^ l % 2 ∧ 0 ≤ (((u : Nat) : Int) / 2 ^ ((l : Nat) : Int).toNat) ∧ (((u : Nat) : Int) / 2 ^ ((l : Nat) : Int).toNat) < 100 ∧ (((u : Nat) : Int).toNat ||| (1 * 2 ^ ((l : Nat) : Int).toNat : Int).toNat : Nat) = (u ||| 2 ^ l) ∧ (0 : Int) ≤ 1 * 2 ^ ((l : Nat) : Int).toNat ∧ (1 : Int) * 2 ^ ((l : Nat) : Int).toNat < 100 := by decide +kernel
        obtain ⟨t1, t2, t3, t4, t5, t6⟩ := t9 u hu l hl3
        refine w_iload1 dX8_takeFactors_29 (w_iload4 dX8_takeFactors_30 (wp_ishr dX8_takeFactors_32 ⟨by omega, by omega⟩ (by omega) (wp_iconst dX8_takeFactors_33 (wp_iand dX8_takeFactors_34 (by omega) (by omega) ?_))))
        rw [t1]
        refine wp_if_eq 41 dX8_takeFactors_35 rfl ⟨by omega, by omega⟩ (fun c35 => ?_) (fun c35 => ?_)
        · skip
          have hbit : ¬ u / 2 ^ l % 2 = 1 := by omega
          have hqL : zsk tx L q < L := zpeek_ne (fun z => by rw [z] at hl; have : zlet (-1) = -1 := by decide
                                                             omega)
          refine w_iload1 dX8_takeFactors_41 (wp_iconst dX8_takeFactors_42 (w_iload4 dX8_takeFactors_43 (wp_ishl dX8_takeFactors_45 (by omega) (wp_ior dX8_takeFactors_46 (by omega) (by omega) (w_istore1 dX8_takeFactors_47 rfl (by decide) (w_aload0 dX8_takeFactors_48 ?_))))))
          rw [t4]
          refine wp_dup dX8_takeFactors_49 rfl (wp_geti dX8_takeFactors_50 fl_RX8_22 is_138 (wp_iconst dX8_takeFactors_53 (wp_iadd dX8_takeFactors_54 ?_)))
          rw [show zup h' 138 3 (zsk tx L q : Int) 138 3 = (zsk tx L q : Int) from zup_s]
          refine wp_puti dX8_takeFactors_55 fl_RX8_22 is_138 rfl ?_
          have H4 : zTx tx L (zsk tx L q + 1) (zup (zup h' 138 3 (zsk tx L q : Int)) 138 3 ((zsk tx L q : Int) + 1)) := zTx_up H3 (i' := zsk tx L q + 1) (by omega)
          refine w_aload0 dX8_takeFactors_58 ?_
          apply v_i0 (M := mX8_takeFactors) dX8_takeFactors_59 lk_RX8_66 mvX8_takeExponent (by decide) meX8_takeFactors is_138 (Nat.le_of_ble_eq_true rfl)
          · exact t_X8_takeExponent H4
          intro x59 h59 hP59
          obtain ⟨eh59, ex59⟩ := hP59
          subst eh59
          subst ex59
          refine w_istore5 dX8_takeFactors_62 rfl (by decide) (w_iload2 dX8_takeFactors_64 (w_iload4 dX8_takeFactors_65 ?_))
          have e9 := zexv_le (tx := tx) (L := L) (i := zsk tx L q + 1)
          refine wp_if_ne 78 dX8_takeFactors_67 rfl ⟨by omega, by omega⟩ (fun c67 => ?_) (fun c67 => ?_)
          · skip
            refine w_iload4 dX8_takeFactors_78 (wp_iconst dX8_takeFactors_80 ?_)
            refine wp_icmp_ne 91 dX8_takeFactors_81 rfl ⟨by omega, by omega⟩ ⟨by omega, by omega⟩ (fun c81 => ?_) (fun c81 => ?_)
            · skip
              refine w_iload5 dX8_takeFactors_91 ?_
              refine w_forget2 ?_
              refine w_forget4 ?_
              refine w_forget5 ?_
              refine L93 l _ hl (by omega) (by omega) hbit ?_
              unfold zwt
              first | (rw [if_pos (by omega)]; omega) | (rw [if_neg (by omega), if_pos (by omega)]; omega) | (rw [if_neg (by omega), if_neg (by omega)]; omega)
            · skip
              refine wp_iconst dX8_takeFactors_84 (w_iload5 dX8_takeFactors_85 (wp_imul dX8_takeFactors_87 (wp_goto 93 dX8_takeFactors_88 rfl ?_)))
              refine w_forget2 ?_
              refine w_forget4 ?_
              refine w_forget5 ?_
              refine L93 l _ hl (by omega) (by omega) hbit ?_
              unfold zwt
              first | (rw [if_pos (by omega)]; omega) | (rw [if_neg (by omega), if_pos (by omega)]; omega) | (rw [if_neg (by omega), if_neg (by omega)]; omega)
          · skip
            refine wp_bipush dX8_takeFactors_70 (by decide) (w_iload5 dX8_takeFactors_72 (wp_imul dX8_takeFactors_74 (wp_goto 93 dX8_takeFactors_75 rfl ?_)))
            refine w_forget2 ?_
            refine w_forget4 ?_
            refine w_forget5 ?_
            refine L93 l _ hl (by omega) (by omega) hbit ?_
            unfold zwt
            first | (rw [if_pos (by omega)]; omega) | (rw [if_neg (by omega), if_pos (by omega)]; omega) | (rw [if_neg (by omega), if_neg (by omega)]; omega)
        · skip
          refine wp_goto 101 dX8_takeFactors_38 rfl (w_iload1 dX8_takeFactors_101 ?_)
          refine wp_if_ne 109 dX8_takeFactors_102 rfl ⟨by omega, by omega⟩ (fun c102 => ?_) (fun c102 => ?_)
          · skip
            refine w_iload2 dX8_takeFactors_109 ?_
            refine r_i dX8_takeFactors_110 rfl meX8_takeFactors ?_
            first
            | (have hfin : zfa tx L 3 0 0 i = (u, pl, q) := by
                 rw [← hz, show 3 - k = 0 by omega]
                 rfl
               rw [hfin]
               dsimp only
               refine ⟨hh, ?_⟩
               first | rw [if_pos (by omega)] | rw [if_neg (by omega)])
            | (have hfin : zfa tx L 3 0 0 i = (u, pl, zsk tx L q) := by
                 rw [← hz, hnx (by omega), zfa_succ]
                 rw [if_pos (by first | exact Or.inl c26 | (refine Or.inr ?_; rw [← hl]; simp only [Int.toNat_natCast]; omega))]
               rw [hfin]
               dsimp only
               refine ⟨by rw [hh, zup_up], ?_⟩
               first | rw [if_pos (by omega)] | rw [if_neg (by omega)])
          · skip
            refine wp_iconst dX8_takeFactors_105 (wp_goto 110 dX8_takeFactors_106 rfl ?_)
            refine r_i dX8_takeFactors_110 rfl meX8_takeFactors ?_
            first
            | (have hfin : zfa tx L 3 0 0 i = (u, pl, q) := by
                 rw [← hz, show 3 - k = 0 by omega]
                 rfl
               rw [hfin]
               dsimp only
               refine ⟨hh, ?_⟩
               first | rw [if_pos (by omega)] | rw [if_neg (by omega)])
            | (have hfin : zfa tx L 3 0 0 i = (u, pl, zsk tx L q) := by
                 rw [← hz, hnx (by omega), zfa_succ]
                 rw [if_pos (by first | exact Or.inl c26 | (refine Or.inr ?_; rw [← hl]; simp only [Int.toNat_natCast]; omega))]
               rw [hfin]
               dsimp only
               refine ⟨by rw [hh, zup_up], ?_⟩
               first | rw [if_pos (by omega)] | rw [if_neg (by omega)])
  refine wp_iconst dX8_takeFactors_0 (w_istore1 dX8_takeFactors_1 rfl (by decide) (wp_iconst dX8_takeFactors_2 (w_istore2 dX8_takeFactors_3 rfl (by decide) (wp_iconst dX8_takeFactors_4 (w_istore3 dX8_takeFactors_5 rfl (by decide) ?_)))))
  exact L6 _ 0 i 0 0 h _ _ _ rfl (Nat.zero_le _) rfl rfl rfl (zup_id H.2.2.1).symm ⟨Nat.le_refl i, H.2.2.2.1⟩ (by decide) (Nat.zero_le _) rfl
set_option maxRecDepth 100000 in
set_option maxHeartbeats 4000000 in
theorem t_X8_takeTerm {h : zH} {tx : Nat → Int} {L i : Nat} (H : zTx tx L i h) {mm p : Int} {neg : Bool} (hm : mm = if neg then 1 else 0) (hp : 5 ≤ p ∧ p ≤ 31) (hS : ∀ j, j < 27 → 0 ≤ h 139 j ∧ h 139 j < p) : CI yX8_takeTerm mX8_takeTerm [vR 138, vI mm, vI p] h (fun r h' => (zTn tx L i < 0 ∧ zTu tx L i = 0 → h' = zup h 138 3 (zTq tx L i : Int) ∧ r = 0) ∧ (¬ (zTn tx L i < 0 ∧ zTu tx L i = 0) → h' = zfl (zup h 138 3 (zTq tx L i : Int)) 139 27 (ztS p neg (zTz tx L i) (zTa tx L i) (h 139)) ∧ r = 1)) := by
  refine inV [some (vR 138), some (vI mm), some (vI p), none, none, none, none] mvX8_takeTerm rfl (Nat.le_of_ble_eq_true rfl) rfl ?_
  have n1 : -1 ≤ zTn tx L i ∧ zTn tx L i ≤ 999 := znr_in (tx := tx) (L := L) i
  have n2 := zTm_le (tx := tx) H.2.2.2.1
  have n3 := zTq_le (tx := tx) H.2.2.2.1
  have H2 := zTx_up H n2.2
  have hm2 : (mm = 0 ∨ mm = 1) ∧ (mm = 1 ↔ neg = true) := by
    cases neg
    · exact ⟨Or.inl hm, fun q => absurd (hm.symm.trans q) (by decide), fun q => absurd q (by decide)⟩
    · exact ⟨Or.inr hm, fun _ => rfl, fun _ => hm⟩
  refine w_aload0 dX8_takeTerm_0 ?_
  apply v_i0 (M := mX8_takeTerm) dX8_takeTerm_1 lk_RX8_45 mvX8_takeNumber (by decide) meX8_takeTerm is_138 (Nat.le_of_ble_eq_true rfl)
  · exact t_X8_takeNumber H
  intro x1 h1 hP1
  obtain ⟨eh1, ex1⟩ := hP1
  subst eh1
  subst ex1
  refine w_istore3 dX8_takeTerm_4 rfl (by decide) (w_aload0 dX8_takeTerm_5 ?_)
  apply v_i0 (M := mX8_takeTerm) dX8_takeTerm_6 lk_RX8_48 mvX8_takeFactors (by decide) meX8_takeTerm is_138 (Nat.le_of_ble_eq_true rfl)
  · exact t_X8_takeFactors H2
  intro x6 h6 hP6
  obtain ⟨eh6, ex6⟩ := hP6
  replace ex6 : x6 = if zTu tx L i = 0 then -1 else (zTp tx L i : Int) := ex6
  replace eh6 : h6 = zup h 138 3 (zTq tx L i : Int) := by rw [eh6, zup_up]; rfl
  subst eh6
  have ex7 : (zTu tx L i = 0 → x6 = -1) ∧ (zTu tx L i ≠ 0 → x6 = (zTp tx L i : Int)) := ⟨fun q => by rw [ex6]; exact if_pos q, fun q => by rw [ex6]; exact if_neg q⟩
  have hat : max x6 0 = ((zTa tx L i : Nat) : Int) := by
    unfold zTa
    split <;> omega
  have hat27 : zTa tx L i < 27 := by
    unfold zTa
    split <;> omega
  have hs0 : zup h 138 3 (zTq tx L i : Int) 139 = h 139 := zup_a (by decide)
  have hsb := hS _ hat27
  have hzz : (zTn tx L i < 0 → zTz tx L i = 1) ∧ (¬ zTn tx L i < 0 → zTz tx L i = zTn tx L i) := by
    unfold zTz
    exact ⟨fun q => if_pos q, fun q => if_neg q⟩
  refine w_istore4 dX8_takeTerm_9 rfl (by decide) (w_iload3 dX8_takeTerm_11 ?_)
  refine wp_if_ge 22 dX8_takeTerm_12 rfl ⟨by omega, by omega⟩ (fun c12 => ?_) (fun c12 => ?_)
  · skip
    refine w_iload3 dX8_takeTerm_22 ?_
    refine wp_if_ge 30 dX8_takeTerm_23 rfl ⟨by omega, by omega⟩ (fun c23 => ?_) (fun c23 => ?_)
    · skip
      refine w_iload3 dX8_takeTerm_30 (w_istore5 dX8_takeTerm_31 rfl (by decide) (w_iload4 dX8_takeTerm_33 (wp_iconst dX8_takeTerm_35 (x_mmax dX8_takeTerm_36 lk_RX8_51 ⟨by omega, by omega⟩ ⟨by omega, by omega⟩ (by decide) (Nat.le_of_ble_eq_true rfl) meX8_takeTerm (w_istore6 dX8_takeTerm_39 rfl (by decide) (w_iload6 dX8_takeTerm_41 (w_aload0 dX8_takeTerm_43 (wp_getr 139 dX8_takeTerm_44 fl_RX8_9 is_138 rfl (wp_alen dX8_takeTerm_47 is_139 (by decide) ?_)))))))))
      refine wp_icmp_ge 82 dX8_takeTerm_48 rfl ⟨by omega, by omega⟩ ⟨by omega, by omega⟩ (fun c48 => ?_) (fun c48 => ?_)
      · skip
        refine wp_iconst dX8_takeTerm_82 ?_
        refine r_z dX8_takeTerm_83 rfl meX8_takeTerm (by first | exact Or.inl rfl | exact Or.inr rfl | omega) ?_
        first
        | (exfalso; omega)
        | (refine ⟨fun q => (by exfalso; omega), fun _ => ⟨?_, rfl⟩⟩
           have hw : ∀ w : Int, w = (if neg then -(zTz tx L i) else zTz tx L i) → zup (zup h 138 3 (zTq tx L i : Int)) 139 (zTa tx L i) ((h 139 (zTa tx L i) + w) % p) = zfl (zup h 138 3 (zTq tx L i : Int)) 139 27 (ztS p neg (zTz tx L i) (zTa tx L i) (h 139)) := by
             intro w e
             refine zts_fl hs0 hat27 (fun j => ?_)
             rw [e]
             rfl
           refine hw _ ?_
           cases neg
           · have : mm = 0 := hm
             rw [if_neg (by decide)]
             omega
           · have : mm = 1 := hm
             rw [if_pos rfl]
             omega)
      · skip
        refine w_aload0 dX8_takeTerm_51 (wp_getr 139 dX8_takeTerm_52 fl_RX8_9 is_138 rfl (w_iload6 dX8_takeTerm_55 (w_aload0 dX8_takeTerm_57 (wp_getr 139 dX8_takeTerm_58 fl_RX8_9 is_138 rfl (w_iload6 dX8_takeTerm_61 (x_iald (zTa tx L i) dX8_takeTerm_63 is_139 hat hat27 (w_iload1 dX8_takeTerm_64 ?_)))))))
        rw [hs0]
        refine wp_if_eq 74 dX8_takeTerm_65 rfl ⟨by omega, by omega⟩ (fun c65 => ?_) (fun c65 => ?_)
        · skip
          refine w_iload5 dX8_takeTerm_74 (wp_iadd dX8_takeTerm_76 (w_iload2 dX8_takeTerm_77 ?_))
          apply s_i2 (M := mX8_takeTerm) dX8_takeTerm_78 lk_RX8_57 mvX3_residue (by decide) meX8_takeTerm (Nat.le_of_ble_eq_true rfl)
          · exact t_X3_residue ⟨by omega, by omega⟩ (by omega)
          intro x78 h78 hP78
          obtain ⟨eh78, ex78⟩ := hP78
          replace eh78 := eh78.symm
          subst eh78
          replace ex78 := ex78.symm
          subst ex78
          refine x_iast (zTa tx L i) dX8_takeTerm_81 is_139 hat hat27 (wp_iconst dX8_takeTerm_82 ?_)
          refine r_z dX8_takeTerm_83 rfl meX8_takeTerm (by first | exact Or.inl rfl | exact Or.inr rfl | omega) ?_
          first
          | (exfalso; omega)
          | (refine ⟨fun q => (by exfalso; omega), fun _ => ⟨?_, rfl⟩⟩
             have hw : ∀ w : Int, w = (if neg then -(zTz tx L i) else zTz tx L i) → zup (zup h 138 3 (zTq tx L i : Int)) 139 (zTa tx L i) ((h 139 (zTa tx L i) + w) % p) = zfl (zup h 138 3 (zTq tx L i : Int)) 139 27 (ztS p neg (zTz tx L i) (zTa tx L i) (h 139)) := by
               intro w e
               refine zts_fl hs0 hat27 (fun j => ?_)
               rw [e]
               rfl
             refine hw _ ?_
             cases neg
             · have : mm = 0 := hm
               rw [if_neg (by decide)]
               omega
             · have : mm = 1 := hm
               rw [if_pos rfl]
               omega)
        · skip
          refine w_iload5 dX8_takeTerm_68 (wp_ineg dX8_takeTerm_70 (wp_goto 76 dX8_takeTerm_71 rfl (wp_iadd dX8_takeTerm_76 (w_iload2 dX8_takeTerm_77 ?_))))
          apply s_i2 (M := mX8_takeTerm) dX8_takeTerm_78 lk_RX8_57 mvX3_residue (by decide) meX8_takeTerm (Nat.le_of_ble_eq_true rfl)
          · exact t_X3_residue ⟨by omega, by omega⟩ (by omega)
          intro x78 h78 hP78
          obtain ⟨eh78, ex78⟩ := hP78
          replace eh78 := eh78.symm
          subst eh78
          replace ex78 := ex78.symm
          subst ex78
          refine x_iast (zTa tx L i) dX8_takeTerm_81 is_139 hat hat27 (wp_iconst dX8_takeTerm_82 ?_)
          refine r_z dX8_takeTerm_83 rfl meX8_takeTerm (by first | exact Or.inl rfl | exact Or.inr rfl | omega) ?_
          first
          | (exfalso; omega)
          | (refine ⟨fun q => (by exfalso; omega), fun _ => ⟨?_, rfl⟩⟩
             have hw : ∀ w : Int, w = (if neg then -(zTz tx L i) else zTz tx L i) → zup (zup h 138 3 (zTq tx L i : Int)) 139 (zTa tx L i) ((h 139 (zTa tx L i) + w) % p) = zfl (zup h 138 3 (zTq tx L i : Int)) 139 27 (ztS p neg (zTz tx L i) (zTa tx L i) (h 139)) := by
               intro w e
               refine zts_fl hs0 hat27 (fun j => ?_)
               rw [e]
               rfl
             refine hw _ ?_
             cases neg
             · have : mm = 0 := hm
               rw [if_neg (by decide)]
               omega
             · have : mm = 1 := hm
               rw [if_pos rfl]
               omega)
    · skip
      refine wp_iconst dX8_takeTerm_26 (wp_goto 31 dX8_takeTerm_27 rfl (w_istore5 dX8_takeTerm_31 rfl (by decide) (w_iload4 dX8_takeTerm_33 (wp_iconst dX8_takeTerm_35 (x_mmax dX8_takeTerm_36 lk_RX8_51 ⟨by omega, by omega⟩ ⟨by omega, by omega⟩ (by decide) (Nat.le_of_ble_eq_true rfl) meX8_takeTerm (w_istore6 dX8_takeTerm_39 rfl (by decide) (w_iload6 dX8_takeTerm_41 (w_aload0 dX8_takeTerm_43 (wp_getr 139 dX8_takeTerm_44 fl_RX8_9 is_138 rfl ?_)))))))))
      refine wp_alen dX8_takeTerm_47 is_139 (by decide) ?_
      refine wp_icmp_ge 82 dX8_takeTerm_48 rfl ⟨by omega, by omega⟩ ⟨by omega, by omega⟩ (fun c48 => ?_) (fun c48 => ?_)
      · skip
        refine wp_iconst dX8_takeTerm_82 ?_
        refine r_z dX8_takeTerm_83 rfl meX8_takeTerm (by first | exact Or.inl rfl | exact Or.inr rfl | omega) ?_
        first
        | (exfalso; omega)
        | (refine ⟨fun q => (by exfalso; omega), fun _ => ⟨?_, rfl⟩⟩
           have hw : ∀ w : Int, w = (if neg then -(zTz tx L i) else zTz tx L i) → zup (zup h 138 3 (zTq tx L i : Int)) 139 (zTa tx L i) ((h 139 (zTa tx L i) + w) % p) = zfl (zup h 138 3 (zTq tx L i : Int)) 139 27 (ztS p neg (zTz tx L i) (zTa tx L i) (h 139)) := by
             intro w e
             refine zts_fl hs0 hat27 (fun j => ?_)
             rw [e]
             rfl
           refine hw _ ?_
           cases neg
           · have : mm = 0 := hm
             rw [if_neg (by decide)]
             omega
           · have : mm = 1 := hm
             rw [if_pos rfl]
             omega)
      · skip
        refine w_aload0 dX8_takeTerm_51 (wp_getr 139 dX8_takeTerm_52 fl_RX8_9 is_138 rfl (w_iload6 dX8_takeTerm_55 (w_aload0 dX8_takeTerm_57 (wp_getr 139 dX8_takeTerm_58 fl_RX8_9 is_138 rfl (w_iload6 dX8_takeTerm_61 (x_iald (zTa tx L i) dX8_takeTerm_63 is_139 hat hat27 (w_iload1 dX8_takeTerm_64 ?_)))))))
        rw [hs0]
        refine wp_if_eq 74 dX8_takeTerm_65 rfl ⟨by omega, by omega⟩ (fun c65 => ?_) (fun c65 => ?_)
        · skip
          refine w_iload5 dX8_takeTerm_74 (wp_iadd dX8_takeTerm_76 (w_iload2 dX8_takeTerm_77 ?_))
          apply s_i2 (M := mX8_takeTerm) dX8_takeTerm_78 lk_RX8_57 mvX3_residue (by decide) meX8_takeTerm (Nat.le_of_ble_eq_true rfl)
          · exact t_X3_residue ⟨by omega, by omega⟩ (by omega)
          intro x78 h78 hP78
          obtain ⟨eh78, ex78⟩ := hP78
          replace eh78 := eh78.symm
          subst eh78
          replace ex78 := ex78.symm
          subst ex78
          refine x_iast (zTa tx L i) dX8_takeTerm_81 is_139 hat hat27 (wp_iconst dX8_takeTerm_82 ?_)
          refine r_z dX8_takeTerm_83 rfl meX8_takeTerm (by first | exact Or.inl rfl | exact Or.inr rfl | omega) ?_
          first
          | (exfalso; omega)
          | (refine ⟨fun q => (by exfalso; omega), fun _ => ⟨?_, rfl⟩⟩
             have hw : ∀ w : Int, w = (if neg then -(zTz tx L i) else zTz tx L i) → zup (zup h 138 3 (zTq tx L i : Int)) 139 (zTa tx L i) ((h 139 (zTa tx L i) + w) % p) = zfl (zup h 138 3 (zTq tx L i : Int)) 139 27 (ztS p neg (zTz tx L i) (zTa tx L i) (h 139)) := by
               intro w e
               refine zts_fl hs0 hat27 (fun j => ?_)
               rw [e]
               rfl
             refine hw _ ?_
             cases neg
             · have : mm = 0 := hm
               rw [if_neg (by decide)]
               omega
             · have : mm = 1 := hm
               rw [if_pos rfl]
               omega)
        · skip
          refine w_iload5 dX8_takeTerm_68 (wp_ineg dX8_takeTerm_70 (wp_goto 76 dX8_takeTerm_71 rfl (wp_iadd dX8_takeTerm_76 (w_iload2 dX8_takeTerm_77 ?_))))
          apply s_i2 (M := mX8_takeTerm) dX8_takeTerm_78 lk_RX8_57 mvX3_residue (by decide) meX8_takeTerm (Nat.le_of_ble_eq_true rfl)
          · exact t_X3_residue ⟨by omega, by omega⟩ (by omega)
          intro x78 h78 hP78
          obtain ⟨eh78, ex78⟩ := hP78
          replace eh78 := eh78.symm
          subst eh78
          replace ex78 := ex78.symm
          subst ex78
          refine x_iast (zTa tx L i) dX8_takeTerm_81 is_139 hat hat27 (wp_iconst dX8_takeTerm_82 ?_)
          refine r_z dX8_takeTerm_83 rfl meX8_takeTerm (by first | exact Or.inl rfl | exact Or.inr rfl | omega) ?_
          first
          | (exfalso; omega)
          | (refine ⟨fun q => (by exfalso; omega), fun _ => ⟨?_, rfl⟩⟩
             have hw : ∀ w : Int, w = (if neg then -(zTz tx L i) else zTz tx L i) → zup (zup h 138 3 (zTq tx L i : Int)) 139 (zTa tx L i) ((h 139 (zTa tx L i) + w) % p) = zfl (zup h 138 3 (zTq tx L i : Int)) 139 27 (ztS p neg (zTz tx L i) (zTa tx L i) (h 139)) := by
               intro w e
               refine zts_fl hs0 hat27 (fun j => ?_)
               rw [e]
               rfl
             refine hw _ ?_
             cases neg
             · have : mm = 0 := hm
               rw [if_neg (by decide)]
               omega
             · have : mm = 1 := hm
               rw [if_pos rfl]
               omega)
  · skip
    refine w_iload4 dX8_takeTerm_15 ?_
    refine wp_if_ge 22 dX8_takeTerm_17 rfl ⟨by omega, by omega⟩ (fun c17 => ?_) (fun c17 => ?_)
    · skip
      refine w_iload3 dX8_takeTerm_22 ?_
      refine wp_if_ge 30 dX8_takeTerm_23 rfl ⟨by omega, by omega⟩ (fun c23 => ?_) (fun c23 => ?_)
      · skip
        refine w_iload3 dX8_takeTerm_30 (w_istore5 dX8_takeTerm_31 rfl (by decide) (w_iload4 dX8_takeTerm_33 (wp_iconst dX8_takeTerm_35 (x_mmax dX8_takeTerm_36 lk_RX8_51 ⟨by omega, by omega⟩ ⟨by omega, by omega⟩ (by decide) (Nat.le_of_ble_eq_true rfl) meX8_takeTerm (w_istore6 dX8_takeTerm_39 rfl (by decide) (w_iload6 dX8_takeTerm_41 (w_aload0 dX8_takeTerm_43 (wp_getr 139 dX8_takeTerm_44 fl_RX8_9 is_138 rfl (wp_alen dX8_takeTerm_47 is_139 (by decide) ?_)))))))))
        refine wp_icmp_ge 82 dX8_takeTerm_48 rfl ⟨by omega, by omega⟩ ⟨by omega, by omega⟩ (fun c48 => ?_) (fun c48 => ?_)
        · skip
          refine wp_iconst dX8_takeTerm_82 ?_
          refine r_z dX8_takeTerm_83 rfl meX8_takeTerm (by first | exact Or.inl rfl | exact Or.inr rfl | omega) ?_
          first
          | (exfalso; omega)
          | (refine ⟨fun q => (by exfalso; omega), fun _ => ⟨?_, rfl⟩⟩
             have hw : ∀ w : Int, w = (if neg then -(zTz tx L i) else zTz tx L i) → zup (zup h 138 3 (zTq tx L i : Int)) 139 (zTa tx L i) ((h 139 (zTa tx L i) + w) % p) = zfl (zup h 138 3 (zTq tx L i : Int)) 139 27 (ztS p neg (zTz tx L i) (zTa tx L i) (h 139)) := by
               intro w e
               refine zts_fl hs0 hat27 (fun j => ?_)
               rw [e]
               rfl
             refine hw _ ?_
             cases neg
             · have : mm = 0 := hm
               rw [if_neg (by decide)]
               omega
             · have : mm = 1 := hm
               rw [if_pos rfl]
               omega)
        · skip
          refine w_aload0 dX8_takeTerm_51 (wp_getr 139 dX8_takeTerm_52 fl_RX8_9 is_138 rfl (w_iload6 dX8_takeTerm_55 (w_aload0 dX8_takeTerm_57 (wp_getr 139 dX8_takeTerm_58 fl_RX8_9 is_138 rfl (w_iload6 dX8_takeTerm_61 (x_iald (zTa tx L i) dX8_takeTerm_63 is_139 hat hat27 (w_iload1 dX8_takeTerm_64 ?_)))))))
          rw [hs0]
          refine wp_if_eq 74 dX8_takeTerm_65 rfl ⟨by omega, by omega⟩ (fun c65 => ?_) (fun c65 => ?_)
          · skip
            refine w_iload5 dX8_takeTerm_74 (wp_iadd dX8_takeTerm_76 (w_iload2 dX8_takeTerm_77 ?_))
            apply s_i2 (M := mX8_takeTerm) dX8_takeTerm_78 lk_RX8_57 mvX3_residue (by decide) meX8_takeTerm (Nat.le_of_ble_eq_true rfl)
            · exact t_X3_residue ⟨by omega, by omega⟩ (by omega)
            intro x78 h78 hP78
            obtain ⟨eh78, ex78⟩ := hP78
            replace eh78 := eh78.symm
            subst eh78
            replace ex78 := ex78.symm
            subst ex78
            refine x_iast (zTa tx L i) dX8_takeTerm_81 is_139 hat hat27 (wp_iconst dX8_takeTerm_82 ?_)
            refine r_z dX8_takeTerm_83 rfl meX8_takeTerm (by first | exact Or.inl rfl | exact Or.inr rfl | omega) ?_
            first
            | (exfalso; omega)
            | (refine ⟨fun q => (by exfalso; omega), fun _ => ⟨?_, rfl⟩⟩
               have hw : ∀ w : Int, w = (if neg then -(zTz tx L i) else zTz tx L i) → zup (zup h 138 3 (zTq tx L i : Int)) 139 (zTa tx L i) ((h 139 (zTa tx L i) + w) % p) = zfl (zup h 138 3 (zTq tx L i : Int)) 139 27 (ztS p neg (zTz tx L i) (zTa tx L i) (h 139)) := by
                 intro w e
                 refine zts_fl hs0 hat27 (fun j => ?_)
                 rw [e]
                 rfl
               refine hw _ ?_
               cases neg
               · have : mm = 0 := hm
                 rw [if_neg (by decide)]
                 omega
               · have : mm = 1 := hm
                 rw [if_pos rfl]
                 omega)
          · skip
            refine w_iload5 dX8_takeTerm_68 (wp_ineg dX8_takeTerm_70 (wp_goto 76 dX8_takeTerm_71 rfl (wp_iadd dX8_takeTerm_76 (w_iload2 dX8_takeTerm_77 ?_))))
            apply s_i2 (M := mX8_takeTerm) dX8_takeTerm_78 lk_RX8_57 mvX3_residue (by decide) meX8_takeTerm (Nat.le_of_ble_eq_true rfl)
            · exact t_X3_residue ⟨by omega, by omega⟩ (by omega)
            intro x78 h78 hP78
            obtain ⟨eh78, ex78⟩ := hP78
            replace eh78 := eh78.symm
            subst eh78
            replace ex78 := ex78.symm
            subst ex78
            refine x_iast (zTa tx L i) dX8_takeTerm_81 is_139 hat hat27 (wp_iconst dX8_takeTerm_82 ?_)
            refine r_z dX8_takeTerm_83 rfl meX8_takeTerm (by first | exact Or.inl rfl | exact Or.inr rfl | omega) ?_
            first
            | (exfalso; omega)
            | (refine ⟨fun q => (by exfalso; omega), fun _ => ⟨?_, rfl⟩⟩
               have hw : ∀ w : Int, w = (if neg then -(zTz tx L i) else zTz tx L i) → zup (zup h 138 3 (zTq tx L i : Int)) 139 (zTa tx L i) ((h 139 (zTa tx L i) + w) % p) = zfl (zup h 138 3 (zTq tx L i : Int)) 139 27 (ztS p neg (zTz tx L i) (zTa tx L i) (h 139)) := by
                 intro w e
                 refine zts_fl hs0 hat27 (fun j => ?_)
                 rw [e]
                 rfl
               refine hw _ ?_
               cases neg
               · have : mm = 0 := hm
                 rw [if_neg (by decide)]
                 omega
               · have : mm = 1 := hm
                 rw [if_pos rfl]
                 omega)
      · skip
        refine wp_iconst dX8_takeTerm_26 (wp_goto 31 dX8_takeTerm_27 rfl (w_istore5 dX8_takeTerm_31 rfl (by decide) (w_iload4 dX8_takeTerm_33 (wp_iconst dX8_takeTerm_35 (x_mmax dX8_takeTerm_36 lk_RX8_51 ⟨by omega, by omega⟩ ⟨by omega, by omega⟩ (by decide) (Nat.le_of_ble_eq_true rfl) meX8_takeTerm (w_istore6 dX8_takeTerm_39 rfl (by decide) (w_iload6 dX8_takeTerm_41 (w_aload0 dX8_takeTerm_43 (wp_getr 139 dX8_takeTerm_44 fl_RX8_9 is_138 rfl ?_)))))))))
        refine wp_alen dX8_takeTerm_47 is_139 (by decide) ?_
        refine wp_icmp_ge 82 dX8_takeTerm_48 rfl ⟨by omega, by omega⟩ ⟨by omega, by omega⟩ (fun c48 => ?_) (fun c48 => ?_)
        · skip
          refine wp_iconst dX8_takeTerm_82 ?_
          refine r_z dX8_takeTerm_83 rfl meX8_takeTerm (by first | exact Or.inl rfl | exact Or.inr rfl | omega) ?_
          first
          | (exfalso; omega)
          | (refine ⟨fun q => (by exfalso; omega), fun _ => ⟨?_, rfl⟩⟩
             have hw : ∀ w : Int, w = (if neg then -(zTz tx L i) else zTz tx L i) → zup (zup h 138 3 (zTq tx L i : Int)) 139 (zTa tx L i) ((h 139 (zTa tx L i) + w) % p) = zfl (zup h 138 3 (zTq tx L i : Int)) 139 27 (ztS p neg (zTz tx L i) (zTa tx L i) (h 139)) := by
               intro w e
               refine zts_fl hs0 hat27 (fun j => ?_)
               rw [e]
               rfl
             refine hw _ ?_
             cases neg
             · have : mm = 0 := hm
               rw [if_neg (by decide)]
               omega
             · have : mm = 1 := hm
               rw [if_pos rfl]
               omega)
        · skip
          refine w_aload0 dX8_takeTerm_51 (wp_getr 139 dX8_takeTerm_52 fl_RX8_9 is_138 rfl (w_iload6 dX8_takeTerm_55 (w_aload0 dX8_takeTerm_57 (wp_getr 139 dX8_takeTerm_58 fl_RX8_9 is_138 rfl (w_iload6 dX8_takeTerm_61 (x_iald (zTa tx L i) dX8_takeTerm_63 is_139 hat hat27 (w_iload1 dX8_takeTerm_64 ?_)))))))
          rw [hs0]
          refine wp_if_eq 74 dX8_takeTerm_65 rfl ⟨by omega, by omega⟩ (fun c65 => ?_) (fun c65 => ?_)
          · skip
            refine w_iload5 dX8_takeTerm_74 (wp_iadd dX8_takeTerm_76 (w_iload2 dX8_takeTerm_77 ?_))
            apply s_i2 (M := mX8_takeTerm) dX8_takeTerm_78 lk_RX8_57 mvX3_residue (by decide) meX8_takeTerm (Nat.le_of_ble_eq_true rfl)
            · exact t_X3_residue ⟨by omega, by omega⟩ (by omega)
            intro x78 h78 hP78
            obtain ⟨eh78, ex78⟩ := hP78
            replace eh78 := eh78.symm
            subst eh78
            replace ex78 := ex78.symm
            subst ex78
            refine x_iast (zTa tx L i) dX8_takeTerm_81 is_139 hat hat27 (wp_iconst dX8_takeTerm_82 ?_)
            refine r_z dX8_takeTerm_83 rfl meX8_takeTerm (by first | exact Or.inl rfl | exact Or.inr rfl | omega) ?_
            first
            | (exfalso; omega)
            | (refine ⟨fun q => (by exfalso; omega), fun _ => ⟨?_, rfl⟩⟩
               have hw : ∀ w : Int, w = (if neg then -(zTz tx L i) else zTz tx L i) → zup (zup h 138 3 (zTq tx L i : Int)) 139 (zTa tx L i) ((h 139 (zTa tx L i) + w) % p) = zfl (zup h 138 3 (zTq tx L i : Int)) 139 27 (ztS p neg (zTz tx L i) (zTa tx L i) (h 139)) := by
                 intro w e
                 refine zts_fl hs0 hat27 (fun j => ?_)
                 rw [e]
                 rfl
               refine hw _ ?_
               cases neg
               · have : mm = 0 := hm
                 rw [if_neg (by decide)]
                 omega
               · have : mm = 1 := hm
                 rw [if_pos rfl]
                 omega)
          · skip
            refine w_iload5 dX8_takeTerm_68 (wp_ineg dX8_takeTerm_70 (wp_goto 76 dX8_takeTerm_71 rfl (wp_iadd dX8_takeTerm_76 (w_iload2 dX8_takeTerm_77 ?_))))
            apply s_i2 (M := mX8_takeTerm) dX8_takeTerm_78 lk_RX8_57 mvX3_residue (by decide) meX8_takeTerm (Nat.le_of_ble_eq_true rfl)
            · exact t_X3_residue ⟨by omega, by omega⟩ (by omega)
            intro x78 h78 hP78
            obtain ⟨eh78, ex78⟩ := hP78
            replace eh78 := eh78.symm
            subst eh78
            replace ex78 := ex78.symm
            subst ex78
            refine x_iast (zTa tx L i) dX8_takeTerm_81 is_139 hat hat27 (wp_iconst dX8_takeTerm_82 ?_)
            refine r_z dX8_takeTerm_83 rfl meX8_takeTerm (by first | exact Or.inl rfl | exact Or.inr rfl | omega) ?_
            first
            | (exfalso; omega)
            | (refine ⟨fun q => (by exfalso; omega), fun _ => ⟨?_, rfl⟩⟩
               have hw : ∀ w : Int, w = (if neg then -(zTz tx L i) else zTz tx L i) → zup (zup h 138 3 (zTq tx L i : Int)) 139 (zTa tx L i) ((h 139 (zTa tx L i) + w) % p) = zfl (zup h 138 3 (zTq tx L i : Int)) 139 27 (ztS p neg (zTz tx L i) (zTa tx L i) (h 139)) := by
                 intro w e
                 refine zts_fl hs0 hat27 (fun j => ?_)
                 rw [e]
                 rfl
               refine hw _ ?_
               cases neg
               · have : mm = 0 := hm
                 rw [if_neg (by decide)]
                 omega
               · have : mm = 1 := hm
                 rw [if_pos rfl]
                 omega)
    · skip
      refine wp_iconst dX8_takeTerm_20 ?_
      refine r_z dX8_takeTerm_21 rfl meX8_takeTerm (by first | exact Or.inl rfl | exact Or.inr rfl | omega) ?_
      exact ⟨fun _ => ⟨rfl, rfl⟩, fun q => absurd ⟨by omega, by omega⟩ q⟩
set_option maxRecDepth 100000 in
set_option maxHeartbeats 4000000 in
theorem t_X8_parse {h : zH} {tx : Nat → Int} {L i0 : Nat} (H : zTx tx L i0 h) {p : Int} (hp : 5 ≤ p ∧ p ≤ 31) : CI yX8_parse mX8_parse [vR 138, vI p] h (fun r h' => zFr (fun a j => (a = 138 ∧ j = 3) ∨ a = 139) h h' ∧ (∃ q, zTx tx L q h') ∧ (∀ j, j < 27 → h' 139 j = (zparse tx L p).2 j ∧ 0 ≤ h' 139 j ∧ h' 139 j < p) ∧ r = (zparse tx L p).1) := by
  refine inV [some (vR 138), some (vI p), none, none] mvX8_parse rfl (Nat.le_of_ble_eq_true rfl) rfl ?_
  have H0 : zTx tx L 0 (zfl (zup h 138 3 0) 139 27 (fun _ => 0)) := by
    have h1 := zTx_up H (Nat.zero_le L)
    refine ⟨by rw [zfl_o (by omega)]; exact h1.1, h1.2.1, by rw [zfl_o (by omega)]; exact h1.2.2.1, h1.2.2.2.1, fun j hj => ?_⟩
    rw [zfl_o (by omega)]
    exact h1.2.2.2.2 j hj
  have sk0 := zsk_le (tx := tx) (Nat.zero_le L)
  have H1 := zTx_up H0 sk0.2
  have sg0 := zsgp_le (tx := tx) sk0.2
  have L24 : ∀ (zm24 : Nat) (k i : Nat) (h' : zH) (s vk : Int) (S : Nat → Int), 61 - k = zm24 → (vk = (k : Int)) → (k ≤ i) → (zTx tx L i h') → (zFr (fun a j => (a = 138 ∧ j = 3) ∨ a = 139) h h') → (∀ j, j < 27 → h' 139 j = S j ∧ 0 ≤ S j ∧ S j < p) → (-1 ≤ s ∧ s ≤ 1) → (zps tx L p (61 - k) i (decide (s < 0)) S = zparse tx L p) → WP mX8_parse (zMQ mX8_parse (zKI (fun r h' => zFr (fun a j => (a = 138 ∧ j = 3) ∨ a = 139) h h' ∧ (∃ q, zTx tx L q h') ∧ (∀ j, j < 27 → h' 139 j = (zparse tx L p).2 j ∧ 0 ≤ h' 139 j ∧ h' 139 j < p) ∧ r = (zparse tx L p).1))) 24 [some (vR 138), some (vI p), some (vI s), some (vI vk)] [] zN zGR h' := by
    intro zm24
    induction zm24 using Nat.strongRecOn with | _ zm24 ih24 => ?_
    intro k i h' s vk S hzm24 hvk hki H2 hf hS hs hz
    subst hzm24
    have hiL := H2.2.2.2.1
    have hL60 := H2.2.1
    have sk := zsk_le (tx := tx) hiL
    have H3 := zTx_up H2 sk.2
    have hS3 : ∀ j, j < 27 → 0 ≤ zup h' 138 3 (zsk tx L i : Int) 139 j ∧ zup h' 138 3 (zsk tx L i : Int) 139 j < p := fun j hj => by
      rw [zup_o (by omega), (hS j hj).1]
      exact (hS j hj).2
    have tq := zTq_le (tx := tx) sk.2
    have sk2 := zsk_le (tx := tx) tq.2.1
    have hz2 := hz
    rw [show 61 - k = 60 - k + 1 by omega] at hz2
    unfold zps at hz2
    refine w_iload3 dX8_parse_24 (wp_bipush dX8_parse_25 (by decide) ?_)
    refine wp_icmp_gt 93 dX8_parse_27 rfl ⟨by omega, by omega⟩ ⟨by omega, by omega⟩ (fun c27 => absurd c27 (by omega)) (fun c27 => ?_)
    refine w_aload0 dX8_parse_30 ?_
    apply v_v0 (M := mX8_parse) dX8_parse_31 lk_RX8_31 mvX8_skipSpaces (by decide) meX8_parse is_138 (Nat.le_of_ble_eq_true rfl)
    · exact t_X8_skipSpaces H2
    intro h31 hP31
    replace hP31 := hP31.symm
    subst hP31
    refine w_aload0 dX8_parse_34 (w_iload2 dX8_parse_35 ?_)
    refine wp_if_ge 43 dX8_parse_36 rfl ⟨by omega, by omega⟩ (fun c36 => ?_) (fun c36 => ?_)
    · skip
      have hm45 : (0 : Int) = if decide (s < 0) = true then 1 else 0 := by rw [if_neg (by simpa using c36)]
      refine wp_iconst dX8_parse_43 (w_iload1 dX8_parse_44 ?_)
      apply v_i2 (M := mX8_parse) dX8_parse_45 lk_RX8_38 mvX8_takeTerm (by decide) meX8_parse is_138 (Nat.le_of_ble_eq_true rfl)
      · exact t_X8_takeTerm H3 hm45 hp hS3
      intro x45 h45 hP45
      skip
      refine wp_if_ne 56 dX8_parse_48 rfl ⟨by omega, by omega⟩ (fun c48 => ?_) (fun c48 => ?_)
      · skip
        have hc : ¬ (zTn tx L (zsk tx L i) < 0 ∧ zTu tx L (zsk tx L i) = 0) := fun q => by have := (hP45.1 q).2; omega
        obtain ⟨e45, -⟩ := hP45.2 hc
        rw [zup_up] at e45
        have H4a := zTx_up H2 tq.2.1
        have H4 : zTx tx L (zTq tx L (zsk tx L i)) h45 := by
          rw [e45]
          refine ⟨by rw [zfl_o (by omega)]; exact H4a.1, H4a.2.1, by rw [zfl_o (by omega)]; exact H4a.2.2.1, H4a.2.2.2.1, fun j hj => ?_⟩
          rw [zfl_o (by omega)]
          exact H4a.2.2.2.2 j hj
        have H5 := zTx_up H4 sk2.2
        have a5 := H5.1
        have b5 := H5.2.2.1
        have hS5 : ∀ j, j < 27 → h45 139 j = ztS p (decide (s < 0)) (zTz tx L (zsk tx L i)) (zTa tx L (zsk tx L i)) S j ∧ 0 ≤ ztS p (decide (s < 0)) (zTz tx L (zsk tx L i)) (zTa tx L (zsk tx L i)) S j ∧ ztS p (decide (s < 0)) (zTz tx L (zsk tx L i)) (zTa tx L (zsk tx L i)) S j < p := fun j hj => by
          have e9 : zup h' 138 3 (zsk tx L i : Int) 139 = h' 139 := zup_a (by decide)
          rw [e45, zfl_i hj, e9]
          unfold ztS
          have hSj := hS j hj
          by_cases e : j = zTa tx L (zsk tx L i)
          · rw [if_pos e, if_pos e, hSj.1]
            exact ⟨rfl, z_mod (by omega) _⟩
          · rw [if_neg e, if_neg e, hSj.1]
            exact ⟨rfl, hSj.2⟩
        rw [if_neg hc] at hz2
        refine w_aload0 dX8_parse_56 ?_
        apply v_v0 (M := mX8_parse) dX8_parse_57 lk_RX8_31 mvX8_skipSpaces (by decide) meX8_parse is_138 (Nat.le_of_ble_eq_true rfl)
        · exact t_X8_skipSpaces H4
        intro h57 hP57
        replace hP57 := hP57.symm
        subst hP57
        refine w_aload0 dX8_parse_60 (wp_geti dX8_parse_61 fl_RX8_22 is_138 (w_aload0 dX8_parse_64 (wp_geti dX8_parse_65 fl_RX8_18 is_138 ?_)))
        rw [a5, b5]
        refine wp_icmp_lt 73 dX8_parse_68 rfl ⟨by omega, by omega⟩ ⟨by omega, by omega⟩ (fun c68 => ?_) (fun c68 => ?_)
        · skip
          refine w_aload0 dX8_parse_73 ?_
          apply v_i0 (M := mX8_parse) dX8_parse_74 lk_RX8_34 mvX8_takeSign (by decide) meX8_parse is_138 (Nat.le_of_ble_eq_true rfl)
          · exact t_X8_takeSign H5
          intro x74 h74 hP74
          obtain ⟨eh74, ex74⟩ := hP74
          subst eh74
          subst ex74
          refine w_istore2 dX8_parse_77 rfl (by decide) (w_iload2 dX8_parse_78 ?_)
          have sgi := zsg_in tx L (zsk tx L (zTq tx L (zsk tx L i)))
          refine wp_if_ne 87 dX8_parse_79 rfl ⟨by omega, by omega⟩ (fun c79 => ?_) (fun c79 => ?_)
          · skip
            refine w_iinc3 dX8_parse_87 rfl (by decide) (wp_goto 24 dX8_parse_90 rfl ?_)
            rw [if_neg (by omega), if_neg c79] at hz2
            have sg5 := zsgp_le (tx := tx) (i := zsk tx L (zTq tx L (zsk tx L i))) sk2.2
            have hsgp : zsgp tx L (zsk tx L (zTq tx L (zsk tx L i))) = zsk tx L (zTq tx L (zsk tx L i)) + 1 := by
              have c9 := c79
              unfold zsg at c9
              unfold zsgp
              by_cases a1 : zpeek tx L (zsk tx L (zTq tx L (zsk tx L i))) = 43
              · rw [if_pos a1]
              · rw [if_neg a1] at c9 ⊢
                by_cases a2 : zpeek tx L (zsk tx L (zTq tx L (zsk tx L i))) = 45
                · rw [if_pos a2]
                · rw [if_neg a2] at c9
                  exact absurd rfl c9
            rw [hsgp] at sg5 ⊢
            refine ih24 _ (by omega) (k + 1) _ _ _ _ _ rfl (by omega) (by omega) (zTx_up H5 sg5.2) ?_ ?_ ?_ (by rw [show 61 - (k + 1) = 60 - k by omega]; exact hz2)
            · intro a j n
              rw [zup_o (by omega), zup_o (by omega), e45, zfl_o (by omega), zup_o (by omega)]
              exact hf a j n
            · intro j hj
              rw [zup_o (by omega), zup_o (by omega)]
              exact hS5 j hj
            · unfold zsg
              split
              · omega
              · split <;> omega
          · skip
            refine w_aload0 dX8_parse_82 (wp_geti dX8_parse_83 fl_RX8_22 is_138 ?_)
            refine r_i dX8_parse_86 rfl meX8_parse ?_
            rw [if_neg (by omega), if_pos c79] at hz2
            rw [← hz2]
            have hsgp : zsgp tx L (zsk tx L (zTq tx L (zsk tx L i))) = zsk tx L (zTq tx L (zsk tx L i)) := by
              have c9 := c79
              unfold zsg at c9
              unfold zsgp
              by_cases a1 : zpeek tx L (zsk tx L (zTq tx L (zsk tx L i))) = 43
              · rw [if_pos a1] at c9
                exact absurd c9 (by decide)
              · rw [if_neg a1] at c9 ⊢
                by_cases a2 : zpeek tx L (zsk tx L (zTq tx L (zsk tx L i))) = 45
                · rw [if_pos a2] at c9
                  exact absurd c9 (by decide)
                · rw [if_neg a2]
            rw [hsgp]
            have H6 := zTx_up H5 sk2.2
            refine ⟨fun a j n => ?_, ⟨_, H6⟩, fun j hj => ?_, H6.2.2.1⟩
            · rw [zup_o (by omega), zup_o (by omega), e45, zfl_o (by omega), zup_o (by omega)]
              exact hf a j n
            · rw [zup_o (by omega), zup_o (by omega)]
              exact ⟨(hS5 j hj).1, by rw [(hS5 j hj).1]; exact (hS5 j hj).2⟩
        · skip
          refine wp_iconst dX8_parse_71 ?_
          refine r_i dX8_parse_72 rfl meX8_parse ?_
          rw [if_pos (by omega)] at hz2
          rw [← hz2]
          refine ⟨fun a j n => ?_, ⟨_, H5⟩, fun j hj => ?_, rfl⟩
          · rw [zup_o (by omega), e45, zfl_o (by omega), zup_o (by omega)]
            exact hf a j n
          · rw [zup_o (by omega)]
            exact ⟨(hS5 j hj).1, by rw [(hS5 j hj).1]; exact (hS5 j hj).2⟩
      · skip
        have hc : zTn tx L (zsk tx L i) < 0 ∧ zTu tx L (zsk tx L i) = 0 := Classical.byContradiction (fun q => by have := (hP45.2 q).2; omega)
        obtain ⟨e45, -⟩ := hP45.1 hc
        rw [zup_up] at e45
        have H4 : zTx tx L (zTq tx L (zsk tx L i)) h45 := by rw [e45]; exact zTx_up H2 tq.2.1
        rw [if_pos hc] at hz2
        refine w_aload0 dX8_parse_51 (wp_geti dX8_parse_52 fl_RX8_22 is_138 ?_)
        refine r_i dX8_parse_55 rfl meX8_parse ?_
        rw [← hz2]
        refine ⟨fun a j n => ?_, ⟨_, H4⟩, fun j hj => ?_, H4.2.2.1⟩
        · rw [e45, zup_o (by omega)]
          exact hf a j n
        · rw [e45, zup_o (by omega)]
          exact ⟨(hS j hj).1, by rw [(hS j hj).1]; exact (hS j hj).2⟩
    · skip
      have hm45 : (1 : Int) = if decide (s < 0) = true then 1 else 0 := by rw [if_pos (by simpa using c36)]
      refine wp_iconst dX8_parse_39 (wp_goto 44 dX8_parse_40 rfl (w_iload1 dX8_parse_44 ?_))
      apply v_i2 (M := mX8_parse) dX8_parse_45 lk_RX8_38 mvX8_takeTerm (by decide) meX8_parse is_138 (Nat.le_of_ble_eq_true rfl)
      · exact t_X8_takeTerm H3 hm45 hp hS3
      intro x45 h45 hP45
      skip
      refine wp_if_ne 56 dX8_parse_48 rfl ⟨by omega, by omega⟩ (fun c48 => ?_) (fun c48 => ?_)
      · skip
        have hc : ¬ (zTn tx L (zsk tx L i) < 0 ∧ zTu tx L (zsk tx L i) = 0) := fun q => by have := (hP45.1 q).2; omega
        obtain ⟨e45, -⟩ := hP45.2 hc
        rw [zup_up] at e45
        have H4a := zTx_up H2 tq.2.1
        have H4 : zTx tx L (zTq tx L (zsk tx L i)) h45 := by
          rw [e45]
          refine ⟨by rw [zfl_o (by omega)]; exact H4a.1, H4a.2.1, by rw [zfl_o (by omega)]; exact H4a.2.2.1, H4a.2.2.2.1, fun j hj => ?_⟩
          rw [zfl_o (by omega)]
          exact H4a.2.2.2.2 j hj
        have H5 := zTx_up H4 sk2.2
        have a5 := H5.1
        have b5 := H5.2.2.1
        have hS5 : ∀ j, j < 27 → h45 139 j = ztS p (decide (s < 0)) (zTz tx L (zsk tx L i)) (zTa tx L (zsk tx L i)) S j ∧ 0 ≤ ztS p (decide (s < 0)) (zTz tx L (zsk tx L i)) (zTa tx L (zsk tx L i)) S j ∧ ztS p (decide (s < 0)) (zTz tx L (zsk tx L i)) (zTa tx L (zsk tx L i)) S j < p := fun j hj => by
          have e9 : zup h' 138 3 (zsk tx L i : Int) 139 = h' 139 := zup_a (by decide)
          rw [e45, zfl_i hj, e9]
          unfold ztS
          have hSj := hS j hj
          by_cases e : j = zTa tx L (zsk tx L i)
          · rw [if_pos e, if_pos e, hSj.1]
            exact ⟨rfl, z_mod (by omega) _⟩
          · rw [if_neg e, if_neg e, hSj.1]
            exact ⟨rfl, hSj.2⟩
        rw [if_neg hc] at hz2
        refine w_aload0 dX8_parse_56 ?_
        apply v_v0 (M := mX8_parse) dX8_parse_57 lk_RX8_31 mvX8_skipSpaces (by decide) meX8_parse is_138 (Nat.le_of_ble_eq_true rfl)
        · exact t_X8_skipSpaces H4
        intro h57 hP57
        replace hP57 := hP57.symm
        subst hP57
        refine w_aload0 dX8_parse_60 (wp_geti dX8_parse_61 fl_RX8_22 is_138 (w_aload0 dX8_parse_64 (wp_geti dX8_parse_65 fl_RX8_18 is_138 ?_)))
        rw [a5, b5]
        refine wp_icmp_lt 73 dX8_parse_68 rfl ⟨by omega, by omega⟩ ⟨by omega, by omega⟩ (fun c68 => ?_) (fun c68 => ?_)
        · skip
          refine w_aload0 dX8_parse_73 ?_
          apply v_i0 (M := mX8_parse) dX8_parse_74 lk_RX8_34 mvX8_takeSign (by decide) meX8_parse is_138 (Nat.le_of_ble_eq_true rfl)
          · exact t_X8_takeSign H5
          intro x74 h74 hP74
          obtain ⟨eh74, ex74⟩ := hP74
          subst eh74
          subst ex74
          refine w_istore2 dX8_parse_77 rfl (by decide) (w_iload2 dX8_parse_78 ?_)
          have sgi := zsg_in tx L (zsk tx L (zTq tx L (zsk tx L i)))
          refine wp_if_ne 87 dX8_parse_79 rfl ⟨by omega, by omega⟩ (fun c79 => ?_) (fun c79 => ?_)
          · skip
            refine w_iinc3 dX8_parse_87 rfl (by decide) (wp_goto 24 dX8_parse_90 rfl ?_)
            rw [if_neg (by omega), if_neg c79] at hz2
            have sg5 := zsgp_le (tx := tx) (i := zsk tx L (zTq tx L (zsk tx L i))) sk2.2
            have hsgp : zsgp tx L (zsk tx L (zTq tx L (zsk tx L i))) = zsk tx L (zTq tx L (zsk tx L i)) + 1 := by
              have c9 := c79
              unfold zsg at c9
              unfold zsgp
              by_cases a1 : zpeek tx L (zsk tx L (zTq tx L (zsk tx L i))) = 43
              · rw [if_pos a1]
              · rw [if_neg a1] at c9 ⊢
                by_cases a2 : zpeek tx L (zsk tx L (zTq tx L (zsk tx L i))) = 45
                · rw [if_pos a2]
                · rw [if_neg a2] at c9
                  exact absurd rfl c9
            rw [hsgp] at sg5 ⊢
            refine ih24 _ (by omega) (k + 1) _ _ _ _ _ rfl (by omega) (by omega) (zTx_up H5 sg5.2) ?_ ?_ ?_ (by rw [show 61 - (k + 1) = 60 - k by omega]; exact hz2)
            · intro a j n
              rw [zup_o (by omega), zup_o (by omega), e45, zfl_o (by omega), zup_o (by omega)]
              exact hf a j n
            · intro j hj
              rw [zup_o (by omega), zup_o (by omega)]
              exact hS5 j hj
            · unfold zsg
              split
              · omega
              · split <;> omega
          · skip
            refine w_aload0 dX8_parse_82 (wp_geti dX8_parse_83 fl_RX8_22 is_138 ?_)
            refine r_i dX8_parse_86 rfl meX8_parse ?_
            rw [if_neg (by omega), if_pos c79] at hz2
            rw [← hz2]
            have hsgp : zsgp tx L (zsk tx L (zTq tx L (zsk tx L i))) = zsk tx L (zTq tx L (zsk tx L i)) := by
              have c9 := c79
              unfold zsg at c9
              unfold zsgp
              by_cases a1 : zpeek tx L (zsk tx L (zTq tx L (zsk tx L i))) = 43
              · rw [if_pos a1] at c9
                exact absurd c9 (by decide)
              · rw [if_neg a1] at c9 ⊢
                by_cases a2 : zpeek tx L (zsk tx L (zTq tx L (zsk tx L i))) = 45
                · rw [if_pos a2] at c9
                  exact absurd c9 (by decide)
                · rw [if_neg a2]
            rw [hsgp]
            have H6 := zTx_up H5 sk2.2
            refine ⟨fun a j n => ?_, ⟨_, H6⟩, fun j hj => ?_, H6.2.2.1⟩
            · rw [zup_o (by omega), zup_o (by omega), e45, zfl_o (by omega), zup_o (by omega)]
              exact hf a j n
            · rw [zup_o (by omega), zup_o (by omega)]
              exact ⟨(hS5 j hj).1, by rw [(hS5 j hj).1]; exact (hS5 j hj).2⟩
        · skip
          refine wp_iconst dX8_parse_71 ?_
          refine r_i dX8_parse_72 rfl meX8_parse ?_
          rw [if_pos (by omega)] at hz2
          rw [← hz2]
          refine ⟨fun a j n => ?_, ⟨_, H5⟩, fun j hj => ?_, rfl⟩
          · rw [zup_o (by omega), e45, zfl_o (by omega), zup_o (by omega)]
            exact hf a j n
          · rw [zup_o (by omega)]
            exact ⟨(hS5 j hj).1, by rw [(hS5 j hj).1]; exact (hS5 j hj).2⟩
      · skip
        have hc : zTn tx L (zsk tx L i) < 0 ∧ zTu tx L (zsk tx L i) = 0 := Classical.byContradiction (fun q => by have := (hP45.2 q).2; omega)
        obtain ⟨e45, -⟩ := hP45.1 hc
        rw [zup_up] at e45
        have H4 : zTx tx L (zTq tx L (zsk tx L i)) h45 := by rw [e45]; exact zTx_up H2 tq.2.1
        rw [if_pos hc] at hz2
        refine w_aload0 dX8_parse_51 (wp_geti dX8_parse_52 fl_RX8_22 is_138 ?_)
        refine r_i dX8_parse_55 rfl meX8_parse ?_
        rw [← hz2]
        refine ⟨fun a j n => ?_, ⟨_, H4⟩, fun j hj => ?_, H4.2.2.1⟩
        · rw [e45, zup_o (by omega)]
          exact hf a j n
        · rw [e45, zup_o (by omega)]
          exact ⟨(hS j hj).1, by rw [(hS j hj).1]; exact (hS j hj).2⟩
  refine w_aload0 dX8_parse_0 (wp_iconst dX8_parse_1 (wp_puti dX8_parse_2 fl_RX8_22 is_138 rfl (w_aload0 dX8_parse_5 (wp_getr 139 dX8_parse_6 fl_RX8_9 is_138 rfl (wp_iconst dX8_parse_9 ?_)))))
  apply s_v2 (M := mX8_parse) dX8_parse_10 lk_RX8_25 mvJ7_fill_53178 (by decide) meX8_parse (Nat.le_of_ble_eq_true rfl)
  · exact t_J7_fill_53178 is_139
  intro h10 hP10
  replace hP10 := hP10.symm
  subst hP10
  refine w_aload0 dX8_parse_13 ?_
  apply v_v0 (M := mX8_parse) dX8_parse_14 lk_RX8_31 mvX8_skipSpaces (by decide) meX8_parse is_138 (Nat.le_of_ble_eq_true rfl)
  · exact t_X8_skipSpaces H0
  intro h14 hP14
  replace hP14 := hP14.symm
  subst hP14
  refine w_aload0 dX8_parse_17 ?_
  apply v_i0 (M := mX8_parse) dX8_parse_18 lk_RX8_34 mvX8_takeSign (by decide) meX8_parse is_138 (Nat.le_of_ble_eq_true rfl)
  · exact t_X8_takeSign H1
  intro x18 h18 hP18
  obtain ⟨eh18, ex18⟩ := hP18
  subst eh18
  subst ex18
  refine w_istore2 dX8_parse_21 rfl (by decide) (wp_iconst dX8_parse_22 (w_istore3 dX8_parse_23 rfl (by decide) ?_))
  refine L24 _ 0 _ _ _ _ (fun _ => 0) rfl rfl (Nat.zero_le _) (zTx_up H1 sg0.2) ?_ (fun j hj => ?_) ?_ rfl
  · intro a j n
    rw [zup_o (by omega), zup_o (by omega), zfl_o (by omega), zup_o (by omega)]
  · rw [zup_o (by omega), zup_o (by omega), zfl_i hj]
    exact ⟨rfl, Int.le_refl 0, by omega⟩
  · unfold zsg
    split
    · omega
    · split <;> omega
