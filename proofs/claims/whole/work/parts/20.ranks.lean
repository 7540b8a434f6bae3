
theorem zrd_congr {p : Int} {B : Nat → Nat → Int} {L : Nat → Nat} {v w : Nat → Int} (h : ∀ q, q < 16 → v q = w q) : ∀ b, (∀ i, i < b → L i < 8) → ∀ q, q < 16 → zrd p B L b v q = zrd p B L b w q := by
  intro b
  induction b with
  | zero => intro _; exact h
  | succ b ih =>
    intro hL q hq
    have ih2 := ih (fun i hi => hL i (by omega))
    have hb := hL b (by omega)
    show (if zrd p B L b v (L b) = 0 then zrd p B L b v q else _) = (if zrd p B L b w (L b) = 0 then zrd p B L b w q else _)
    rw [ih2 q hq, ih2 (L b) (by omega)]
/-- what a span holds after it took V 0 .. V (n - 1): how many rows, rows, leads, the latest relation -/
def zTs (p : Int) (V : Nat → Nat → Int) : Nat → Nat × (Nat → Nat → Int) × (Nat → Nat) × (Nat → Int)
  | 0 => (0, fun _ _ => 0, fun _ => 0, fun _ => 0)
  | n + 1 => if zld (zrd p (zTs p V n).2.1 (zTs p V n).2.2.1 (zTs p V n).1 (V n)) 8 0 < 8 then ((zTs p V n).1 + 1, zupB (zTs p V n).2.1 (zTs p V n).1 (zrd p (zTs p V n).2.1 (zTs p V n).2.2.1 (zTs p V n).1 (V n)), zupN (zTs p V n).2.2.1 (zTs p V n).1 (zld (zrd p (zTs p V n).2.1 (zTs p V n).2.2.1 (zTs p V n).1 (V n)) 8 0), (zTs p V n).2.2.2) else ((zTs p V n).1, (zTs p V n).2.1, (zTs p V n).2.2.1, fun j => zrd p (zTs p V n).2.1 (zTs p V n).2.2.1 (zTs p V n).1 (V n) (8 + j))
/-- whether V n is no combination of those before -/
def zTfl (p : Int) (V : Nat → Nat → Int) (n : Nat) : Prop := zld (zrd p (zTs p V n).2.1 (zTs p V n).2.2.1 (zTs p V n).1 (V n)) 8 0 < 8
theorem zTs_y {p : Int} {V : Nat → Nat → Int} {n : Nat} (h : zTfl p V n) : zTs p V (n + 1) = ((zTs p V n).1 + 1, zupB (zTs p V n).2.1 (zTs p V n).1 (zrd p (zTs p V n).2.1 (zTs p V n).2.2.1 (zTs p V n).1 (V n)), zupN (zTs p V n).2.2.1 (zTs p V n).1 (zld (zrd p (zTs p V n).2.1 (zTs p V n).2.2.1 (zTs p V n).1 (V n)) 8 0), (zTs p V n).2.2.2) := if_pos h
theorem zTs_n {p : Int} {V : Nat → Nat → Int} {n : Nat} (h : ¬ zTfl p V n) : zTs p V (n + 1) = ((zTs p V n).1, (zTs p V n).2.1, (zTs p V n).2.2.1, fun j => zrd p (zTs p V n).2.1 (zTs p V n).2.2.1 (zTs p V n).1 (V n) (8 + j)) := if_neg h
theorem zTs_le {p : Int} {V : Nat → Nat → Int} : ∀ n, (zTs p V n).1 ≤ n := by
  intro n
  induction n with
  | zero => exact Nat.le_refl _
  | succ n ih =>
    by_cases h : zTfl p V n
    · rw [zTs_y h]
      show (zTs p V n).1 + 1 ≤ _
      omega
    · rw [zTs_n h]
      show (zTs p V n).1 ≤ _
      omega
theorem zTs_R {p : Int} (hp : 0 < p) {V : Nat → Nat → Int} (hV : ∀ n q, 0 ≤ V n q ∧ V n q < p) : ∀ n j, 0 ≤ (zTs p V n).2.2.2 j ∧ (zTs p V n).2.2.2 j < p := by
  intro n
  induction n with
  | zero => intro j; exact ⟨Int.le_refl 0, hp⟩
  | succ n ih =>
    by_cases h : zTfl p V n
    · rw [zTs_y h]
      exact ih
    · rw [zTs_n h]
      intro j
      exact zrd_in hp (hV n (8 + j)) _
def zTH (p : Int) (V : Nat → Nat → Int) (n : Nat) (h : zH) : Prop := zSp p (zTs p V n).1 (zTs p V n).2.1 (zTs p V n).2.2.1 h ∧ ∀ j, j < 8 → h 81 j = (zTs p V n).2.2.2 j
theorem zTH_fr {p : Int} {V : Nat → Nat → Int} {n : Nat} {h h' : zH} (H : zTH p V n h) (e : ∀ a j, a = 79 ∨ a = 81 ∨ (83 ≤ a ∧ a ≤ 91) → h' a j = h a j) (hn : n ≤ 8) : zTH p V n h' := by
  have hle := zTs_le (p := p) (V := V) n
  obtain ⟨⟨h1, h2, h3⟩, h4⟩ := H
  refine ⟨⟨by rw [e _ _ (by omega)]; exact h1, by rw [e _ _ (by omega)]; exact h2, fun b hb => ?_⟩, fun j hj => by rw [e _ _ (by omega)]; exact h4 j hj⟩
  obtain ⟨g1, g2, g3⟩ := h3 b hb
  exact ⟨by rw [e _ _ (by omega)]; exact g1, g2, fun q hq => by rw [e _ _ (by omega)]; exact g3 q hq⟩
theorem zTH_0 {p : Int} {V : Nat → Nat → Int} {h : zH} : zTH p V 0 (zfl (zup (zup h 79 0 0) 79 5 p) 81 8 (fun _ => 0)) := by
  refine ⟨⟨?_, ?_, fun b hb => absurd hb (Nat.not_lt_zero b)⟩, fun j hj => zfl_i hj⟩
  · rw [zfl_o (by omega), zup_o (by omega), zup_s]
    rfl
  · rw [zfl_o (by omega), zup_s]
theorem zT_step {p : Int} {V : Nat → Nat → Int} {n : Nat} {h h' : zH} {r : Int} (H : zTH p V n h) (hV : ∀ q, q < 16 → h 80 q = V n q) (hn : n < 8) (P : zFr zFSp h h' ∧ (zld (zrd p (zTs p V n).2.1 (zTs p V n).2.2.1 (zTs p V n).1 (h 80)) 8 0 < 8 → r = 1 ∧ zSp p ((zTs p V n).1 + 1) (zupB (zTs p V n).2.1 (zTs p V n).1 (zrd p (zTs p V n).2.1 (zTs p V n).2.2.1 (zTs p V n).1 (h 80))) (zupN (zTs p V n).2.2.1 (zTs p V n).1 (zld (zrd p (zTs p V n).2.1 (zTs p V n).2.2.1 (zTs p V n).1 (h 80)) 8 0)) h' ∧ ∀ j, h' 81 j = h 81 j) ∧ (8 ≤ zld (zrd p (zTs p V n).2.1 (zTs p V n).2.2.1 (zTs p V n).1 (h 80)) 8 0 → r = 0 ∧ zSp p (zTs p V n).1 (zTs p V n).2.1 (zTs p V n).2.2.1 h' ∧ ∀ j, j < 8 → h' 81 j = zrd p (zTs p V n).2.1 (zTs p V n).2.2.1 (zTs p V n).1 (h 80) (8 + j))) :
    zFr zFSp h h' ∧ zTH p V (n + 1) h' ∧ ((zTfl p V n ∧ r = 1) ∨ (¬ zTfl p V n ∧ r = 0)) := by
  obtain ⟨P1, P2, P3⟩ := P
  have hle := zTs_le (p := p) (V := V) n
  have hL : ∀ i, i < (zTs p V n).1 → (zTs p V n).2.2.1 i < 8 := fun i hi => (H.1.2.2 i hi).2.1
  have hc := zrd_congr (p := p) (B := (zTs p V n).2.1) hV (zTs p V n).1 hL
  have hz : zld (zrd p (zTs p V n).2.1 (zTs p V n).2.2.1 (zTs p V n).1 (h 80)) 8 0 = zld (zrd p (zTs p V n).2.1 (zTs p V n).2.2.1 (zTs p V n).1 (V n)) 8 0 := zld_congr 8 0 (fun j _ hj => hc j (by omega))
  rw [hz] at P2 P3
  refine ⟨P1, ?_⟩
  by_cases w : zTfl p V n
  · obtain ⟨q1, ⟨k1, k2, k3⟩, q3⟩ := P2 w
    refine ⟨?_, Or.inl ⟨w, q1⟩⟩
    unfold zTH
    rw [zTs_y w]
    refine ⟨⟨k1, k2, fun b hb => ?_⟩, fun j hj => (q3 j).trans (H.2 j hj)⟩
    obtain ⟨g1, g2, g3⟩ := k3 b hb
    refine ⟨g1, g2, fun q hq => ?_⟩
    have g4 := g3 q hq
    unfold zupB at g4 ⊢
    dsimp only at g4 ⊢
    split at g4
    · next e =>
      rw [if_pos e]
      rw [hc q hq] at g4
      exact g4
    · next e =>
      rw [if_neg e]
      exact g4
  · have hw8 : 8 ≤ zld (zrd p (zTs p V n).2.1 (zTs p V n).2.2.1 (zTs p V n).1 (V n)) 8 0 := by
      unfold zTfl at w
      omega
    obtain ⟨q1, q2, q3⟩ := P3 hw8
    refine ⟨?_, Or.inr ⟨w, q1⟩⟩
    unfold zTH
    rw [zTs_n w]
    exact ⟨q2, fun j hj => (q3 j hj).trans (hc _ (by omega))⟩
/-- a row of the matrix at t, a row of the unit matrix behind it -/
def zRw (p : Int) (c : Nat → Nat → Int) (t : Int) (row : Nat) : Nat → Int := fun j => if j = 8 + row then 1 else if j < zsd c then zhor t p 7 (zEn p c (8 * row + j)) else 0
def zCl (p : Int) (c : Nat → Nat → Int) (t : Int) (col : Nat) : Nat → Int := fun j => if j < zsd c then zhor t p 7 (zEn p c (8 * j + col)) else 0
theorem zRw_in {p : Int} (hp : 1 < p) {c : Nat → Nat → Int} {t : Int} (row q : Nat) : 0 ≤ zRw p c t row q ∧ zRw p c t row q < p := by
  unfold zRw
  split
  · omega
  · split
    · exact zhor_in (by omega) _ _
    · omega
theorem zCl_in {p : Int} (hp : 1 < p) {c : Nat → Nat → Int} {t : Int} (col q : Nat) : 0 ≤ zCl p c t col q ∧ zCl p c t col q < p := by
  unfold zCl
  split
  · exact zhor_in (by omega) _ _
  · omega
/-- the rows in the order of the examination: row 0 last -/
def zVx (p : Int) (c : Nat → Nat → Int) (t : Int) (i : Nat) : Nat → Int := zRw p c t (if i + 1 < zsd c then i + 1 else 0)
def zrk (p : Int) (c : Nat → Nat → Int) (t : Nat) : Nat := (zTs p (zVx p c t) (zsd c)).1
def zrkw (p : Int) (c : Nat → Nat → Int) (t : Nat) : Nat := (zTs p (zVx p c t) (zsd c - 1)).1
def zrel (p : Int) (c : Nat → Nat → Int) (t : Nat) : Nat → Int := (zTs p (zVx p c t) (zsd c)).2.2.2
def zrat (p : Int) (R : Nat → Int) (n : Nat) : Int := if R 0 = 0 then -9 else R n * zinv (R 0) p % p
def zabs (p : Int) (c : Nat → Nat → Int) (t : Nat) : Int := if zrk p c t = zsd c - 1 ∧ zgd c 0 = 2 then zrat p (zrel p c t) 1 else -9
def zord (p : Int) (c : Nat → Nat → Int) (t : Nat) : Int := if zrk p c t = zsd c - 1 then zrat p (zrel p c t) (zgd c 0) else -9
def zDx (p : Int) (c : Nat → Nat → Int) (h : zH) : Prop := h 7 0 = (zgd c 0 : Int) ∧ h 7 1 = (zgd c 1 : Int) ∧ h 7 2 = (zsd c : Int) ∧ ∀ q, q < 64 → ∀ e, e < 7 → h (9 + q) e = zEn p c q e
theorem zDx_fr {p : Int} {c : Nat → Nat → Int} {h h' : zH} (H : zDx p c h) (e : ∀ a j, (a = 7 ∧ j < 3) ∨ (9 ≤ a ∧ a < 73) → h' a j = h a j) : zDx p c h' := by
  obtain ⟨h1, h2, h3, h4⟩ := H
  exact ⟨by rw [e _ _ (by omega)]; exact h1, by rw [e _ _ (by omega)]; exact h2, by rw [e _ _ (by omega)]; exact h3, fun q hq i hi => by rw [e _ _ (by omega)]; exact h4 q hq i hi⟩
def zRkT (p : Int) (c : Nat → Nat → Int) (t : Nat) (h : zH) : Prop := h 92 t = (zrk p c t : Int) ∧ h 93 t = (zrkw p c t : Int) ∧ h 94 t = zabs p c t ∧ h 95 t = zord p c t
/-- what the ranks object keeps: the set s of the t that were examined -/
def zRk (p : Int) (c : Nat → Nat → Int) (h : zH) : Prop := ∃ s : Nat, h 78 13 = (s : Int) ∧ s < 2147483648 ∧ ∀ t : Nat, (t : Int) < p → s / 2 ^ t % 2 = 1 → zRkT p c t h
def zFx (t a j : Nat) : Prop := (80 ≤ a ∧ a ≤ 91 ∧ a ≠ 82) ∨ (a = 79 ∧ (j = 0 ∨ j = 5)) ∨ (92 ≤ a ∧ a ≤ 95 ∧ j = t)
def zFRk (t a j : Nat) : Prop := (80 ≤ a ∧ a ≤ 91 ∧ a ≠ 82) ∨ (92 ≤ a ∧ a ≤ 95 ∧ j = t) ∨ (a = 79 ∧ (j = 0 ∨ j = 5)) ∨ (a = 78 ∧ j = 13)
theorem zRkT_fr {p : Int} {c : Nat → Nat → Int} {t : Nat} {h h' : zH} (H : zRkT p c t h) (e : ∀ a, 92 ≤ a → a ≤ 95 → h' a t = h a t) : zRkT p c t h' := by
  obtain ⟨h1, h2, h3, h4⟩ := H
  exact ⟨by rw [e _ (by omega) (by omega)]; exact h1, by rw [e _ (by omega) (by omega)]; exact h2, by rw [e _ (by omega) (by omega)]; exact h3, by rw [e _ (by omega) (by omega)]; exact h4⟩
theorem zRk_fr {p : Int} {c : Nat → Nat → Int} {h h' : zH} (H : zRk p c h) (e : ∀ a j, (a = 78 ∧ j = 13) ∨ (92 ≤ a ∧ a ≤ 95) → h' a j = h a j) : zRk p c h' := by
  obtain ⟨s, h1, h2, h3⟩ := H
  exact ⟨s, by rw [e _ _ (by omega)]; exact h1, h2, fun t ht hb => zRkT_fr (h3 t ht hb) (fun a ha hb => e _ _ (by omega))⟩
theorem zEn_in {p : Int} (hp : 0 < p) {c : Nat → Nat → Int} {q e : Nat} : 0 ≤ zEn p c q e ∧ zEn p c q e < p := z_mod hp _
theorem zDx_E {p : Int} (hp : 0 < p) {c : Nat → Nat → Int} {h : zH} (H : zDx p c h) : ∀ q, q < 64 → ∀ e, e < 7 → h (9 + q) e = zEn p c q e ∧ 0 ≤ zEn p c q e ∧ zEn p c q e < p := fun q hq e he => ⟨H.2.2.2 q hq e he, zEn_in hp⟩
def zgt (p : Int) (c : Nat → Nat → Int) : Nat → Nat
  | 0 => 0
  | n + 1 => max (zgt p c n) (zrk p c n)
def zgw (p : Int) (c : Nat → Nat → Int) : Nat → Nat
  | 0 => 0
  | n + 1 => max (zgw p c n) (zrkw p c n)
/-- the first t with the greatest rank -/
def zpv (p : Int) (c : Nat → Nat → Int) : Nat → Nat
  | 0 => 0
  | n + 1 => if zgt p c n < zrk p c n then n else zpv p c n
theorem zpv_lt {p : Int} {c : Nat → Nat → Int} : ∀ n, 0 < n → zpv p c n < n := by
  intro n
  induction n with
  | zero => intro h; exact absurd h (Nat.lt_irrefl 0)
  | succ n ih =>
    intro _
    show (if zgt p c n < zrk p c n then n else zpv p c n) < n + 1
    split
    · omega
    · by_cases e : n = 0
      · rw [e]; show 0 < 1; omega
      · have := ih (by omega); omega
theorem zrk_le {p : Int} {c : Nat → Nat → Int} {t : Nat} : zrk p c t ≤ zsd c := zTs_le _
theorem zrkw_le {p : Int} {c : Nat → Nat → Int} {t : Nat} : zrkw p c t ≤ zsd c - 1 := zTs_le _
theorem zgt_le {p : Int} {c : Nat → Nat → Int} : ∀ n, zgt p c n ≤ zsd c := by
  intro n
  induction n with
  | zero => exact Nat.zero_le _
  | succ n ih =>
    show max (zgt p c n) (zrk p c n) ≤ _
    have := zrk_le (p := p) (c := c) (t := n)
    omega
theorem zgw_le {p : Int} {c : Nat → Nat → Int} : ∀ n, zgw p c n ≤ zsd c := by
  intro n
  induction n with
  | zero => exact Nat.zero_le _
  | succ n ih =>
    show max (zgw p c n) (zrkw p c n) ≤ _
    have := zrkw_le (p := p) (c := c) (t := n)
    omega
theorem zmk_b8 {P : Nat → Prop} {i : Nat} (h : i ≤ 31) : zmk P i < 2147483648 := by
  have h1 := zmk_lt (P := P) i
  have h2 : 2 ^ i ≤ 2 ^ 31 := Nat.pow_le_pow_right (by omega) h
  omega
def zgP (p : Int) (c : Nat → Nat → Int) : Nat := zgt p c p.toNat
def zpP (p : Int) (c : Nat → Nat → Int) : Nat := zpv p c p.toNat
/-- what the survey finds -/
def zSv (p : Int) (c : Nat → Nat → Int) (h : zH) : Prop := h 78 0 = (zgP p c : Int) ∧ h 78 1 = (zgw p c p.toNat : Int) ∧ h 78 2 = (zpP p c : Int) ∧ h 78 3 = (zmk (zTfl p (zRw p c (zpP p c))) (zsd c) : Int) ∧ h 78 4 = (zmk (zTfl p (zCl p c (zpP p c))) (zsd c) : Int) ∧ h 78 5 = (zmk (fun t => zrk p c t < zgP p c) p.toNat : Int)
def zFSv (a j : Nat) : Prop := (80 ≤ a ∧ a ≤ 95 ∧ a ≠ 82) ∨ (a = 79 ∧ (j = 0 ∨ j = 5)) ∨ (a = 78 ∧ (j ≤ 5 ∨ j = 13 ∨ j = 14))
def zFsel (k a j : Nat) : Prop := (80 ≤ a ∧ a ≤ 91 ∧ a ≠ 82) ∨ (a = 79 ∧ (j = 0 ∨ j = 5)) ∨ (a = 78 ∧ j = k)

set_option maxRecDepth 100000 in
set_option maxHeartbeats 4000000 in
theorem t_X5_forget {h : zH} : CV yX5_forget mX5_forget [vR 78] h (fun h' => h' = zup (zup h 78 13 0) 78 14 0) := by
  refine inV [some (vR 78)] mvX5_forget rfl (Nat.le_of_ble_eq_true rfl) rfl ?_
  refine w_aload0 dX5_forget_0 (wp_iconst dX5_forget_1 (wp_puti dX5_forget_2 fl_RX5_39 is_78 rfl (w_aload0 dX5_forget_5 (wp_iconst dX5_forget_6 (wp_putz dX5_forget_7 fl_RX5_43 is_78 rfl (by first | exact Or.inl rfl | exact Or.inr rfl) ?_)))))
  refine r_v dX5_forget_10 rfl meX5_forget ?_
  rfl
set_option maxRecDepth 100000 in
set_option maxHeartbeats 4000000 in
theorem t_X5_rankOf {h : zH} {tt : Int} {t : Nat} (ht : tt = t) (ht31 : t < 31) : CI yX5_rankOf mX5_rankOf [vR 78, vI tt] h (fun r h' => h' = h ∧ r = h 92 t) := by
  refine inV [some (vR 78), some (vI tt)] mvX5_rankOf rfl (Nat.le_of_ble_eq_true rfl) rfl ?_
  refine w_iload1 dX5_rankOf_0 ?_
  refine wp_if_lt 19 dX5_rankOf_1 rfl ⟨by omega, by omega⟩ (fun c1 => absurd c1 (by omega)) (fun c1 => ?_)
  refine w_iload1 dX5_rankOf_4 (wp_bipush dX5_rankOf_5 (by decide) ?_)
  refine wp_icmp_ge 19 dX5_rankOf_7 rfl ⟨by omega, by omega⟩ ⟨by omega, by omega⟩ (fun c7 => absurd c7 (by omega)) (fun c7 => ?_)
  refine w_aload0 dX5_rankOf_10 (wp_getr 92 dX5_rankOf_11 fl_RX5_18 is_78 rfl (w_iload1 dX5_rankOf_14 (x_iald t dX5_rankOf_15 is_92 ht ht31 (wp_goto 20 dX5_rankOf_16 rfl ?_))))
  refine r_i dX5_rankOf_20 rfl meX5_rankOf ?_
  exact ⟨rfl, rfl⟩
set_option maxRecDepth 100000 in
set_option maxHeartbeats 4000000 in
theorem t_X5_coordinate {h : zH} {tt b : Int} {t : Nat} (ht : tt = t) (ht31 : t < 31) (hb : b = 0 ∨ b = 1) : CI yX5_coordinate mX5_coordinate [vR 78, vI tt, vI b] h (fun r h' => h' = h ∧ r = if b = 0 then h 94 t else h 95 t) := by
  refine inV [some (vR 78), some (vI tt), some (vI b)] mvX5_coordinate rfl (Nat.le_of_ble_eq_true rfl) rfl ?_
  have L32 : ∀ (v : Int), (v = if b = 0 then h 94 t else h 95 t) → WP mX5_coordinate (zMQ mX5_coordinate (zKI (fun r h' => h' = h ∧ r = if b = 0 then h 94 t else h 95 t))) 32 [none, none, none] [vI v] zN zGR h := by
    intro v hv
    refine r_i dX5_coordinate_32 rfl meX5_coordinate ?_
    exact ⟨rfl, hv⟩
  refine w_iload1 dX5_coordinate_0 ?_
  refine wp_if_lt 10 dX5_coordinate_1 rfl ⟨by omega, by omega⟩ (fun c1 => absurd c1 (by omega)) (fun c1 => ?_)
  refine w_iload1 dX5_coordinate_4 (wp_bipush dX5_coordinate_5 (by decide) ?_)
  refine wp_icmp_lt 13 dX5_coordinate_7 rfl ⟨by omega, by omega⟩ ⟨by omega, by omega⟩ (fun c7 => ?_) (fun c7 => absurd c7 (by omega))
  refine w_iload2 dX5_coordinate_13 ?_
  refine wp_if_eq 26 dX5_coordinate_14 rfl ⟨by omega, by omega⟩ (fun c14 => ?_) (fun c14 => ?_)
  · skip
    refine w_aload0 dX5_coordinate_26 (wp_getr 94 dX5_coordinate_27 fl_RX5_25 is_78 rfl (w_iload1 dX5_coordinate_30 (x_iald t dX5_coordinate_31 is_94 ht ht31 ?_)))
    refine w_forget0 ?_
    refine w_forget1 ?_
    refine w_forget2 ?_
    first | exact L32 _ (by rw [if_pos (by omega)]) | exact L32 _ (by rw [if_neg (by omega)])
  · skip
    refine w_aload0 dX5_coordinate_17 (wp_getr 95 dX5_coordinate_18 fl_RX5_28 is_78 rfl (w_iload1 dX5_coordinate_21 (x_iald t dX5_coordinate_22 is_95 ht ht31 (wp_goto 32 dX5_coordinate_23 rfl ?_))))
    refine w_forget0 ?_
    refine w_forget1 ?_
    refine w_forget2 ?_
    first | exact L32 _ (by rw [if_pos (by omega)]) | exact L32 _ (by rw [if_neg (by omega)])
set_option maxRecDepth 100000 in
set_option maxHeartbeats 4000000 in
theorem t_X5_examine {h : zH} {tt : Int} {t : Nat} (ht : tt = t) {p : Int} {c : Nat → Nat → Int} (hs : zSt p c) (htp : (t : Int) < p) (hP : zPol p c 2 h) (hD : zDx p c h) (hsd : 2 ≤ zsd c) (hR : zRk p c h) : CV yX5_examine mX5_examine [vR 78, vI tt] h (fun h' => zFr (zFRk t) h h' ∧ zRk p c h' ∧ zRkT p c t h') := by
  refine inV [some (vR 78), some (vI tt), none] mvX5_examine rfl (Nat.le_of_ble_eq_true rfl) rfl ?_
  have hp := hs.p
  have hpp : 0 < p := by omega
  have ht31 : t < 31 := by omega
  have hsl := zsd_le c
  have hm2 := zgd_le c 0
  have hVin : ∀ n q, 0 ≤ zVx p c t n q ∧ zVx p c t n q < p := fun n q => zRw_in (by omega) _ _
  obtain ⟨s, hs1, hs2, hs3⟩ := hR
  subst ht
  have L216 : ∀ (h1 : zH) (w : Int), (zFr (zFx t) h h1) → (h1 92 t = (zrk p c t : Int)) → (h1 93 t = (zrkw p c t : Int)) → (h1 94 t = zabs p c t) → (w = zord p c t) → (¬ s / 2 ^ t % 2 = 1) → WP mX5_examine (zMQ mX5_examine (zKV (fun h' => zFr (zFRk t) h h' ∧ zRk p c h' ∧ zRkT p c t h'))) 216 [some (vR 78), some (vI (t : Int)), none] [vI w, vI (t : Int), vR 95] zN zGR h1 := by
    intro h1 w hF hx92 hx93 hx94 hw hbit
    have k13 : ∀ x, zup h1 95 t x 78 13 = (s : Int) := fun x => by rw [zup_o (by omega), hF _ _ (by unfold zFx; omega)]; exact hs1
    refine x_iast t dX5_examine_216 is_95 rfl ht31 (w_aload0 dX5_examine_217 (wp_dup dX5_examine_218 rfl (wp_geti dX5_examine_219 fl_RX5_39 is_78 ?_)))
    rw [k13]
    refine wp_iconst dX5_examine_222 (w_iload1 dX5_examine_223 (wp_ishl dX5_examine_224 (by omega) (wp_ior dX5_examine_225 ⟨by omega, by omega⟩ (z_1s t ht31) (wp_puti dX5_examine_226 fl_RX5_39 is_78 rfl ?_))))
    refine r_v dX5_examine_229 rfl meX5_examine ?_
    have hsb : s ||| 2 ^ t < 2147483648 := by
      have : s ||| 2 ^ t < 2 ^ 31 := Nat.or_lt_two_pow hs2 (Nat.pow_lt_pow_right (by omega) ht31)
      omega
    rw [z_or1]
    have hT9 : zRkT p c t (zup (zup h1 95 t w) 78 13 ((s ||| 2 ^ t : Nat) : Int)) := by
      refine ⟨?_, ?_, ?_, ?_⟩
      · rw [zup_o (by omega), zup_o (by omega)]; exact hx92
      · rw [zup_o (by omega), zup_o (by omega)]; exact hx93
      · rw [zup_o (by omega), zup_o (by omega)]; exact hx94
      · rw [zup_o (by omega), zup_s]; exact hw
    refine ⟨fun a j n => ?_, ⟨s ||| 2 ^ t, zup_s, hsb, fun t' ht' hb' => ?_⟩, hT9⟩
    · unfold zFRk at n
      rw [zup_o (by omega), zup_o (by omega)]
      exact hF a j (by unfold zFx; omega)
    · by_cases e : t' = t
      · rw [e]; exact hT9
      · rcases (z_orb s t t').mp hb' with q | q
        · obtain ⟨q1, q2, q3, q4⟩ := hs3 t' ht' q
          refine ⟨?_, ?_, ?_, ?_⟩
          · rw [zup_o (by omega), zup_o (by omega), hF _ _ (by unfold zFx; omega)]; exact q1
          · rw [zup_o (by omega), zup_o (by omega), hF _ _ (by unfold zFx; omega)]; exact q2
          · rw [zup_o (by omega), zup_o (by omega), hF _ _ (by unfold zFx; omega)]; exact q3
          · rw [zup_o (by omega), zup_o (by omega), hF _ _ (by unfold zFx; omega)]; exact q4
        · exact absurd q.symm e
  have L187 : ∀ (h1 : zH) (v w : Int), (zFr (zFx t) h h1) → (zTH p (zVx p c t) (zsd c) h1) → (h1 92 t = (zrk p c t : Int)) → (h1 93 t = (zrkw p c t : Int)) → (v = if zrk p c t = zsd c - 1 then 1 else 0) → (w = zabs p c t) → (¬ s / 2 ^ t % 2 = 1) → WP mX5_examine (zMQ mX5_examine (zKV (fun h' => zFr (zFRk t) h h' ∧ zRk p c h' ∧ zRkT p c t h'))) 187 [some (vR 78), some (vI (t : Int)), some (vI v)] [vI w, vI (t : Int), vR 94] zN zGR h1 := by
    intro h1 v w hF hT hx92 hx93 hv hw hbit
    have hD' : zDx p c h1 := zDx_fr hD (fun a j ha => hF a j (by unfold zFx; omega))
    have k70 : ∀ x, zup h1 94 t x 7 0 = (zgd c 0 : Int) := fun x => by rw [zup_o (by omega)]; exact hD'.1
    have hRb := zTs_R hpp hVin (zsd c)
    have hv2 : (v = 1 ∧ zrk p c t = zsd c - 1) ∨ (v = 0 ∧ zrk p c t ≠ zsd c - 1) := by
      rw [hv]
      by_cases w : zrk p c t = zsd c - 1
      · rw [if_pos w]; exact Or.inl ⟨rfl, w⟩
      · rw [if_neg w]; exact Or.inr ⟨rfl, w⟩
    have e0 : h1 81 0 = zrel p c t 0 := hT.2 0 (by omega)
    have hrb : ∀ j, j < 8 → 0 ≤ zup h1 94 t w 81 j ∧ zup h1 94 t w 81 j < p := fun j hj => by rw [zup_o (by omega), hT.2 j hj]; exact hRb j
    have k795 : zup h1 94 t w 79 5 = p := by rw [zup_o (by omega)]; exact hT.1.2.1
    have g1 : zFr (zFx t) h (zup h1 94 t w) := hF.up (by unfold zFx; omega)
    have g2 : zup h1 94 t w 92 t = (zrk p c t : Int) := by rw [zup_o (by omega)]; exact hx92
    have g3 : zup h1 94 t w 93 t = (zrkw p c t : Int) := by rw [zup_o (by omega)]; exact hx93
    have g4 : zup h1 94 t w 94 t = zabs p c t := by rw [zup_s]; exact hw
    refine x_iast t dX5_examine_187 is_94 rfl ht31 (w_aload0 dX5_examine_188 (wp_getr 95 dX5_examine_189 fl_RX5_28 is_78 rfl (w_iload1 dX5_examine_192 (w_iload2 dX5_examine_193 ?_))))
    refine wp_if_eq 214 dX5_examine_194 rfl ⟨by omega, by omega⟩ (fun c194 => ?_) (fun c194 => ?_)
    · skip
      refine wp_bipush dX5_examine_214 (by decide) ?_
      refine w_forget2 ?_
      first
      | exact L216 _ _ g1 g2 g3 g4 (by rw [show zord p c t = -9 from if_neg (by omega)]) hbit
      | exact L216 _ _ g1 g2 g3 g4 (by
          rw [show zord p c t = zrat p (zrel p c t) (zgd c 0) from if_pos (by omega), zup_a (by omega), e0, hT.2 _ (by omega)]
          rfl) hbit
    · skip
      refine w_aload0 dX5_examine_197 (wp_getr 79 dX5_examine_198 fl_RX5_12 is_78 rfl (w_aload0 dX5_examine_201 (wp_getr 7 dX5_examine_202 fl_RX5_35 is_78 rfl (wp_geti dX5_examine_205 fl_RX5_75 is_7 ?_))))
      rw [k70]
      apply v_i1 (M := mX5_examine) dX5_examine_208 lk_RX5_78 mvX7_ratio (by decide) meX5_examine is_79 (Nat.le_of_ble_eq_true rfl)
      · exact t_X7_ratio ⟨hpp, hp.2⟩ k795 (n := zgd c 0) rfl (by omega) hrb
      intro x208 h208 hP208
      obtain ⟨eh208, ex208⟩ := hP208
      replace eh208 := eh208.symm
      subst eh208
      replace ex208 := ex208.symm
      subst ex208
      refine wp_goto 216 dX5_examine_211 rfl ?_
      refine w_forget2 ?_
      first
      | exact L216 _ _ g1 g2 g3 g4 (by rw [show zord p c t = -9 from if_neg (by omega)]) hbit
      | exact L216 _ _ g1 g2 g3 g4 (by
          rw [show zord p c t = zrat p (zrel p c t) (zgd c 0) from if_pos (by omega), zup_a (by omega), e0, hT.2 _ (by omega)]
          rfl) hbit
  have L153 : ∀ (h1 : zH) (v : Int), (zFr (zFx t) h h1) → (zTH p (zVx p c t) (zsd c) h1) → (h1 92 t = (zrk p c t : Int)) → (h1 93 t = (zrkw p c t : Int)) → (v = if zrk p c t = zsd c - 1 then 1 else 0) → (¬ s / 2 ^ t % 2 = 1) → WP mX5_examine (zMQ mX5_examine (zKV (fun h' => zFr (zFRk t) h h' ∧ zRk p c h' ∧ zRkT p c t h'))) 153 [some (vR 78), some (vI (t : Int)), none] [vI v] zN zGR h1 := by
    intro h1 v hF hT hx92 hx93 hv hbit
    have hD' : zDx p c h1 := zDx_fr hD (fun a j ha => hF a j (by unfold zFx; omega))
    have k70 : h1 7 0 = (zgd c 0 : Int) := hD'.1
    have hRb := zTs_R hpp hVin (zsd c)
    have hv2 : (v = 1 ∧ zrk p c t = zsd c - 1) ∨ (v = 0 ∧ zrk p c t ≠ zsd c - 1) := by
      rw [hv]
      by_cases w : zrk p c t = zsd c - 1
      · rw [if_pos w]; exact Or.inl ⟨rfl, w⟩
      · rw [if_neg w]; exact Or.inr ⟨rfl, w⟩
    have e0 : h1 81 0 = zrel p c t 0 := hT.2 0 (by omega)
    have hrb : ∀ j, j < 8 → 0 ≤ h1 81 j ∧ h1 81 j < p := fun j hj => by rw [hT.2 j hj]; exact hRb j
    have k795 : h1 79 5 = p := hT.1.2.1
    refine w_istore2 dX5_examine_153 rfl (by decide) (w_aload0 dX5_examine_154 (wp_getr 94 dX5_examine_155 fl_RX5_25 is_78 rfl (w_iload1 dX5_examine_158 (w_iload2 dX5_examine_159 ?_))))
    refine wp_if_eq 185 dX5_examine_160 rfl ⟨by omega, by omega⟩ (fun c160 => ?_) (fun c160 => ?_)
    · skip
      refine wp_bipush dX5_examine_185 (by decide) ?_
      first
      | exact L187 h1 v _ hF hT hx92 hx93 hv (by rw [show zabs p c t = -9 from if_neg (by omega)]) hbit
      | exact L187 h1 v _ hF hT hx92 hx93 hv (by
          rw [show zabs p c t = zrat p (zrel p c t) 1 from if_pos (by omega), e0, hT.2 1 (by omega)]
          rfl) hbit
    · skip
      refine w_aload0 dX5_examine_163 (wp_getr 7 dX5_examine_164 fl_RX5_35 is_78 rfl (wp_geti dX5_examine_167 fl_RX5_75 is_7 ?_))
      rw [k70]
      refine wp_iconst dX5_examine_170 ?_
      refine wp_icmp_ne 185 dX5_examine_171 rfl ⟨by omega, by omega⟩ ⟨by omega, by omega⟩ (fun c171 => ?_) (fun c171 => ?_)
      · skip
        refine wp_bipush dX5_examine_185 (by decide) ?_
        first
        | exact L187 h1 v _ hF hT hx92 hx93 hv (by rw [show zabs p c t = -9 from if_neg (by omega)]) hbit
        | exact L187 h1 v _ hF hT hx92 hx93 hv (by
            rw [show zabs p c t = zrat p (zrel p c t) 1 from if_pos (by omega), e0, hT.2 1 (by omega)]
            rfl) hbit
      · skip
        refine w_aload0 dX5_examine_174 (wp_getr 79 dX5_examine_175 fl_RX5_12 is_78 rfl (wp_iconst dX5_examine_178 ?_))
        apply v_i1 (M := mX5_examine) dX5_examine_179 lk_RX5_78 mvX7_ratio (by decide) meX5_examine is_79 (Nat.le_of_ble_eq_true rfl)
        · exact t_X7_ratio ⟨hpp, hp.2⟩ k795 (n := 1) rfl (by omega) hrb
        intro x179 h179 hP179
        obtain ⟨eh179, ex179⟩ := hP179
        replace eh179 := eh179.symm
        subst eh179
        replace ex179 := ex179.symm
        subst ex179
        refine wp_goto 187 dX5_examine_182 rfl ?_
        first
        | exact L187 h1 v _ hF hT hx92 hx93 hv (by rw [show zabs p c t = -9 from if_neg (by omega)]) hbit
        | exact L187 h1 v _ hF hT hx92 hx93 hv (by
            rw [show zabs p c t = zrat p (zrel p c t) 1 from if_pos (by omega), e0, hT.2 1 (by omega)]
            rfl) hbit
  have L38 : ∀ (zm38 : Nat) (i : Nat) (h' : zH) (vi : Int), zsd c - i = zm38 → (1 ≤ i ∧ i ≤ zsd c) → (vi = (i : Int)) → (zFr (zFx t) h h') → (∀ j, h' 92 j = h 92 j ∧ h' 93 j = h 93 j ∧ h' 94 j = h 94 j ∧ h' 95 j = h 95 j) → (zTH p (zVx p c t) (i - 1) h') → (¬ s / 2 ^ t % 2 = 1) → WP mX5_examine (zMQ mX5_examine (zKV (fun h' => zFr (zFRk t) h h' ∧ zRk p c h' ∧ zRkT p c t h'))) 38 [some (vR 78), some (vI (t : Int)), some (vI vi)] [] zN zGR h' := by
    intro zm38
    induction zm38 using Nat.strongRecOn with | _ zm38 ih38 => ?_
    intro i h' vi hzm38 hi hvi hF hF92 hT hbit
    subst hzm38
    have hD' : zDx p c h' := zDx_fr hD (fun a j ha => hF a j (by unfold zFx; omega))
    have k72 : h' 7 2 = (zsd c : Int) := hD'.2.2.1
    have kp : h' 2 0 = p := by rw [hF _ _ (by unfold zFx; omega)]; exact hP.1
    refine w_iload2 dX5_examine_38 (w_aload0 dX5_examine_39 (wp_getr 7 dX5_examine_40 fl_RX5_35 is_78 rfl (wp_geti dX5_examine_43 fl_RX5_56 is_7 ?_)))
    rw [k72]
    refine wp_icmp_ge 79 dX5_examine_46 rfl ⟨by omega, by omega⟩ ⟨by omega, by omega⟩ (fun c46 => ?_) (fun c46 => ?_)
    · skip
      refine w_aload0 dX5_examine_79 (wp_getr 93 dX5_examine_80 fl_RX5_22 is_78 rfl (w_iload1 dX5_examine_83 (w_aload0 dX5_examine_84 (wp_getr 79 dX5_examine_85 fl_RX5_12 is_78 rfl (wp_geti dX5_examine_88 fl_RX5_72 is_79 ?_)))))
      have hi9 : i = zsd c := by omega
      have kw : h' 79 0 = (zrkw p c t : Int) := by rw [hT.1.1, hi9]; rfl
      rw [kw]
      have hT2 : zTH p (zVx p c t) (zsd c - 1) (zup h' 93 t (zrkw p c t : Int)) := by
        rw [hi9] at hT
        exact zTH_fr hT (fun a j ha => zup_o (by omega)) (by omega)
      have hD2 : zDx p c (zup h' 93 t (zrkw p c t : Int)) := zDx_fr hD' (fun a j ha => zup_o (by omega))
      refine x_iast t dX5_examine_91 is_93 rfl ht31 (w_aload0 dX5_examine_92 (wp_getr 7 dX5_examine_93 fl_RX5_35 is_78 rfl (wp_iconst dX5_examine_96 (w_iload1 dX5_examine_97 (w_aload0 dX5_examine_98 (wp_getr 79 dX5_examine_99 fl_RX5_12 is_78 rfl (wp_getr 80 dX5_examine_102 fl_RX5_61 is_79 rfl ?_)))))))
      apply v_v3 (M := mX5_examine) dX5_examine_105 lk_RX5_64 mvX0_writeRow (by decide) meX5_examine is_7 (Nat.le_of_ble_eq_true rfl)
      · exact t_X0_writeRow (row := 0) rfl (by omega) ⟨by omega, htp⟩ ⟨hpp, hp.2⟩ (by rw [zup_o (by omega)]; exact kp) hD2.2.2.1 hsl (zDx_E hpp hD2)
      intro h105 hP105
      replace hP105 := hP105.symm
      subst hP105
      refine w_aload0 dX5_examine_108 (wp_getr 79 dX5_examine_109 fl_RX5_12 is_78 rfl ?_)
      have hT' : zTH p (zVx p c t) (zsd c - 1) (zfl (zup h' 93 t (zrkw p c t : Int)) 80 16 (zRw p c t 0)) := zTH_fr hT2 (fun a j ha => zfl_o (by omega)) (by omega)
      have hV' : ∀ q, q < 16 → zfl (zup h' 93 t (zrkw p c t : Int)) 80 16 (zRw p c t 0) 80 q = zVx p c t (zsd c - 1) q := fun q hq => by
        rw [zfl_i hq]
        unfold zVx
        rw [if_neg (by omega)]
      apply v_i0 (M := mX5_examine) dX5_examine_112 lk_RX5_68 mvX7_take (by decide) meX5_examine is_79 (Nat.le_of_ble_eq_true rfl)
      · exact t_X7_take ⟨hpp, hp.2⟩ (by have := zTs_le (p := p) (V := zVx p c t) (zsd c - 1); omega) hT'.1 (fun q hq => by have w := hVin (zsd c - 1) q; rw [← hV' q hq] at w; exact w)
      intro x112 h112 hP112
      obtain ⟨s1, s2, s3⟩ := zT_step hT' hV' (by omega) hP112
      rw [show zsd c - 1 + 1 = zsd c by omega] at s2
      have hrk2 : zrk p c t ≤ zsd c := zTs_le (p := p) (V := zVx p c t) (zsd c)
      have kf0 : h112 79 0 = (zrk p c t : Int) := s2.1.1
      have kf : ∀ x, zup h112 92 t x 79 0 = (zrk p c t : Int) := fun x => by rw [zup_o (by omega)]; exact kf0
      have hrs : ∀ a j, ¬ zFSp a j → h112 a j = zup h' 93 t (zrkw p c t : Int) a j := fun a j n => by
        rw [s1 a j n]
        unfold zFSp at n
        exact zfl_o (by omega)
      have k2 : ∀ x, zup h112 92 t x 7 2 = (zsd c : Int) := fun x => by rw [zup_o (by omega), hrs _ _ (by unfold zFSp; omega)]; exact hD2.2.2.1
      have f1 : zFr (zFx t) h (zup h112 92 t (zrk p c t : Int)) := fun a j n => by
        have n2 := n
        unfold zFx at n2
        rw [zup_o (by omega), hrs _ _ (by unfold zFSp; omega), zup_o (by omega)]
        exact hF a j n
      have f2 : zTH p (zVx p c t) (zsd c) (zup h112 92 t (zrk p c t : Int)) := zTH_fr s2 (fun a j ha => zup_o (by omega)) (by omega)
      have f3 : zup h112 92 t (zrk p c t : Int) 92 t = (zrk p c t : Int) := zup_s
      have f4 : zup h112 92 t (zrk p c t : Int) 93 t = (zrkw p c t : Int) := by rw [zup_o (by omega), hrs _ _ (by unfold zFSp; omega), zup_s]
      refine wp_pop dX5_examine_115 rfl (w_aload0 dX5_examine_116 (wp_getr 92 dX5_examine_117 fl_RX5_18 is_78 rfl (w_iload1 dX5_examine_120 (w_aload0 dX5_examine_121 (wp_getr 79 dX5_examine_122 fl_RX5_12 is_78 rfl (wp_geti dX5_examine_125 fl_RX5_72 is_79 ?_))))))
      rw [kf0]
      refine x_iast t dX5_examine_128 is_92 rfl ht31 (w_aload0 dX5_examine_129 (wp_getr 79 dX5_examine_130 fl_RX5_12 is_78 rfl (wp_geti dX5_examine_133 fl_RX5_72 is_79 ?_)))
      rw [kf]
      refine w_aload0 dX5_examine_136 (wp_getr 7 dX5_examine_137 fl_RX5_35 is_78 rfl (wp_geti dX5_examine_140 fl_RX5_56 is_7 ?_))
      rw [k2]
      refine wp_iconst dX5_examine_143 (wp_isub dX5_examine_144 ?_)
      refine wp_icmp_ne 152 dX5_examine_145 rfl ⟨by omega, by omega⟩ ⟨by omega, by omega⟩ (fun c145 => ?_) (fun c145 => ?_)
      · skip
        refine wp_iconst dX5_examine_152 ?_
        refine w_forget2 ?_
        first
        | exact L153 _ 1 f1 f2 f3 f4 (by rw [if_pos (by omega)]) hbit
        | exact L153 _ 0 f1 f2 f3 f4 (by rw [if_neg (by omega)]) hbit
      · skip
        refine wp_iconst dX5_examine_148 (wp_goto 153 dX5_examine_149 rfl ?_)
        refine w_forget2 ?_
        first
        | exact L153 _ 1 f1 f2 f3 f4 (by rw [if_pos (by omega)]) hbit
        | exact L153 _ 0 f1 f2 f3 f4 (by rw [if_neg (by omega)]) hbit
    · skip
      refine w_aload0 dX5_examine_49 (wp_getr 7 dX5_examine_50 fl_RX5_35 is_78 rfl (w_iload2 dX5_examine_53 (w_iload1 dX5_examine_54 (w_aload0 dX5_examine_55 (wp_getr 79 dX5_examine_56 fl_RX5_12 is_78 rfl (wp_getr 80 dX5_examine_59 fl_RX5_61 is_79 rfl ?_))))))
      apply v_v3 (M := mX5_examine) dX5_examine_62 lk_RX5_64 mvX0_writeRow (by decide) meX5_examine is_7 (Nat.le_of_ble_eq_true rfl)
      · exact t_X0_writeRow (row := i) hvi (by omega) ⟨by omega, htp⟩ ⟨hpp, hp.2⟩ kp k72 hsl (zDx_E hpp hD')
      intro h62 hP62
      replace hP62 := hP62.symm
      subst hP62
      refine w_aload0 dX5_examine_65 (wp_getr 79 dX5_examine_66 fl_RX5_12 is_78 rfl ?_)
      have hT' : zTH p (zVx p c t) (i - 1) (zfl h' 80 16 (zRw p c t i)) := zTH_fr hT (fun a j ha => zfl_o (by omega)) (by omega)
      have hV' : ∀ q, q < 16 → zfl h' 80 16 (zRw p c t i) 80 q = zVx p c t (i - 1) q := fun q hq => by
        rw [zfl_i hq]
        unfold zVx
        rw [if_pos (by omega), show i - 1 + 1 = i by omega]
      apply v_i0 (M := mX5_examine) dX5_examine_69 lk_RX5_68 mvX7_take (by decide) meX5_examine is_79 (Nat.le_of_ble_eq_true rfl)
      · exact t_X7_take ⟨hpp, hp.2⟩ (by have := zTs_le (p := p) (V := zVx p c t) (i - 1); omega) hT'.1 (fun q hq => by have w := hVin (i - 1) q; rw [← hV' q hq] at w; exact w)
      intro x69 h69 hP69
      obtain ⟨s1, s2, s3⟩ := zT_step hT' hV' (by omega) hP69
      refine wp_pop dX5_examine_72 rfl (w_iinc2 dX5_examine_73 rfl (by decide) (wp_goto 38 dX5_examine_76 rfl ?_))
      refine ih38 _ (by omega) (i + 1) _ _ rfl ⟨by omega, by omega⟩ (by omega) (fun a j n => ?_) (fun j => ?_) (by rw [show i + 1 - 1 = i - 1 + 1 by omega]; exact s2) hbit
      · have n2 := n
        unfold zFx at n2
        rw [s1 a j (by unfold zFSp; omega), zfl_o (by omega)]
        exact hF a j n
      · rw [s1 92 j (by unfold zFSp; omega), s1 93 j (by unfold zFSp; omega), s1 94 j (by unfold zFSp; omega), s1 95 j (by unfold zFSp; omega), zfl_o (by omega), zfl_o (by omega), zfl_o (by omega), zfl_o (by omega)]
        exact hF92 j
  refine w_iload1 dX5_examine_0 ?_
  refine wp_if_lt 21 dX5_examine_1 rfl ⟨by omega, by omega⟩ (fun c1 => absurd c1 (by omega)) (fun c1 => ?_)
  refine w_iload1 dX5_examine_4 (wp_bipush dX5_examine_5 (by decide) ?_)
  refine wp_icmp_ge 21 dX5_examine_7 rfl ⟨by omega, by omega⟩ ⟨by omega, by omega⟩ (fun c7 => absurd c7 (by omega)) (fun c7 => ?_)
  refine w_aload0 dX5_examine_10 (wp_geti dX5_examine_11 fl_RX5_39 is_78 (w_iload1 dX5_examine_14 ?_))
  rw [hs1]
  refine wp_ishr dX5_examine_15 ⟨by omega, by omega⟩ (by omega) (wp_iconst dX5_examine_16 (wp_iand dX5_examine_17 (z_sh t hs2) (by omega) ?_))
  rw [z_bt]
  refine wp_if_eq 22 dX5_examine_18 rfl ⟨by omega, by omega⟩ (fun c18 => ?_) (fun c18 => ?_)
  · skip
    refine w_aload0 dX5_examine_22 (wp_getr 79 dX5_examine_23 fl_RX5_12 is_78 rfl (w_aload0 dX5_examine_26 (wp_getr 2 dX5_examine_27 fl_RX5_31 is_78 rfl (wp_geti dX5_examine_30 fl_RX5_47 is_2 ?_))))
    rw [hP.1]
    have hbit : ¬ s / 2 ^ t % 2 = 1 := by omega
    apply v_v1 (M := mX5_examine) dX5_examine_33 lk_RX5_52 mvX7_begin (by decide) meX5_examine is_79 (Nat.le_of_ble_eq_true rfl)
    · exact t_X7_begin
    intro h33 hP33
    replace hP33 := hP33.symm
    subst hP33
    refine wp_iconst dX5_examine_36 (w_istore2 dX5_examine_37 rfl (by decide) ?_)
    exact L38 _ 1 _ 1 rfl ⟨Nat.le_refl _, by omega⟩ rfl (fun a j n => by unfold zFx at n; rw [zfl_o (by omega), zup_o (by omega), zup_o (by omega)]) (fun j => by rw [zfl_o (by omega), zup_o (by omega), zup_o (by omega), zfl_o (by omega), zup_o (by omega), zup_o (by omega), zfl_o (by omega), zup_o (by omega), zup_o (by omega), zfl_o (by omega), zup_o (by omega), zup_o (by omega)]; exact ⟨rfl, rfl, rfl, rfl⟩) zTH_0 (by omega)
  · skip
    refine r_v dX5_examine_21 rfl meX5_examine ?_
    exact ⟨zFr.rf, ⟨s, hs1, hs2, hs3⟩, hs3 t htp (by omega)⟩
set_option maxRecDepth 100000 in
set_option maxHeartbeats 4000000 in
theorem t_X5_findDrops {h : zH} {p : Int} {c : Nat → Nat → Int} (hp : 5 ≤ p ∧ p ≤ 31) (hp0 : h 2 0 = p) {g : Nat} (hg : h 78 0 = (g : Int)) (hg8 : g ≤ 8) (hsl : zsd c ≤ 8) (hr : ∀ t : Nat, (t : Int) < p → h 92 t = (zrk p c t : Int)) : CV yX5_findDrops mX5_findDrops [vR 78] h (fun h' => h' = zup h 78 5 (zmk (fun t => zrk p c t < g) p.toNat : Int)) := by
  refine inV [some (vR 78), none] mvX5_findDrops rfl (Nat.le_of_ble_eq_true rfl) rfl ?_
  have L7 : ∀ (zm7 : Nat) (i : Nat) (h' : zH) (vi : Int), p.toNat - i = zm7 → ((i : Int) ≤ p) → (vi = (i : Int)) → (h' = zup h 78 5 (zmk (fun t => zrk p c t < g) i : Int)) → WP mX5_findDrops (zMQ mX5_findDrops (zKV (fun h' => h' = zup h 78 5 (zmk (fun t => zrk p c t < g) p.toNat : Int)))) 7 [some (vR 78), some (vI vi)] [] zN zGR h' := by
    intro zm7
    induction zm7 using Nat.strongRecOn with | _ zm7 ih7 => ?_
    intro i h' vi hzm7 hi hvi hh
    subst hzm7
    have kp : h' 2 0 = p := by rw [hh, zup_o (by omega)]; exact hp0
    have kg : h' 78 0 = (g : Int) := by rw [hh, zup_o (by omega)]; exact hg
    have k5 : h' 78 5 = (zmk (fun t => zrk p c t < g) i : Int) := by rw [hh, zup_s]
    have hmb := zmk_b8 (P := fun t => zrk p c t < g) (i := i) (by omega)
    have hrk := zrk_le (p := p) (c := c) (t := i)
    refine w_iload1 dX5_findDrops_7 (w_aload0 dX5_findDrops_8 (wp_getr 2 dX5_findDrops_9 fl_RX5_31 is_78 rfl (wp_geti dX5_findDrops_12 fl_RX5_47 is_2 ?_)))
    rw [kp]
    refine wp_icmp_ge 55 dX5_findDrops_15 rfl ⟨by omega, by omega⟩ ⟨by omega, by omega⟩ (fun c15 => ?_) (fun c15 => ?_)
    · skip
      refine r_v dX5_findDrops_55 rfl meX5_findDrops ?_
      rw [hh, show i = p.toNat by omega]
    · skip
      refine w_iload1 dX5_findDrops_18 (wp_bipush dX5_findDrops_19 (by decide) ?_)
      refine wp_icmp_ge 55 dX5_findDrops_21 rfl ⟨by omega, by omega⟩ ⟨by omega, by omega⟩ (fun c21 => absurd c21 (by omega)) (fun c21 => ?_)
      have k92 : h' 92 i = (zrk p c i : Int) := by rw [hh, zup_o (by omega)]; exact hr i (by omega)
      refine w_aload0 dX5_findDrops_24 (wp_getr 92 dX5_findDrops_25 fl_RX5_18 is_78 rfl (w_iload1 dX5_findDrops_28 (x_iald i dX5_findDrops_29 is_92 hvi (by omega) ?_)))
      rw [k92]
      refine w_aload0 dX5_findDrops_30 (wp_geti dX5_findDrops_31 fl_RX5_82 is_78 ?_)
      rw [kg]
      refine wp_icmp_ge 49 dX5_findDrops_34 rfl ⟨by omega, by omega⟩ ⟨by omega, by omega⟩ (fun c34 => ?_) (fun c34 => ?_)
      · skip
        refine w_iinc1 dX5_findDrops_49 rfl (by decide) (wp_goto 7 dX5_findDrops_52 rfl ?_)
        first
        | (have c9 : ¬ zrk p c i < g := by omega
           refine ih7 _ (by omega) (i + 1) _ _ rfl (by omega) (by omega) ?_
           rw [hh, zmk_n (P := fun t => zrk p c t < g) (by show ¬ zrk p c i < g; omega)])
        | (refine ih7 _ (by omega) (i + 1) _ _ rfl (by omega) (by omega) ?_
           rw [hvi, z_or1, zmk_or, hh, zup_up, zmk_y (P := fun t => zrk p c t < g) (by show zrk p c i < g; omega)])
      · skip
        refine w_aload0 dX5_findDrops_37 (wp_dup dX5_findDrops_38 rfl (wp_geti dX5_findDrops_39 fl_RX5_109 is_78 ?_))
        rw [k5]
        refine wp_iconst dX5_findDrops_42 (w_iload1 dX5_findDrops_43 (wp_ishl dX5_findDrops_44 (by omega) (wp_ior dX5_findDrops_45 ⟨by omega, by omega⟩ (by rw [hvi]; exact z_1s i (by omega)) (wp_puti dX5_findDrops_46 fl_RX5_109 is_78 rfl (w_iinc1 dX5_findDrops_49 rfl (by decide) (wp_goto 7 dX5_findDrops_52 rfl ?_))))))
        first
        | (have c9 : ¬ zrk p c i < g := by omega
           refine ih7 _ (by omega) (i + 1) _ _ rfl (by omega) (by omega) ?_
           rw [hh, zmk_n (P := fun t => zrk p c t < g) (by show ¬ zrk p c i < g; omega)])
        | (refine ih7 _ (by omega) (i + 1) _ _ rfl (by omega) (by omega) ?_
           rw [hvi, z_or1, zmk_or, hh, zup_up, zmk_y (P := fun t => zrk p c t < g) (by show zrk p c i < g; omega)])
  refine w_aload0 dX5_findDrops_0 (wp_iconst dX5_findDrops_1 (wp_puti dX5_findDrops_2 fl_RX5_109 is_78 rfl (wp_iconst dX5_findDrops_5 (w_istore1 dX5_findDrops_6 rfl (by decide) ?_))))
  exact L7 _ 0 _ 0 rfl (by omega) rfl rfl
set_option maxRecDepth 100000 in
set_option maxHeartbeats 4000000 in
theorem t_X5_selectRows {h : zH} {p : Int} {c : Nat → Nat → Int} (hs : zSt p c) (hP : zPol p c 2 h) (hD : zDx p c h) {pv : Nat} (hpv : (pv : Int) < p) (h2 : h 78 2 = (pv : Int)) : CV yX5_selectRows mX5_selectRows [vR 78] h (fun h' => zFr (zFsel 3) h h' ∧ h' 78 3 = (zmk (zTfl p (zRw p c pv)) (zsd c) : Int)) := by
  refine inV [some (vR 78), none] mvX5_selectRows rfl (Nat.le_of_ble_eq_true rfl) rfl ?_
  have hp := hs.p
  have hpp : 0 < p := by omega
  have hsl := zsd_le c
  have hVin : ∀ n q, 0 ≤ zRw p c pv n q ∧ zRw p c pv n q < p := fun n q => zRw_in (by omega) _ _
  have L21 : ∀ (zm21 : Nat) (i : Nat) (h' : zH) (vi : Int), zsd c - i = zm21 → (i ≤ zsd c) → (vi = (i : Int)) → (zFr (zFsel 3) h h') → (zTH p (zRw p c pv) i h') → (h' 78 3 = (zmk (zTfl p (zRw p c pv)) i : Int)) → WP mX5_selectRows (zMQ mX5_selectRows (zKV (fun h' => zFr (zFsel 3) h h' ∧ h' 78 3 = (zmk (zTfl p (zRw p c pv)) (zsd c) : Int)))) 21 [some (vR 78), some (vI vi)] [] zN zGR h' := by
    intro zm21
    induction zm21 using Nat.strongRecOn with | _ zm21 ih21 => ?_
    intro i h' vi hzm21 hi hvi hF hT hm
    subst hzm21
    have hD' : zDx p c h' := zDx_fr hD (fun a j ha => hF a j (by unfold zFsel; omega))
    have k72 : h' 7 2 = (zsd c : Int) := hD'.2.2.1
    have k2 : h' 78 2 = (pv : Int) := by rw [hF _ _ (by unfold zFsel; omega)]; exact h2
    have kp : h' 2 0 = p := by rw [hF _ _ (by unfold zFsel; omega)]; exact hP.1
    have hmb := zmk_b8 (P := zTfl p (zRw p c pv)) (i := i) (by omega)
    refine w_iload1 dX5_selectRows_21 (w_aload0 dX5_selectRows_22 (wp_getr 7 dX5_selectRows_23 fl_RX5_35 is_78 rfl (wp_geti dX5_selectRows_26 fl_RX5_56 is_7 ?_)))
    rw [k72]
    refine wp_icmp_ge 79 dX5_selectRows_29 rfl ⟨by omega, by omega⟩ ⟨by omega, by omega⟩ (fun c29 => ?_) (fun c29 => ?_)
    · skip
      refine r_v dX5_selectRows_79 rfl meX5_selectRows ?_
      rw [show i = zsd c by omega] at hm
      exact ⟨hF, hm⟩
    · skip
      refine w_aload0 dX5_selectRows_32 (wp_getr 7 dX5_selectRows_33 fl_RX5_35 is_78 rfl (w_iload1 dX5_selectRows_36 (w_aload0 dX5_selectRows_37 (wp_geti dX5_selectRows_38 fl_RX5_88 is_78 ?_))))
      rw [k2]
      refine w_aload0 dX5_selectRows_41 (wp_getr 79 dX5_selectRows_42 fl_RX5_12 is_78 rfl (wp_getr 80 dX5_selectRows_45 fl_RX5_61 is_79 rfl ?_))
      apply v_v3 (M := mX5_selectRows) dX5_selectRows_48 lk_RX5_64 mvX0_writeRow (by decide) meX5_selectRows is_7 (Nat.le_of_ble_eq_true rfl)
      · exact t_X0_writeRow hvi (by omega) ⟨by omega, hpv⟩ ⟨hpp, hp.2⟩ kp k72 hsl (zDx_E hpp hD')
      intro h48 hP48
      replace hP48 := hP48.symm
      subst hP48
      refine w_aload0 dX5_selectRows_51 (wp_getr 79 dX5_selectRows_52 fl_RX5_12 is_78 rfl ?_)
      have hT' : zTH p (zRw p c pv) i (zfl h' 80 16 (zRw p c pv i)) := zTH_fr hT (fun a j ha => zfl_o (by omega)) (by omega)
      have hV' : ∀ q, q < 16 → zfl h' 80 16 (zRw p c pv i) 80 q = zRw p c pv i q := fun q hq => zfl_i hq
      apply v_i0 (M := mX5_selectRows) dX5_selectRows_55 lk_RX5_68 mvX7_take (by decide) meX5_selectRows is_79 (Nat.le_of_ble_eq_true rfl)
      · exact t_X7_take ⟨hpp, hp.2⟩ (by have := zTs_le (p := p) (V := zRw p c pv) i; omega) hT'.1 (fun q hq => by have w := hVin i q; rw [← hV' q hq] at w; exact w)
      intro x55 h55 hP55
      obtain ⟨s1, s2, s3⟩ := zT_step hT' hV' (by omega) hP55
      have hF55 : zFr (zFsel 3) h h55 := fun a j n => by
        have n2 := n
        unfold zFsel at n2
        rw [s1 a j (by unfold zFSp; omega), zfl_o (by omega)]
        exact hF a j n
      have k3 : h55 78 3 = (zmk (zTfl p (zRw p c pv)) i : Int) := by rw [s1 _ _ (by unfold zFSp; omega), zfl_o (by omega)]; exact hm
      refine wp_if_eq 73 dX5_selectRows_58 rfl ⟨by omega, by omega⟩ (fun c58 => ?_) (fun c58 => ?_)
      · skip
        refine w_iinc1 dX5_selectRows_73 rfl (by decide) (wp_goto 21 dX5_selectRows_76 rfl ?_)
        first
        | (have c9 : x55 = 0 := by omega
           refine ih21 _ (by omega) (i + 1) _ _ rfl (by omega) (by omega) hF55 s2 ?_
           rw [k3, zmk_n (s3.elim (fun q => absurd q.2 (by omega)) (fun q => q.1))])
        | (refine ih21 _ (by omega) (i + 1) _ _ rfl (by omega) (by omega) (hF55.up (by unfold zFsel; omega)) (zTH_fr s2 (fun a j ha => zup_o (by omega)) (by omega)) ?_
           rw [zup_s, hvi, z_or1, zmk_or, zmk_y (s3.elim (fun q => q.1) (fun q => absurd q.2 (by omega)))])
      · skip
        refine w_aload0 dX5_selectRows_61 (wp_dup dX5_selectRows_62 rfl (wp_geti dX5_selectRows_63 fl_RX5_112 is_78 ?_))
        rw [k3]
        refine wp_iconst dX5_selectRows_66 (w_iload1 dX5_selectRows_67 (wp_ishl dX5_selectRows_68 (by omega) (wp_ior dX5_selectRows_69 ⟨by omega, by omega⟩ (by rw [hvi]; exact z_1s i (by omega)) (wp_puti dX5_selectRows_70 fl_RX5_112 is_78 rfl (w_iinc1 dX5_selectRows_73 rfl (by decide) (wp_goto 21 dX5_selectRows_76 rfl ?_))))))
        first
        | (have c9 : x55 = 0 := by omega
           refine ih21 _ (by omega) (i + 1) _ _ rfl (by omega) (by omega) hF55 s2 ?_
           rw [k3, zmk_n (s3.elim (fun q => absurd q.2 (by omega)) (fun q => q.1))])
        | (refine ih21 _ (by omega) (i + 1) _ _ rfl (by omega) (by omega) (hF55.up (by unfold zFsel; omega)) (zTH_fr s2 (fun a j ha => zup_o (by omega)) (by omega)) ?_
           rw [zup_s, hvi, z_or1, zmk_or, zmk_y (s3.elim (fun q => q.1) (fun q => absurd q.2 (by omega)))])
  refine w_aload0 dX5_selectRows_0 (wp_iconst dX5_selectRows_1 (wp_puti dX5_selectRows_2 fl_RX5_112 is_78 rfl (w_aload0 dX5_selectRows_5 (wp_getr 79 dX5_selectRows_6 fl_RX5_12 is_78 rfl (w_aload0 dX5_selectRows_9 (wp_getr 2 dX5_selectRows_10 fl_RX5_31 is_78 rfl (wp_geti dX5_selectRows_13 fl_RX5_47 is_2 ?_)))))))
  rw [show zup h 78 3 0 2 0 = p by rw [zup_o (by omega)]; exact hP.1]
  apply v_v1 (M := mX5_selectRows) dX5_selectRows_16 lk_RX5_52 mvX7_begin (by decide) meX5_selectRows is_79 (Nat.le_of_ble_eq_true rfl)
  · exact t_X7_begin
  intro h16 hP16
  replace hP16 := hP16.symm
  subst hP16
  refine wp_iconst dX5_selectRows_19 (w_istore1 dX5_selectRows_20 rfl (by decide) ?_)
  exact L21 _ 0 _ 0 rfl (Nat.zero_le _) rfl (fun a j n => by unfold zFsel at n; rw [zfl_o (by omega), zup_o (by omega), zup_o (by omega), zup_o (by omega)]) zTH_0 (by rw [zfl_o (by omega), zup_o (by omega), zup_o (by omega), zup_s]; rfl)
set_option maxRecDepth 100000 in
set_option maxHeartbeats 4000000 in
theorem t_X5_selectColumns {h : zH} {p : Int} {c : Nat → Nat → Int} (hs : zSt p c) (hP : zPol p c 2 h) (hD : zDx p c h) {pv : Nat} (hpv : (pv : Int) < p) (h2 : h 78 2 = (pv : Int)) : CV yX5_selectColumns mX5_selectColumns [vR 78] h (fun h' => zFr (zFsel 4) h h' ∧ h' 78 4 = (zmk (zTfl p (zCl p c pv)) (zsd c) : Int)) := by
  refine inV [some (vR 78), none] mvX5_selectColumns rfl (Nat.le_of_ble_eq_true rfl) rfl ?_
  have hp := hs.p
  have hpp : 0 < p := by omega
  have hsl := zsd_le c
  have hVin : ∀ n q, 0 ≤ zCl p c pv n q ∧ zCl p c pv n q < p := fun n q => zCl_in (by omega) _ _
  have L21 : ∀ (zm21 : Nat) (i : Nat) (h' : zH) (vi : Int), zsd c - i = zm21 → (i ≤ zsd c) → (vi = (i : Int)) → (zFr (zFsel 4) h h') → (zTH p (zCl p c pv) i h') → (h' 78 4 = (zmk (zTfl p (zCl p c pv)) i : Int)) → WP mX5_selectColumns (zMQ mX5_selectColumns (zKV (fun h' => zFr (zFsel 4) h h' ∧ h' 78 4 = (zmk (zTfl p (zCl p c pv)) (zsd c) : Int)))) 21 [some (vR 78), some (vI vi)] [] zN zGR h' := by
    intro zm21
    induction zm21 using Nat.strongRecOn with | _ zm21 ih21 => ?_
    intro i h' vi hzm21 hi hvi hF hT hm
    subst hzm21
    have hD' : zDx p c h' := zDx_fr hD (fun a j ha => hF a j (by unfold zFsel; omega))
    have k72 : h' 7 2 = (zsd c : Int) := hD'.2.2.1
    have k2 : h' 78 2 = (pv : Int) := by rw [hF _ _ (by unfold zFsel; omega)]; exact h2
    have kp : h' 2 0 = p := by rw [hF _ _ (by unfold zFsel; omega)]; exact hP.1
    have hmb := zmk_b8 (P := zTfl p (zCl p c pv)) (i := i) (by omega)
    refine w_iload1 dX5_selectColumns_21 (w_aload0 dX5_selectColumns_22 (wp_getr 7 dX5_selectColumns_23 fl_RX5_35 is_78 rfl (wp_geti dX5_selectColumns_26 fl_RX5_56 is_7 ?_)))
    rw [k72]
    refine wp_icmp_ge 79 dX5_selectColumns_29 rfl ⟨by omega, by omega⟩ ⟨by omega, by omega⟩ (fun c29 => ?_) (fun c29 => ?_)
    · skip
      refine r_v dX5_selectColumns_79 rfl meX5_selectColumns ?_
      rw [show i = zsd c by omega] at hm
      exact ⟨hF, hm⟩
    · skip
      refine w_aload0 dX5_selectColumns_32 (wp_getr 7 dX5_selectColumns_33 fl_RX5_35 is_78 rfl (w_iload1 dX5_selectColumns_36 (w_aload0 dX5_selectColumns_37 (wp_geti dX5_selectColumns_38 fl_RX5_88 is_78 ?_))))
      rw [k2]
      refine w_aload0 dX5_selectColumns_41 (wp_getr 79 dX5_selectColumns_42 fl_RX5_12 is_78 rfl (wp_getr 80 dX5_selectColumns_45 fl_RX5_61 is_79 rfl ?_))
      apply v_v3 (M := mX5_selectColumns) dX5_selectColumns_48 lk_RX5_118 mvX0_writeColumn (by decide) meX5_selectColumns is_7 (Nat.le_of_ble_eq_true rfl)
      · exact t_X0_writeColumn hvi (by omega) ⟨by omega, hpv⟩ ⟨hpp, hp.2⟩ kp k72 hsl (zDx_E hpp hD')
      intro h48 hP48
      replace hP48 := hP48.symm
      subst hP48
      refine w_aload0 dX5_selectColumns_51 (wp_getr 79 dX5_selectColumns_52 fl_RX5_12 is_78 rfl ?_)
      have hT' : zTH p (zCl p c pv) i (zfl h' 80 16 (zCl p c pv i)) := zTH_fr hT (fun a j ha => zfl_o (by omega)) (by omega)
      have hV' : ∀ q, q < 16 → zfl h' 80 16 (zCl p c pv i) 80 q = zCl p c pv i q := fun q hq => zfl_i hq
      apply v_i0 (M := mX5_selectColumns) dX5_selectColumns_55 lk_RX5_68 mvX7_take (by decide) meX5_selectColumns is_79 (Nat.le_of_ble_eq_true rfl)
      · exact t_X7_take ⟨hpp, hp.2⟩ (by have := zTs_le (p := p) (V := zCl p c pv) i; omega) hT'.1 (fun q hq => by have w := hVin i q; rw [← hV' q hq] at w; exact w)
      intro x55 h55 hP55
      obtain ⟨s1, s2, s3⟩ := zT_step hT' hV' (by omega) hP55
      have hF55 : zFr (zFsel 4) h h55 := fun a j n => by
        have n2 := n
        unfold zFsel at n2
        rw [s1 a j (by unfold zFSp; omega), zfl_o (by omega)]
        exact hF a j n
      have k3 : h55 78 4 = (zmk (zTfl p (zCl p c pv)) i : Int) := by rw [s1 _ _ (by unfold zFSp; omega), zfl_o (by omega)]; exact hm
      refine wp_if_eq 73 dX5_selectColumns_58 rfl ⟨by omega, by omega⟩ (fun c58 => ?_) (fun c58 => ?_)
      · skip
        refine w_iinc1 dX5_selectColumns_73 rfl (by decide) (wp_goto 21 dX5_selectColumns_76 rfl ?_)
        first
        | (have c9 : x55 = 0 := by omega
           refine ih21 _ (by omega) (i + 1) _ _ rfl (by omega) (by omega) hF55 s2 ?_
           rw [k3, zmk_n (s3.elim (fun q => absurd q.2 (by omega)) (fun q => q.1))])
        | (refine ih21 _ (by omega) (i + 1) _ _ rfl (by omega) (by omega) (hF55.up (by unfold zFsel; omega)) (zTH_fr s2 (fun a j ha => zup_o (by omega)) (by omega)) ?_
           rw [zup_s, hvi, z_or1, zmk_or, zmk_y (s3.elim (fun q => q.1) (fun q => absurd q.2 (by omega)))])
      · skip
        refine w_aload0 dX5_selectColumns_61 (wp_dup dX5_selectColumns_62 rfl (wp_geti dX5_selectColumns_63 fl_RX5_115 is_78 ?_))
        rw [k3]
        refine wp_iconst dX5_selectColumns_66 (w_iload1 dX5_selectColumns_67 (wp_ishl dX5_selectColumns_68 (by omega) (wp_ior dX5_selectColumns_69 ⟨by omega, by omega⟩ (by rw [hvi]; exact z_1s i (by omega)) (wp_puti dX5_selectColumns_70 fl_RX5_115 is_78 rfl (w_iinc1 dX5_selectColumns_73 rfl (by decide) (wp_goto 21 dX5_selectColumns_76 rfl ?_))))))
        first
        | (have c9 : x55 = 0 := by omega
           refine ih21 _ (by omega) (i + 1) _ _ rfl (by omega) (by omega) hF55 s2 ?_
           rw [k3, zmk_n (s3.elim (fun q => absurd q.2 (by omega)) (fun q => q.1))])
        | (refine ih21 _ (by omega) (i + 1) _ _ rfl (by omega) (by omega) (hF55.up (by unfold zFsel; omega)) (zTH_fr s2 (fun a j ha => zup_o (by omega)) (by omega)) ?_
           rw [zup_s, hvi, z_or1, zmk_or, zmk_y (s3.elim (fun q => q.1) (fun q => absurd q.2 (by omega)))])
  refine w_aload0 dX5_selectColumns_0 (wp_iconst dX5_selectColumns_1 (wp_puti dX5_selectColumns_2 fl_RX5_115 is_78 rfl (w_aload0 dX5_selectColumns_5 (wp_getr 79 dX5_selectColumns_6 fl_RX5_12 is_78 rfl (w_aload0 dX5_selectColumns_9 (wp_getr 2 dX5_selectColumns_10 fl_RX5_31 is_78 rfl (wp_geti dX5_selectColumns_13 fl_RX5_47 is_2 ?_)))))))
  rw [show zup h 78 4 0 2 0 = p by rw [zup_o (by omega)]; exact hP.1]
  apply v_v1 (M := mX5_selectColumns) dX5_selectColumns_16 lk_RX5_52 mvX7_begin (by decide) meX5_selectColumns is_79 (Nat.le_of_ble_eq_true rfl)
  · exact t_X7_begin
  intro h16 hP16
  replace hP16 := hP16.symm
  subst hP16
  refine wp_iconst dX5_selectColumns_19 (w_istore1 dX5_selectColumns_20 rfl (by decide) ?_)
  exact L21 _ 0 _ 0 rfl (Nat.zero_le _) rfl (fun a j n => by unfold zFsel at n; rw [zfl_o (by omega), zup_o (by omega), zup_o (by omega), zup_o (by omega)]) zTH_0 (by rw [zfl_o (by omega), zup_o (by omega), zup_o (by omega), zup_s]; rfl)
set_option maxRecDepth 100000 in
set_option maxHeartbeats 4000000 in
theorem t_X5_survey {h : zH} {p : Int} {c : Nat → Nat → Int} (hs : zSt p c) (hP : zPol p c 2 h) (hD : zDx p c h) (hsd : 2 ≤ zsd c) (hR : zRk p c h) (hf : h 78 14 = 0 ∨ (h 78 14 = 1 ∧ zSv p c h)) : CV yX5_survey mX5_survey [vR 78] h (fun h' => zFr zFSv h h' ∧ zRk p c h' ∧ h' 78 14 = 1 ∧ zSv p c h') := by
  refine inV [some (vR 78), none] mvX5_survey rfl (Nat.le_of_ble_eq_true rfl) rfl ?_
  have hp := hs.p
  have hpp : 0 < p := by omega
  have hsl := zsd_le c
  have L30 : ∀ (zm30 : Nat) (i : Nat) (h' : zH) (vi : Int), p.toNat - i = zm30 → ((i : Int) ≤ p) → (vi = (i : Int)) → (zFr zFSv h h') → (zRk p c h') → (h' 78 14 = 1) → (h' 78 0 = (zgt p c i : Int)) → (h' 78 1 = (zgw p c i : Int)) → (h' 78 2 = (zpv p c i : Int)) → (∀ t : Nat, t < i → zRkT p c t h') → WP mX5_survey (zMQ mX5_survey (zKV (fun h' => zFr zFSv h h' ∧ zRk p c h' ∧ h' 78 14 = 1 ∧ zSv p c h'))) 30 [some (vR 78), some (vI vi)] [] zN zGR h' := by
    intro zm30
    induction zm30 using Nat.strongRecOn with | _ zm30 ih30 => ?_
    intro i h' vi hzm30 hi hvi hF hR2 h14 h0 h1 h2 hT
    subst hzm30
    have hD' : zDx p c h' := zDx_fr hD (fun a j ha => hF a j (by unfold zFSv; omega))
    have hP' : zPol p c 2 h' := zPol_eq hP (fun b j hb1 hb2 => hF _ _ (by unfold zFSv; omega))
    have kp : h' 2 0 = p := hP'.1
    have hg8 := zgt_le (p := p) (c := c) i
    have hw8 := zgw_le (p := p) (c := c) i
    have hr8 := zrk_le (p := p) (c := c) (t := i)
    have hv8 := zrkw_le (p := p) (c := c) (t := i)
    refine w_iload1 dX5_survey_30 (w_aload0 dX5_survey_31 (wp_getr 2 dX5_survey_32 fl_RX5_31 is_78 rfl (wp_geti dX5_survey_35 fl_RX5_47 is_2 ?_)))
    rw [kp]
    refine wp_icmp_ge 103 dX5_survey_38 rfl ⟨by omega, by omega⟩ ⟨by omega, by omega⟩ (fun c38 => ?_) (fun c38 => ?_)
    · skip
      refine w_aload0 dX5_survey_103 ?_
      have hi9 : i = p.toNat := by omega
      have hg : h' 78 0 = (zgP p c : Int) := by rw [h0, hi9]; rfl
      have hpe : h' 78 2 = (zpP p c : Int) := by rw [h2, hi9]; rfl
      have hpvl : (zpP p c : Int) < p := by
        have := zpv_lt (p := p) (c := c) p.toNat (by omega)
        unfold zpP
        omega
      apply v_v0 (M := mX5_survey) dX5_survey_104 lk_RX5_100 mvX5_findDrops (by decide) meX5_survey is_78 (Nat.le_of_ble_eq_true rfl)
      · exact t_X5_findDrops (c := c) (g := zgP p c) hp kp hg (by have := zgt_le (p := p) (c := c) p.toNat; unfold zgP; omega) hsl (fun t ht => (hT t (by omega)).1)
      intro h104 hP104
      replace hP104 := hP104.symm
      subst hP104
      refine w_aload0 dX5_survey_107 ?_
      apply v_v0 (M := mX5_survey) dX5_survey_108 lk_RX5_103 mvX5_selectRows (by decide) meX5_survey is_78 (Nat.le_of_ble_eq_true rfl)
      · exact t_X5_selectRows (pv := zpP p c) hs (zPol_eq hP' (fun b j hb1 hb2 => zup_o (by omega))) (zDx_fr hD' (fun a j ha => zup_o (by omega))) hpvl (by rw [zup_o (by omega)]; exact hpe)
      intro h108 hP108
      obtain ⟨r1, r2⟩ := hP108
      refine w_aload0 dX5_survey_111 ?_
      apply v_v0 (M := mX5_survey) dX5_survey_112 lk_RX5_106 mvX5_selectColumns (by decide) meX5_survey is_78 (Nat.le_of_ble_eq_true rfl)
      · exact t_X5_selectColumns (pv := zpP p c) hs (zPol_eq hP' (fun b j hb1 hb2 => (r1 _ _ (by unfold zFsel; omega)).trans (zup_o (by omega)))) (zDx_fr hD' (fun a j ha => (r1 _ _ (by unfold zFsel; omega)).trans (zup_o (by omega)))) hpvl ((r1 _ _ (by unfold zFsel; omega)).trans ((zup_o (by omega)).trans hpe))
      intro h112 hP112
      obtain ⟨q1, q2⟩ := hP112
      refine r_v dX5_survey_115 rfl meX5_survey ?_
      have fin : ∀ a j, (a ≠ 78 ∨ (j ≠ 3 ∧ j ≠ 4 ∧ j ≠ 5)) → ¬ ((80 ≤ a ∧ a ≤ 91 ∧ a ≠ 82) ∨ (a = 79 ∧ (j = 0 ∨ j = 5))) → h112 a j = h' a j := fun a j n m => by
        exact (q1 _ _ (by unfold zFsel; omega)).trans ((r1 _ _ (by unfold zFsel; omega)).trans (zup_o (by omega)))
      refine ⟨fun a j n => ?_, zRk_fr hR2 (fun a j ha => fin a j (by omega) (by omega)), ?_, ?_, ?_, ?_, ?_, q2, ?_⟩
      · have n2 := n
        unfold zFSv at n2
        rw [fin a j (by omega) (by omega)]
        exact hF a j n
      · rw [fin _ _ (by omega) (by omega)]; exact h14
      · rw [fin _ _ (by omega) (by omega)]; exact hg
      · rw [fin _ _ (by omega) (by omega), h1, hi9]
      · rw [fin _ _ (by omega) (by omega)]; exact hpe
      · rw [q1 _ _ (by unfold zFsel; omega)]; exact r2
      · exact (q1 _ _ (by unfold zFsel; omega)).trans ((r1 _ _ (by unfold zFsel; omega)).trans zup_s)
    · skip
      refine w_iload1 dX5_survey_41 (wp_bipush dX5_survey_42 (by decide) ?_)
      refine wp_icmp_ge 103 dX5_survey_44 rfl ⟨by omega, by omega⟩ ⟨by omega, by omega⟩ (fun c44 => absurd c44 (by omega)) (fun c44 => ?_)
      refine w_aload0 dX5_survey_47 (w_iload1 dX5_survey_48 ?_)
      apply v_v1 (M := mX5_survey) dX5_survey_49 lk_RX5_91 mvX5_examine (by decide) meX5_survey is_78 (Nat.le_of_ble_eq_true rfl)
      · exact t_X5_examine hvi hs (by omega) hP' hD' hsd hR2
      intro h49 hP49
      obtain ⟨x1, x2, x3⟩ := hP49
      have hT49 : ∀ t : Nat, t < i + 1 → zRkT p c t h49 := fun t ht => by
        by_cases e : t = i
        · rw [e]; exact x3
        · exact zRkT_fr (hT t (by omega)) (fun a ha hb => x1 _ _ (by unfold zFRk; omega))
      have e1 : h49 78 1 = (zgw p c i : Int) := by rw [x1 _ _ (by unfold zFRk; omega)]; exact h1
      have e93 : h49 93 i = (zrkw p c i : Int) := x3.2.1
      have e92 : ∀ v, zup h49 78 1 v 92 i = (zrk p c i : Int) := fun v => by rw [zup_o (by omega)]; exact x3.1
      have e0 : ∀ v, zup h49 78 1 v 78 0 = (zgt p c i : Int) := fun v => by rw [zup_o (by omega), x1 _ _ (by unfold zFRk; omega)]; exact h0
      have hF49 : ∀ a j, ¬ zFSv a j → h49 a j = h a j := fun a j n => by
        have n2 := n
        unfold zFSv at n2
        rw [x1 _ _ (by unfold zFRk; omega)]
        exact hF a j n
      have e14 : h49 78 14 = 1 := by rw [x1 _ _ (by unfold zFRk; omega)]; exact h14
      have e2' : h49 78 2 = (zpv p c i : Int) := by rw [x1 _ _ (by unfold zFRk; omega)]; exact h2
      have e0' : h49 78 0 = (zgt p c i : Int) := by rw [x1 _ _ (by unfold zFRk; omega)]; exact h0
      refine w_aload0 dX5_survey_52 (w_aload0 dX5_survey_53 (wp_geti dX5_survey_54 fl_RX5_85 is_78 ?_))
      rw [e1]
      refine w_aload0 dX5_survey_57 (wp_getr 93 dX5_survey_58 fl_RX5_22 is_78 rfl (w_iload1 dX5_survey_61 (x_iald i dX5_survey_62 is_93 hvi (by omega) ?_)))
      rw [e93]
      refine x_mmax dX5_survey_63 lk_RX5_94 ⟨by omega, by omega⟩ ⟨by omega, by omega⟩ (by decide) (Nat.le_of_ble_eq_true rfl) meX5_survey (wp_puti dX5_survey_66 fl_RX5_85 is_78 rfl (w_aload0 dX5_survey_69 (wp_getr 92 dX5_survey_70 fl_RX5_18 is_78 rfl (w_iload1 dX5_survey_73 (x_iald i dX5_survey_74 is_92 hvi (by omega) ?_)))))
      rw [e92 _]
      refine w_aload0 dX5_survey_75 (wp_geti dX5_survey_76 fl_RX5_82 is_78 ?_)
      rw [e0 _]
      refine wp_icmp_le 97 dX5_survey_79 rfl ⟨by omega, by omega⟩ ⟨by omega, by omega⟩ (fun c79 => ?_) (fun c79 => ?_)
      · skip
        refine w_iinc1 dX5_survey_97 rfl (by decide) (wp_goto 30 dX5_survey_100 rfl ?_)
        first
        | (have c9 : zrk p c i ≤ zgt p c i := by omega
           refine ih30 _ (by omega) (i + 1) _ _ rfl (by omega) (by omega) (fun a j n => ?_) (zRk_fr x2 (fun a j ha => zup_o (by omega))) ?_ ?_ ?_ ?_ (fun t ht => zRkT_fr (hT49 t ht) (fun a ha hb => zup_o (by omega)))
           · have n2 := n
             unfold zFSv at n2
             rw [zup_o (by omega)]
             exact hF49 a j n
           · rw [zup_o (by omega)]; exact e14
           · rw [zup_o (by omega), e0']
             show _ = ((max (zgt p c i) (zrk p c i) : Nat) : Int)
             omega
           · rw [zup_s]
             show _ = ((max (zgw p c i) (zrkw p c i) : Nat) : Int)
             omega
           · rw [zup_o (by omega), e2']
             show _ = ((if zgt p c i < zrk p c i then i else zpv p c i : Nat) : Int)
             rw [if_neg (by omega)])
        | (refine ih30 _ (by omega) (i + 1) _ _ rfl (by omega) (by omega) (fun a j n => ?_) (zRk_fr x2 (fun a j ha => by rw [zup_o (by omega), zup_o (by omega), zup_o (by omega)])) ?_ ?_ ?_ ?_ (fun t ht => zRkT_fr (hT49 t ht) (fun a ha hb => by rw [zup_o (by omega), zup_o (by omega), zup_o (by omega)]))
           · have n2 := n
             unfold zFSv at n2
             rw [zup_o (by omega), zup_o (by omega), zup_o (by omega)]
             exact hF49 a j n
           · rw [zup_o (by omega), zup_o (by omega), zup_o (by omega)]; exact e14
           · rw [zup_o (by omega), zup_s]
             show _ = ((max (zgt p c i) (zrk p c i) : Nat) : Int)
             omega
           · rw [zup_o (by omega), zup_o (by omega), zup_s]
             show _ = ((max (zgw p c i) (zrkw p c i) : Nat) : Int)
             omega
           · rw [zup_s]
             show _ = ((if zgt p c i < zrk p c i then i else zpv p c i : Nat) : Int)
             rw [if_pos (by omega)]
             exact hvi)
      · skip
        refine w_aload0 dX5_survey_82 (w_aload0 dX5_survey_83 (wp_getr 92 dX5_survey_84 fl_RX5_18 is_78 rfl (w_iload1 dX5_survey_87 (x_iald i dX5_survey_88 is_92 hvi (by omega) ?_))))
        rw [e92 _]
        refine wp_puti dX5_survey_89 fl_RX5_82 is_78 rfl (w_aload0 dX5_survey_92 (w_iload1 dX5_survey_93 (wp_puti dX5_survey_94 fl_RX5_88 is_78 rfl (w_iinc1 dX5_survey_97 rfl (by decide) (wp_goto 30 dX5_survey_100 rfl ?_)))))
        first
        | (have c9 : zrk p c i ≤ zgt p c i := by omega
           refine ih30 _ (by omega) (i + 1) _ _ rfl (by omega) (by omega) (fun a j n => ?_) (zRk_fr x2 (fun a j ha => zup_o (by omega))) ?_ ?_ ?_ ?_ (fun t ht => zRkT_fr (hT49 t ht) (fun a ha hb => zup_o (by omega)))
           · have n2 := n
             unfold zFSv at n2
             rw [zup_o (by omega)]
             exact hF49 a j n
           · rw [zup_o (by omega)]; exact e14
           · rw [zup_o (by omega), e0']
             show _ = ((max (zgt p c i) (zrk p c i) : Nat) : Int)
             omega
           · rw [zup_s]
             show _ = ((max (zgw p c i) (zrkw p c i) : Nat) : Int)
             omega
           · rw [zup_o (by omega), e2']
             show _ = ((if zgt p c i < zrk p c i then i else zpv p c i : Nat) : Int)
             rw [if_neg (by omega)])
        | (refine ih30 _ (by omega) (i + 1) _ _ rfl (by omega) (by omega) (fun a j n => ?_) (zRk_fr x2 (fun a j ha => by rw [zup_o (by omega), zup_o (by omega), zup_o (by omega)])) ?_ ?_ ?_ ?_ (fun t ht => zRkT_fr (hT49 t ht) (fun a ha hb => by rw [zup_o (by omega), zup_o (by omega), zup_o (by omega)]))
           · have n2 := n
             unfold zFSv at n2
             rw [zup_o (by omega), zup_o (by omega), zup_o (by omega)]
             exact hF49 a j n
           · rw [zup_o (by omega), zup_o (by omega), zup_o (by omega)]; exact e14
           · rw [zup_o (by omega), zup_s]
             show _ = ((max (zgt p c i) (zrk p c i) : Nat) : Int)
             omega
           · rw [zup_o (by omega), zup_o (by omega), zup_s]
             show _ = ((max (zgw p c i) (zrkw p c i) : Nat) : Int)
             omega
           · rw [zup_s]
             show _ = ((if zgt p c i < zrk p c i then i else zpv p c i : Nat) : Int)
             rw [if_pos (by omega)]
             exact hvi)
  refine w_aload0 dX5_survey_0 (wp_getz dX5_survey_1 fl_RX5_43 is_78 ?_)
  refine wp_if_eq 8 dX5_survey_4 rfl ⟨by omega, by omega⟩ (fun c4 => ?_) (fun c4 => ?_)
  · skip
    refine w_aload0 dX5_survey_8 (wp_iconst dX5_survey_9 (wp_putz dX5_survey_10 fl_RX5_43 is_78 rfl (by first | exact Or.inl rfl | exact Or.inr rfl) (w_aload0 dX5_survey_13 (wp_iconst dX5_survey_14 (wp_puti dX5_survey_15 fl_RX5_82 is_78 rfl (w_aload0 dX5_survey_18 (wp_iconst dX5_survey_19 (wp_puti dX5_survey_20 fl_RX5_85 is_78 rfl (w_aload0 dX5_survey_23 ?_)))))))))
    refine wp_iconst dX5_survey_24 (wp_puti dX5_survey_25 fl_RX5_88 is_78 rfl (wp_iconst dX5_survey_28 (w_istore1 dX5_survey_29 rfl (by decide) ?_)))
    refine L30 _ 0 _ 0 rfl (by omega) rfl (fun a j n => ?_) ?_ ?_ ?_ ?_ ?_ (fun t ht => absurd ht (Nat.not_lt_zero t))
    · unfold zFSv at n
      rw [zup_o (by omega), zup_o (by omega), zup_o (by omega), zup_o (by omega)]
    · exact zRk_fr hR (fun a j ha => by rw [zup_o (by omega), zup_o (by omega), zup_o (by omega), zup_o (by omega)])
    · rw [zup_o (by omega), zup_o (by omega), zup_o (by omega), zup_s]
    · rw [zup_o (by omega), zup_o (by omega), zup_s]
      rfl
    · rw [zup_o (by omega), zup_s]
      rfl
    · rw [zup_s]
      rfl
  · skip
    refine r_v dX5_survey_7 rfl meX5_survey ?_
    exact ⟨zFr.rf, hR, by omega, hf.elim (fun q => absurd q (by omega)) (fun q => q.2)⟩
