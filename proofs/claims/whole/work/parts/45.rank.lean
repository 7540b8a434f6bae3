/-! ===== greedy choices: the same whoever makes them; as many rows as columns ===== -/
theorem zSpn.le {p : Int} {s s' n : Nat} {V : Nat → Nat → Int} {w : Nat → Int} (H : zSpn p s V n w) (h : s' ≤ s) : zSpn p s' V n w := by
  obtain ⟨a, ha⟩ := H
  exact ⟨a, fun q hq => ha q (by omega)⟩
theorem zdt_out {s : Nat} {x v : Nat → Int} (hs : s ≤ 8) (h : ∀ q, s ≤ q → q < 8 → v q = 0) : zdt 8 x v = zdt s x v := zsi_out 8 hs (fun q h1 h2 => by show x q * v q = 0; rw [h q h1 h2, Int.mul_zero])
theorem zInd_8 {p : Int} {s n : Nat} {V : Nat → Nat → Int} (hs : s ≤ 8) (hV : ∀ i, i ≤ n → ∀ q, s ≤ q → q < 8 → V i q = 0) (H : zInd p 8 V n) : zInd p s V n := by
  obtain ⟨x, h1, h2⟩ := H
  exact ⟨x, fun i hi => by rw [← zdt_out hs (hV i (by omega))]; exact h1 i hi, by rw [← zdt_out hs (hV n (Nat.le_refl n))]; exact h2⟩
theorem zInd_vc {p : Int} {s n : Nat} {V V' : Nat → Nat → Int} (H : zInd p s V n) (h : ∀ i, i ≤ n → ∀ q, q < s → zcg p (V' i q) (V i q)) : zInd p s V' n := by
  obtain ⟨x, h1, h2⟩ := H
  exact ⟨x, fun i hi => (zdt_cg (h i (by omega))).tr (h1 i hi), (zdt_cg (h n (Nat.le_refl n))).tr h2⟩
/-- P tells which of V 0 .. V (N - 1) are no combinations of those before -/
def zFl (p : Int) (s N : Nat) (V : Nat → Nat → Int) (P : Nat → Prop) : Prop := ∀ n, n < N → (P n → zInd p s V n) ∧ (¬ P n → zSpn p s V n (V n))
theorem zFl.lt {p : Int} {s N M : Nat} {V : Nat → Nat → Int} {P : Nat → Prop} (F : zFl p s N V P) (h : M ≤ N) : zFl p s M V P := fun n hn => F n (by omega)
theorem zFl.iff {p : Int} (hp : 1 < p) {s N : Nat} {V V' : Nat → Nat → Int} {P P' : Nat → Prop} (F : zFl p s N V P) (F' : zFl p s N V' P') (h : ∀ i, i < N → ∀ q, q < s → zcg p (V i q) (V' i q)) {n : Nat} (hn : n < N) : P n ↔ P' n := by
  have a := F n hn
  have b := F' n hn
  refine ⟨fun y => Classical.byContradiction fun w => ?_, fun y => Classical.byContradiction fun w => ?_⟩
  · exact zInd_no hp (a.1 y) (((b.2 w).vc (V' := V) (fun i hi q hq => (h i (by omega) q hq).sy)).cg (fun q hq => h n hn q hq))
  · exact zInd_no hp (b.1 y) (((a.2 w).vc (V' := V') (fun i hi q hq => h i (by omega) q hq)).cg (fun q hq => (h n hn q hq).sy))
theorem zFl.s8 {p : Int} {s N : Nat} {V : Nat → Nat → Int} {P : Nat → Prop} (F : zFl p 8 N V P) (hs : s ≤ 8) (h : ∀ i, i < N → ∀ q, s ≤ q → q < 8 → V i q = 0) : zFl p s N V P := fun n hn => ⟨fun y => zInd_8 hs (fun i hi => h i (by omega)) ((F n hn).1 y), fun w => ((F n hn).2 w).le hs⟩
theorem zFl.vc {p : Int} {s N : Nat} {V V' : Nat → Nat → Int} {P : Nat → Prop} (F : zFl p s N V P) (h : ∀ i, i < N → ∀ q, q < s → zcg p (V' i q) (V i q)) : zFl p s N V' P := fun n hn => ⟨fun y => zInd_vc ((F n hn).1 y) (fun i hi => h i (by omega)), fun w => (((F n hn).2 w).vc (V' := V') (fun i hi q hq => (h i (by omega) q hq).sy)).cg (fun q hq => h n hn q hq)⟩
theorem zms_mo {P : Nat → Prop} : ∀ N i j, i < j → j < zct P N → zms P N i < zms P N j := by
  intro N
  induction N with
  | zero => intro i j _ h; exact absurd h (Nat.not_lt_zero j)
  | succ N ih =>
    intro i j hij hj
    by_cases e : P N
    · rw [zct_y e] at hj
      rw [zms_y e]
      have hi := zms_lt (P := P) N i (by omega)
      by_cases w : j = zct P N
      · rw [w, zupN_s, zupN_o (by omega)]
        exact hi.1
      · rw [zupN_o w, zupN_o (by omega)]
        exact ih i j hij (by omega)
    · rw [zct_n e] at hj
      rw [zms_n e]
      exact ih i j hij hj
theorem zms_su {P : Nat → Prop} : ∀ N n, n < N → P n → ∃ c, c < zct P N ∧ zms P N c = n := by
  intro N
  induction N with
  | zero => intro n h; exact absurd h (Nat.not_lt_zero n)
  | succ N ih =>
    intro n hn y
    by_cases e : P N
    · rw [zct_y e, zms_y e]
      by_cases w : n = N
      · exact ⟨zct P N, by omega, by rw [zupN_s, w]⟩
      · obtain ⟨c, hc, h⟩ := ih n (by omega) y
        exact ⟨c, by omega, by rw [zupN_o (by omega)]; exact h⟩
    · rw [zct_n e, zms_n e]
      exact ih n (by have : n ≠ N := fun q => e (q ▸ y); omega) y
theorem zsel_sp {p : Int} {s N : Nat} {V : Nat → Nat → Int} {P : Nat → Prop} (F : zFl p s N V P) : ∀ n, n < N → zSpn p s (fun c => V (zms P N c)) (zct P N) (V n) := by
  intro n
  induction n using Nat.strongRecOn with
  | _ n ih =>
    intro hn
    by_cases y : P n
    · obtain ⟨c, hc, e⟩ := zms_su N n hn y
      have := zSpn.of (p := p) (s := s) (V := fun c => V (zms P N c)) hc
      try dsimp only at this
      rw [e] at this
      exact this
    · exact ((F n hn).2 y).tr (fun b hb => ih b hb (by omega))
theorem zsel_id {p : Int} {s N : Nat} {V : Nat → Nat → Int} {P : Nat → Prop} (F : zFl p s N V P) : ∀ j, j < zct P N → ∃ x, (∀ i, i < j → zcg p (zdt s x (V (zms P N i))) 0) ∧ zcg p (zdt s x (V (zms P N j))) 1 := fun j hj => by
  have l := zms_lt N j hj
  obtain ⟨x, h1, h2⟩ := (F _ l.1).1 l.2
  exact ⟨x, fun i hi => h1 _ (zms_mo N i j hi hj), h2⟩
/-- rows in any order, columns in theirs: as many; their minor is not 0 -/
theorem zrc {p : Int} (hp : zPr p) {s : Nat} (hs : s ≤ 8) {M : Nat → Nat → Int} {π : Nat → Nat} (hπ : ∀ i, i < s → π i < s) (hπ2 : ∀ r, r < s → ∃ i, i < s ∧ π i = r) {P Q : Nat → Prop} (FP : zFl p s s (fun i => M (π i)) P) (FQ : zFl p s s (fun q r => M r q) Q) : zct P s = zct Q s ∧ ¬ zcg p (zwe (fun j c => if c < zct Q s then M (π (zms P s j)) (zms Q s c) else 0) (zct Q s) (2 ^ zct Q s - 1)) 0 := by
  have r1 := zRnk hp (s := s) (k := zct P s) (m := zct Q s) (M := M) (ρ := fun j => π (zms P s j)) (γ := zms Q s) (Nat.le_trans (zct_le s) hs) (zsel_id FP) (fun q hq => by
    obtain ⟨a, ha⟩ := zsel_sp FQ q hq
    exact ⟨a, fun j hj => ha _ (hπ _ (zms_lt s j hj).1)⟩)
  have r2 := zRnk hp (s := s) (k := zct Q s) (m := zct P s) (M := fun q r => M r q) (ρ := zms Q s) (γ := fun c => π (zms P s c)) (Nat.le_trans (zct_le s) hs) (zsel_id FQ) (fun r hr => by
    obtain ⟨i, hi, e⟩ := hπ2 r hr
    obtain ⟨a, ha⟩ := zsel_sp FP i hi
    refine ⟨a, fun j hj => ?_⟩
    have := ha (zms Q s j) (zms_lt s j hj).1
    try dsimp only at this
    rw [e] at this
    exact this)
  have e : zct P s = zct Q s := by omega
  exact ⟨e, r1.2 e⟩
/-! ===== the class's and the model's choices at t ===== -/
def zpi (s i : Nat) : Nat := if i + 1 < s then i + 1 else 0
theorem zpi_lt {s : Nat} (h : 0 < s) : ∀ i, i < s → zpi s i < s := fun i hi => by unfold zpi; split <;> omega
theorem zpi_su {s : Nat} : ∀ r, r < s → ∃ i, i < s ∧ zpi s i = r := fun r hr => by
  by_cases e : r = 0
  · exact ⟨s - 1, by omega, by unfold zpi; rw [if_neg (by omega), e]⟩
  · exact ⟨r - 1, by omega, by unfold zpi; rw [if_pos (by omega)]; omega⟩
theorem zRw_v {p : Int} {c : Nat → Nat → Int} {t : Int} {row q : Nat} (hq : q < zsd c) : zRw p c t row q = zRV p (zEn p c) t row q := by
  have h8 := zsd_le c
  unfold zRw zRV
  rw [if_neg (by omega), if_pos hq]
theorem zRw_0 {p : Int} {c : Nat → Nat → Int} {t : Int} {row q : Nat} (h1 : zsd c ≤ q) (h2 : q < 8) : zRw p c t row q = 0 := by
  unfold zRw
  rw [if_neg (by omega), if_neg (by omega)]
theorem zCl_v {p : Int} {c : Nat → Nat → Int} {t : Int} {col q : Nat} (hq : q < zsd c) : zCl p c t col q = zCV p (zEn p c) t col q := if_pos hq
theorem zCl_0 {p : Int} {c : Nat → Nat → Int} {t : Int} {col q : Nat} (h1 : zsd c ≤ q) : zCl p c t col q = 0 := if_neg (by omega)
section
variable {p : Int} {c : Nat → Nat → Int}
theorem zF_row (hp : zPr p) (t : Int) : zFl p (zsd c) (zsd c) (zRV p (zEn p c) t) (zTfl p (zRw p c t)) := by
  have h5 := zPr_p hp
  have F : zFl p 8 (zsd c) (zRw p c t) (zTfl p (zRw p c t)) := fun n _ => (zTs_G hp (fun n q => zRw_in (by omega) n q) n).2
  exact (F.s8 (zsd_le c) (fun i _ q h1 h2 => zRw_0 h1 h2)).vc (fun i _ q hq => zcg.of (zRw_v hq).symm)
theorem zF_vx (hp : zPr p) (t : Int) : zFl p (zsd c) (zsd c) (fun i => zRV p (zEn p c) t (zpi (zsd c) i)) (zTfl p (zVx p c t)) := by
  have h5 := zPr_p hp
  have F : zFl p 8 (zsd c) (zVx p c t) (zTfl p (zVx p c t)) := fun n _ => (zTs_G hp (fun n q => zRw_in (by omega) _ q) n).2
  exact (F.s8 (zsd_le c) (fun i _ q h1 h2 => zRw_0 h1 h2)).vc (fun i _ q hq => zcg.of (zRw_v hq).symm)
theorem zF_col (hp : zPr p) (t : Int) : zFl p (zsd c) (zsd c) (zCV p (zEn p c) t) (zTfl p (zCl p c t)) := by
  have h5 := zPr_p hp
  have F : zFl p 8 (zsd c) (zCl p c t) (zTfl p (zCl p c t)) := fun n _ => (zTs_G hp (fun n q => zCl_in (by omega) n q) n).2
  exact (F.s8 (zsd_le c) (fun i _ q h1 h2 => zCl_0 h1)).vc (fun i _ q hq => zcg.of (zCl_v hq).symm)
theorem zF_mrow (hp : zPr p) (t : Int) (k N : Nat) : zFl p (zsd c) N (fun n => zRV p (zEn p c) t (k + n)) (zMfl p (zsd c) (fun n => zRV p (zEn p c) t (k + n))) := by
  have h5 := zPr_p hp
  exact fun n _ => (zMs_G hp (fun n q => zhor_in (by omega) _ _) n).2
theorem zF_mcol (hp : zPr p) (t : Int) (k N : Nat) : zFl p (zsd c) N (fun n => zCV p (zEn p c) t (k + n)) (zMfl p (zsd c) (fun n => zCV p (zEn p c) t (k + n))) := by
  have h5 := zPr_p hp
  exact fun n _ => (zMs_G hp (fun n q => zhor_in (by omega) _ _) n).2
theorem zIp_iff {s : Nat} {V : Nat → Nat → Int} {r : Nat} : zIp p s V 0 r ↔ zMfl p s (fun n => V (0 + n)) r := ⟨fun h => h.2, fun h => ⟨Nat.zero_le r, h⟩⟩
theorem zIp_r (hp : zPr p) (t : Int) {i : Nat} (hi : i < zsd c) : zIp p (zsd c) (zRV p (zEn p c) t) 0 i ↔ zTfl p (zRw p c t) i :=
  zIp_iff.trans ((zF_mrow hp t 0 (zsd c)).iff (by have := zPr_p hp; omega) (zF_row hp t) (fun i _ q _ => zcg.of (by rw [Nat.zero_add])) hi)
theorem zIp_c (hp : zPr p) (t : Int) {i : Nat} (hi : i < zsd c) : zIp p (zsd c) (zCV p (zEn p c) t) 0 i ↔ zTfl p (zCl p c t) i :=
  zIp_iff.trans ((zF_mcol hp t 0 (zsd c)).iff (by have := zPr_p hp; omega) (zF_col hp t) (fun i _ q _ => zcg.of (by rw [Nat.zero_add])) hi)
/-- rows in their order, and with row 0 last: as many as columns -/
theorem zrow_col (hp : zPr p) (t : Int) : zct (zTfl p (zRw p c t)) (zsd c) = zct (zTfl p (zCl p c t)) (zsd c) ∧ ¬ zcg p (zwe (fun j q => if q < zct (zTfl p (zCl p c t)) (zsd c) then zRV p (zEn p c) t (zms (zTfl p (zRw p c t)) (zsd c) j) (zms (zTfl p (zCl p c t)) (zsd c) q) else 0) (zct (zTfl p (zCl p c t)) (zsd c)) (2 ^ zct (zTfl p (zCl p c t)) (zsd c) - 1)) 0 :=
  zrc hp (zsd_le c) (M := zRV p (zEn p c) t) (π := fun i => i) (fun i hi => hi) (fun r hr => ⟨r, hr, rfl⟩) (zF_row hp t) (zF_col hp t)
theorem zrk_col (hp : zPr p) (hz : zsd c ≠ 0) (t : Nat) : zrk p c t = zct (zTfl p (zCl p c t)) (zsd c) := by
  have := (zrc hp (zsd_le c) (M := zRV p (zEn p c) t) (π := zpi (zsd c)) (zpi_lt (by omega)) zpi_su (zF_vx hp t) (zF_col hp t)).1
  rw [← this]
  exact zTs_ct (zsd c)
theorem zmrk_eq (hp : zPr p) (hz : zsd c ≠ 0) (t : Nat) : zmrk p (zsd c) (zEn p c) t = zrk p c t := by
  rw [zrk_col hp hz, ← (zrow_col hp (t : Int)).1]
  exact zct_congr (zsd c) (fun i hi => zIp_r hp t hi)
theorem zct_sh {s : Nat} {V : Nat → Nat → Int} : ∀ k, zct (zIp p s V 1) (k + 1) = zct (zMfl p s (fun n => V (1 + n))) k := by
  intro k
  induction k with
  | zero =>
    have : ¬ zIp p s V 1 0 := fun h => absurd h.1 (by decide)
    rw [zct_n this]
    rfl
  | succ k ih =>
    have e : zIp p s V 1 (k + 1) ↔ zMfl p s (fun n => V (1 + n)) k := ⟨fun h => h.2, fun h => ⟨by omega, h⟩⟩
    by_cases w : zMfl p s (fun n => V (1 + n)) k
    · rw [zct_y (e.mpr w), zct_y w, ih]
    · rw [zct_n (fun q => w (e.mp q)), zct_n w, ih]
theorem zmrw_eq (hp : zPr p) (hz : zsd c ≠ 0) (t : Nat) : zmrw p (zsd c) (zEn p c) t = zrkw p c t := by
  unfold zmrw zrkw
  rw [show zsd c = (zsd c - 1) + 1 by omega, zct_sh, zTs_ct, ← show zsd c = (zsd c - 1) + 1 by omega]
  refine zct_congr (zsd c - 1) (fun i hi => ?_)
  exact (zF_mrow hp (t : Int) 1 (zsd c - 1)).iff (by have := zPr_p hp; omega) ((zF_vx hp (t : Int)).lt (by omega)) (fun i hi q _ => zcg.of (by unfold zpi; rw [if_pos (by omega), Nat.add_comm])) hi
theorem zgmx_gt {f : Nat → Nat} (h : ∀ t, f t = zrk p c t) : ∀ n, zgmx f n = zgt p c n ∧ zgpv f n = zpv p c n := by
  intro n
  induction n with
  | zero => exact ⟨rfl, rfl⟩
  | succ n ih =>
    refine ⟨?_, ?_⟩
    · show max (zgmx f n) (f n) = max (zgt p c n) (zrk p c n)
      rw [ih.1, h]
    · show (if zgmx f n < f n then n else zgpv f n) = if zgt p c n < zrk p c n then n else zpv p c n
      rw [ih.1, ih.2, h]
theorem zgmx_gw {f : Nat → Nat} (h : ∀ t, f t = zrkw p c t) : ∀ n, zgmx f n = zgw p c n := by
  intro n
  induction n with
  | zero => rfl
  | succ n ih =>
    show max (zgmx f n) (f n) = max (zgw p c n) (zrkw p c n)
    rw [ih, h]
theorem zgt_pv : ∀ n, 0 < n → zgt p c n = zrk p c (zpv p c n) := by
  intro n
  induction n with
  | zero => intro h; exact absurd h (Nat.lt_irrefl 0)
  | succ n ih =>
    intro _
    show max (zgt p c n) (zrk p c n) = zrk p c (if zgt p c n < zrk p c n then n else zpv p c n)
    by_cases w : zgt p c n < zrk p c n
    · rw [if_pos w]; omega
    · rw [if_neg w]
      by_cases e : n = 0
      · subst e
        show max 0 (zrk p c 0) = zrk p c 0
        omega
      · rw [← ih (by omega)]; omega
theorem zRowO_eq (hp : zPr p) (hz : zsd c ≠ 0) : zRowO p c = zgP p c ∧ zRowO p c = zct (zTfl p (zCl p c (zpP p c))) (zsd c) := by
  have h1 := (zrow_col (c := c) hp (zpP p c : Int)).1
  have h2 := zrk_col hp hz (zpP p c)
  have h3 := zgt_pv (p := p) (c := c) p.toNat (by have := zPr_p hp; omega)
  unfold zRowO
  rw [h1]
  unfold zgP
  rw [h3]
  show min _ _ = zrk p c (zpP p c) ∧ _
  rw [h2]
  omega
end
