/-! ===== the relation of the rows, where they are all but one independent ===== -/
theorem zsi_outc {p : Int} {f : Nat → Int} {n : Nat} : ∀ m, n ≤ m → (∀ i, n ≤ i → i < m → zcg p (f i) 0) → zcg p (zsi f m) (zsi f n) := by
  intro m
  induction m with
  | zero => intro h _; rw [show n = 0 by omega]; exact zcg.rf
  | succ m ih =>
    intro h h2
    by_cases e : n = m + 1
    · rw [e]; exact zcg.rf
    · exact ((ih (by omega) (fun i a b => h2 i a (by omega))).ad (h2 m (by omega) (by omega))).tr (zcg.of (Int.add_zero _))
def zKer (p : Int) (s : Nat) (M : Nat → Nat → Int) (y : Nat → Int) : Prop := ∀ q, q < s → zcg p (zsi (fun r => y r * M r q) s) 0
theorem zKer_0 {p : Int} {s f : Nat} {M : Nat → Nat → Int} {P : Nat → Prop} (F : zFl p s s M P) (hf : ∀ r, r < s → r ≠ f → P r) {y : Nat → Int} (hy : zKer p s M y) (h0 : zcg p (y f) 0) : ∀ d, d ≤ s → ∀ r, s - d ≤ r → r < s → zcg p (y r) 0 := by
  intro d
  induction d with
  | zero => intro _ r h1 h2; exact absurd h2 (by omega)
  | succ d ih =>
    intro hd r h1 h2
    by_cases e : r = f
    · rw [e]; exact h0
    · by_cases e2 : s - d ≤ r
      · exact ih (by omega) r e2 h2
      · obtain ⟨x, x1, x2⟩ := (F r h2).1 (hf r h2 e)
        have k1 : zcg p (zsi (fun i => y i * zdt s x (M i)) s) 0 := by
          have : zsi (fun i => y i * zdt s x (M i)) s = zsi (fun q => x q * zsi (fun i => y i * M i q) s) s := by
            have e3 : zsi (fun i => y i * zdt s x (M i)) s = zsi (fun i => zsi (fun q => x q * (y i * M i q)) s) s := by
              refine zsi_congr s (fun i _ => ?_)
              unfold zdt
              rw [← zsi_ml]
              exact zsi_congr s (fun q _ => Int.mul_left_comm _ _ _)
            rw [e3, zsi_sw]
            exact zsi_congr s (fun q _ => zsi_ml s)
          rw [this]
          exact zsi_cz s (fun q hq => (zcg.rf.ml (hy q hq)).tr (zcg.of (Int.mul_zero _)))
        have k2 : zcg p (zsi (fun i => y i * zdt s x (M i)) s) (zsi (fun i => if i = r then y r else 0) s) := by
          refine zcg.si s (fun i hi => ?_)
          by_cases w : i = r
          · rw [if_pos w, w]
            exact (zcg.rf.ml x2).tr (zcg.of (Int.mul_one _))
          · rw [if_neg w]
            by_cases w2 : i < r
            · exact (zcg.rf.ml (x1 i w2)).tr (zcg.of (Int.mul_zero _))
            · exact ((ih (by omega) i (by omega) hi).ml zcg.rf).tr (zcg.of (Int.zero_mul _))
        rw [zsi_o (k := r) s h2 (fun i _ w => if_neg w), if_pos rfl] at k2
        exact k2.sy.tr k1
theorem zKer_u {p : Int} {s f : Nat} {M : Nat → Nat → Int} {P : Nat → Prop} (F : zFl p s s M P) (hf : ∀ r, r < s → r ≠ f → P r) {y z : Nat → Int} (hy : zKer p s M y) (hz : zKer p s M z) {r : Nat} (hr : r < s) : zcg p (z f * y r) (y f * z r) := by
  have hw : zKer p s M (fun r => z f * y r + -(y f) * z r) := fun q hq => by
    have e : zsi (fun r => (z f * y r + -(y f) * z r) * M r q) s = z f * zsi (fun r => y r * M r q) s + -(y f) * zsi (fun r => z r * M r q) s := by
      rw [← zsi_ml, ← zsi_ml, ← zsi_ad]
      exact zsi_congr s (fun r _ => by grind)
    rw [e]
    exact ((zcg.rf.ml (hy q hq)).ad (zcg.rf.ml (hz q hq))).tr (zcg.of (by omega))
  have := zKer_0 F hf hw (zcg.of (by grind)) s (Nat.le_refl s) r (by omega) hr
  obtain ⟨k, hk⟩ := this
  exact ⟨k, by grind⟩
theorem zct_all {P : Nat → Prop} : ∀ N, zct P N = N → ∀ r, r < N → P r := by
  intro N
  induction N with
  | zero => intro _ r h; exact absurd h (Nat.not_lt_zero r)
  | succ N ih =>
    intro h r hr
    have hl := zct_le (P := P) N
    by_cases e : P N
    · rw [zct_y e] at h
      by_cases w : r = N
      · rw [w]; exact e
      · exact ih (by omega) r (by omega)
    · rw [zct_n e] at h
      omega
theorem zct_one {P : Nat → Prop} : ∀ N, zct P N + 1 = N → ∃ f, f < N ∧ ¬ P f ∧ ∀ r, r < N → r ≠ f → P r := by
  intro N
  induction N with
  | zero => intro h; exact absurd h (by omega)
  | succ N ih =>
    intro h
    by_cases e : P N
    · rw [zct_y e] at h
      obtain ⟨f, h1, h2, h3⟩ := ih (by omega)
      refine ⟨f, by omega, h2, fun r hr hn => ?_⟩
      by_cases w : r = N
      · rw [w]; exact e
      · exact h3 r (by omega) hn
    · rw [zct_n e] at h
      exact ⟨N, by omega, e, fun r hr hn => zct_all N (by omega) r (by omega)⟩
/-! the class's relation -/
def zTk (p : Int) (D : Nat → Nat → Int) (w : Nat → Int) : Prop := ∀ q, q < 8 → zcg p (w q) (zsi (fun r => w (8 + r) * D r q) 8)
theorem zTk_lin {p x y : Int} {D : Nat → Nat → Int} {v b w : Nat → Int} (hv : zTk p D v) (hb : zTk p D b) (hw : ∀ q, zcg p (w q) (x * v q - y * b q)) : zTk p D w := fun q hq => by
  have e : zcg p (zsi (fun r => w (8 + r) * D r q) 8) (x * zsi (fun r => v (8 + r) * D r q) 8 + -y * zsi (fun r => b (8 + r) * D r q) 8) := by
    rw [← zsi_ml, ← zsi_ml, ← zsi_ad]
    refine zcg.si 8 (fun r _ => ((hw (8 + r)).ml zcg.rf).tr (zcg.of (by grind)))
  refine ((hw q).tr ((zcg.rf.ml (hv q hq)).sb (zcg.rf.ml (hb q hq)))).tr (((zcg.of ?_)).tr e.sy)
  grind
theorem zrd_tk {p : Int} {D B : Nat → Nat → Int} {L : Nat → Nat} {f : Nat} {v : Nat → Int} (hB : ∀ b, b < f → zTk p D (B b)) (hv : zTk p D v) : ∀ b, b ≤ f → zTk p D (zrd p B L b v) := by
  intro b
  induction b with
  | zero => intro _; exact hv
  | succ b ih =>
    intro hb
    by_cases e : zrd p B L b v (L b) = 0
    · rw [zrd_y e]
      exact ih (by omega)
    · exact zTk_lin (ih (by omega)) (hB b (by omega)) (fun q => by rw [zrd_n e]; exact zcg.md)
theorem zrd_u {p : Int} (hp : zPr p) {B : Nat → Nat → Int} {L : Nat → Nat} {f k : Nat} {v : Nat → Int} (hB : ∀ b, b < f → zcg p (B b k) 0) (hL : ∀ b, b < f → ¬ zcg p (B b (L b)) 0) : ∀ b, b ≤ f → ∃ u, ¬ zcg p u 0 ∧ zcg p (zrd p B L b v k) (u * v k) := by
  intro b
  induction b with
  | zero => intro _; exact ⟨1, zun_1 hp, zcg.of (Int.one_mul _).symm⟩
  | succ b ih =>
    intro hb
    obtain ⟨u, hu, h1⟩ := ih (by omega)
    by_cases e : zrd p B L b v (L b) = 0
    · rw [zrd_y e]
      exact ⟨u, hu, h1⟩
    · refine ⟨B b (L b) * u, zun_ml hp (hL b (by omega)) hu, ?_⟩
      rw [zrd_n e]
      refine (zcg.md.tr ((zcg.rf.ml h1).sb (zcg.rf.ml (hB b (by omega))))).tr (zcg.of ?_)
      grind
theorem zTs_K {p : Int} (hp : zPr p) {V D : Nat → Nat → Int} {π : Nat → Nat} {N : Nat} (hV : ∀ n q, 0 ≤ V n q ∧ V n q < p) (hT : ∀ i, i < N → zTk p D (V i)) (hu : ∀ i, i < N → ∀ r, r < 8 → V i (8 + r) = if r = π i then 1 else 0) (hπ : ∀ i, i < N → π i < 8) (hi : ∀ i j, i < N → j < N → π i = π j → i = j) : ∀ n, n ≤ N →
    (∀ b, b < (zTs p V n).1 → zTk p D ((zTs p V n).2.1 b) ∧ ∀ r, r < 8 → (∀ i, i < n → π i ≠ r) → zcg p ((zTs p V n).2.1 b (8 + r)) 0) ∧
    ((∃ i, i < n ∧ ¬ zTfl p V i) → (∃ r, r < 8 ∧ ¬ zcg p ((zTs p V n).2.2.2 r) 0) ∧ (∀ r, r < 8 → (∀ i, i < n → π i ≠ r) → zcg p ((zTs p V n).2.2.2 r) 0) ∧ ∀ q, q < 8 → zcg p (zsi (fun r => (zTs p V n).2.2.2 r * D r q) 8) 0) := by
  intro n
  induction n with
  | zero => exact fun _ => ⟨fun b h => absurd h (Nat.not_lt_zero b), fun ⟨i, h, _⟩ => absurd h (Nat.not_lt_zero i)⟩
  | succ n ih =>
    intro hn
    obtain ⟨iB, iR⟩ := ih (by omega)
    have G := (zTs_G hp hV n).1.1
    have hv := zrd_tk (L := (zTs p V n).2.2.1) (fun b hb => (iB b hb).1) (hT n (by omega)) (zTs p V n).1 (Nat.le_refl _)
    have hv0 : ∀ r, r < 8 → (∀ i, i < n → π i ≠ r) → ∃ u, ¬ zcg p u 0 ∧ zcg p (zrd p (zTs p V n).2.1 (zTs p V n).2.2.1 (zTs p V n).1 (V n) (8 + r)) (u * V n (8 + r)) := fun r hr h => zrd_u hp (fun b hb => (iB b hb).2 r hr h) (fun b hb => (G b hb).2.1) (zTs p V n).1 (Nat.le_refl _)
    have hv1 : ∀ r, r < 8 → (∀ i, i < n + 1 → π i ≠ r) → zcg p (zrd p (zTs p V n).2.1 (zTs p V n).2.2.1 (zTs p V n).1 (V n) (8 + r)) 0 := fun r hr h => by
      obtain ⟨u, _, h1⟩ := hv0 r hr (fun i hi => h i (by omega))
      rw [hu n (by omega) r hr, if_neg (fun q => h n (by omega) q.symm), Int.mul_zero] at h1
      exact h1
    by_cases w : zTfl p V n
    · rw [zTs_y w]
      refine ⟨fun b hb => ?_, fun ⟨i, h1, h2⟩ => ?_⟩
      · dsimp only at hb ⊢
        by_cases e : b = (zTs p V n).1
        · rw [e, zupB_s]
          exact ⟨hv, hv1⟩
        · rw [zupB_o e]
          have := iB b (by omega)
          exact ⟨this.1, fun r hr h => this.2 r hr (fun i hi => h i (by omega))⟩
      · have hin : i ≠ n := fun q => h2 (q ▸ w)
        obtain ⟨r1, r2, r3⟩ := iR ⟨i, by omega, h2⟩
        exact ⟨r1, fun r hr h => r2 r hr (fun i hi => h i (by omega)), r3⟩
    · rw [zTs_n w]
      refine ⟨fun b hb => ?_, fun _ => ⟨?_, hv1, fun q hq => ?_⟩⟩
      · have := iB b hb
        exact ⟨this.1, fun r hr h => this.2 r hr (fun i hi => h i (by omega))⟩
      · have hpn := hπ n (by omega)
        obtain ⟨u, h0, h1⟩ := hv0 (π n) hpn (fun i hin q => absurd (hi i n (by omega) (by omega) q) (by omega))
        rw [hu n (by omega) _ hpn, if_pos rfl, Int.mul_one] at h1
        exact ⟨π n, hpn, fun q => h0 (h1.sy.tr q)⟩
      · have h0 := zld_z 8 0 (by rw [Nat.zero_add]; exact w) q (Nat.zero_le q) (by omega)
        have := hv q hq
        rw [h0] at this
        exact this.sy
/-! the model's elimination -/
def zGI (p : Int) (s : Nat) (M : Nat → Nat → Int) (c d : Nat) (W T : Nat → Nat → Int) : Prop :=
  d ≤ s ∧ (∀ r, r < s → ∀ q, q < s → zcg p (W r q) (zsi (fun i => T r i * M i q) s)) ∧
  (∃ L : Nat → Nat, ∀ r, r < d → L r < s ∧ ¬ zcg p (W r (L r)) 0 ∧ ∀ r', r < r' → r' < s → zcg p (W r' (L r)) 0) ∧
  (∀ r, d ≤ r → r < s → ∀ q, q < c → zcg p (W r q) 0) ∧
  (∃ τ : Nat → Nat, ∀ r, d ≤ r → r < s → τ r < s ∧ zcg p (T r (τ r)) 1 ∧ ∀ r', r' < s → r' ≠ r → zcg p (T r' (τ r)) 0) ∧
  (∀ r q, 0 ≤ W r q ∧ W r q < p) ∧ (∀ r q, 0 ≤ T r q ∧ T r q < p)
def zswi (l d i : Nat) : Nat := if i = l then d else if i = d then l else i
theorem zexr_w {W : Nat → Nat → Int} {l d i : Nat} : zexr W l d i = W (zswi l d i) := by
  unfold zexr zswi
  split
  · rfl
  · split <;> rfl
theorem zGI_ex {p : Int} {s c d l : Nat} {M W T : Nat → Nat → Int} (G : zGI p s M c d W T) (h1 : d ≤ l) (h2 : l < s) : zGI p s M c d (zexr W l d) (zexr T l d) := by
  obtain ⟨g0, g1, ⟨L, g2⟩, g3, ⟨τ, g4⟩, g5, g6⟩ := G
  have hs : ∀ i, i < s → zswi l d i < s := fun i hi => by unfold zswi; split; omega; split <;> omega
  have hd : ∀ i, d ≤ i → d ≤ zswi l d i := fun i hi => by unfold zswi; split; omega; split <;> omega
  have hlt : ∀ i, i < d → zswi l d i = i := fun i hi => by unfold zswi; rw [if_neg (by omega), if_neg (by omega)]
  have hin : ∀ i j, zswi l d i = zswi l d j → i = j := fun i j h => by
    unfold zswi at h
    split at h <;> split at h <;> (try split at h) <;> (try split at h) <;> omega
  refine ⟨g0, fun r hr q hq => ?_, ⟨L, fun r hr => ?_⟩, fun r hr hrs q hq => ?_, ⟨fun r => τ (zswi l d r), fun r hr hrs => ?_⟩, fun r q => ?_, fun r q => ?_⟩
  · rw [zexr_w, zexr_w]
    exact g1 _ (hs r hr) q hq
  · obtain ⟨a1, a2, a3⟩ := g2 r hr
    rw [zexr_w, hlt r hr]
    refine ⟨a1, a2, fun r' h3 h4 => ?_⟩
    rw [zexr_w]
    by_cases w : r' < d
    · rw [hlt r' w]; exact a3 r' h3 h4
    · exact a3 _ (by have := hd r' (by omega); omega) (hs r' h4)
  · rw [zexr_w]
    exact g3 _ (hd r hr) (hs r hrs) q hq
  · obtain ⟨a1, a2, a3⟩ := g4 _ (hd r hr) (hs r hrs)
    refine ⟨a1, by rw [zexr_w]; exact a2, fun r' hr' hn => ?_⟩
    rw [zexr_w]
    exact a3 _ (hs r' hr') (fun q => hn (hin _ _ q))
  · rw [zexr_w]; exact g5 _ _
  · rw [zexr_w]; exact g6 _ _
theorem zcl_y {p : Int} {tm : Nat → Int} {W : Nat → Nat → Int} {d r q : Nat} (h : d < r) : zcl p tm W d r q = (W r q - tm r * W d q) % p := if_pos h
theorem zcl_n {p : Int} {tm : Nat → Int} {W : Nat → Nat → Int} {d r q : Nat} (h : ¬ d < r) : zcl p tm W d r q = W r q := if_neg h
theorem zGI_cl {p : Int} (hp : zPr p) {s c d : Nat} {M W T : Nat → Nat → Int} (G : zGI p s M c d W T) (hd : d < s) (hc : c < s) (hw : W d c ≠ 0) : zGI p s M (c + 1) (d + 1) (zcl p (ztm p W d c) W d) (zcl p (ztm p W d c) T d) := by
  have h5 := zPr_p hp
  obtain ⟨g0, g1, ⟨L, g2⟩, g3, ⟨τ, g4⟩, g5, g6⟩ := G
  have hr' := g5 d c
  have hinv := zcg.md.sy.tr (zcg.of (zinv_ok hp (a := W d c) (by omega) hr'.2))
  have hW : ∀ r q, d < r → zcg p (zcl p (ztm p W d c) W d r q) (W r q - ztm p W d c r * W d q) := fun r q h => by rw [zcl_y h]; exact zcg.md
  have hT : ∀ r q, d < r → zcg p (zcl p (ztm p W d c) T d r q) (T r q - ztm p W d c r * T d q) := fun r q h => by rw [zcl_y h]; exact zcg.md
  have hcc : ∀ r, d < r → zcg p (zcl p (ztm p W d c) W d r c) 0 := fun r h => by
    refine (hW r c h).tr ?_
    have : zcg p (ztm p W d c r * W d c) (W r c) := by
      refine ((show zcg p (ztm p W d c r) (W r c * zinv (W d c) p) from zcg.md).ml zcg.rf).tr ?_
      refine (zcg.of (show W r c * zinv (W d c) p * W d c = W r c * (W d c * zinv (W d c) p) by grind)).tr ((zcg.rf.ml hinv).tr (zcg.of (Int.mul_one _)))
    exact (zcg.rf.sb this).tr (zcg.of (Int.sub_self _))
  have h00 : ∀ (a b m : Int), zcg p a 0 → zcg p b 0 → zcg p (a - m * b) 0 := fun a b m ha hb => (ha.sb (zcg.rf.ml hb)).tr (zcg.of (by rw [Int.mul_zero]; rfl))
  refine ⟨by omega, fun r hr q hq => ?_, ⟨fun r => if r = d then c else L r, fun r hr => ?_⟩, fun r hr hrs q hq => ?_, ⟨τ, fun r hr hrs => ?_⟩, fun r q => ?_, fun r q => ?_⟩
  · by_cases w : d < r
    · refine (hW r q w).tr (((g1 r hr q hq).sb (zcg.rf.ml (g1 d hd q hq))).tr ?_)
      have e : zsi (fun i => T r i * M i q) s - ztm p W d c r * zsi (fun i => T d i * M i q) s = zsi (fun i => (T r i - ztm p W d c r * T d i) * M i q) s := by
        have : zsi (fun i => (T r i - ztm p W d c r * T d i) * M i q) s = zsi (fun i => T r i * M i q + -(ztm p W d c r) * (T d i * M i q)) s := zsi_congr s (fun i _ => by grind)
        rw [this, zsi_ad, zsi_ml]
        grind
      rw [e]
      exact zcg.si s (fun i _ => (hT r i w).sy.ml zcg.rf)
    · have e1 : ∀ i, zcl p (ztm p W d c) T d r i = T r i := fun i => zcl_n w
      rw [zcl_n w]
      refine (g1 r hr q hq).tr (zcg.of (zsi_congr s (fun i _ => ?_)))
      rw [e1]
  · dsimp only
    by_cases w : r = d
    · rw [if_pos w, w]
      refine ⟨hc, by rw [zcl_n (Nat.lt_irrefl d)]; exact zcg_n0 (by omega) hr'.2, fun r' h1 _ => hcc r' h1⟩
    · rw [if_neg w]
      obtain ⟨a1, a2, a3⟩ := g2 r (by omega)
      refine ⟨a1, by rw [zcl_n (by omega)]; exact a2, fun r' h1 h2 => ?_⟩
      by_cases w2 : d < r'
      · exact (hW r' _ w2).tr (h00 _ _ _ (a3 r' h1 h2) (a3 d (by omega) hd))
      · rw [zcl_n w2]; exact a3 r' h1 h2
  · by_cases w : q = c
    · rw [w]; exact hcc r (by omega)
    · exact (hW r q (by omega)).tr (h00 _ _ _ (g3 r (by omega) hrs q (by omega)) (g3 d (Nat.le_refl d) hd q (by omega)))
  · obtain ⟨a1, a2, a3⟩ := g4 r (by omega) hrs
    refine ⟨a1, ?_, fun r' hr' hn => ?_⟩
    · exact (hT r _ (by omega)).tr ((a2.sb (zcg.rf.ml (a3 d hd (by omega)))).tr (zcg.of (by rw [Int.mul_zero]; rfl)))
    · by_cases w : d < r'
      · exact (hT r' _ w).tr (h00 _ _ _ (a3 r' hr' hn) (a3 d hd (by omega)))
      · rw [zcl_n w]; exact a3 r' hr' hn
  · by_cases w : d < r
    · rw [zcl_y w]; exact z_mod (by omega) _
    · rw [zcl_n w]; exact g5 r q
  · by_cases w : d < r
    · rw [zcl_y w]; exact z_mod (by omega) _
    · rw [zcl_n w]; exact g6 r q
theorem zld_ge (v : Nat → Int) : ∀ n k, k ≤ zld v n k := by
  intro n
  induction n with
  | zero => intro k; exact Nat.le_refl _
  | succ n ih =>
    intro k
    show k ≤ if v k ≠ 0 then k else zld v n (k + 1)
    split
    · exact Nat.le_refl _
    · exact Nat.le_trans (Nat.le_succ k) (ih (k + 1))
theorem zGe_I {p : Int} (hp : zPr p) {s : Nat} {M : Nat → Nat → Int} (hM : ∀ r q, 0 ≤ M r q ∧ M r q < p) : ∀ c, c ≤ s → zGI p s M c (zGe p s M c).1 (zGe p s M c).2.1 (zGe p s M c).2.2 := by
  have h5 := zPr_p hp
  intro c
  induction c with
  | zero =>
    intro _
    refine ⟨Nat.zero_le s, fun r hr q hq => ?_, ⟨fun _ => 0, fun r h => absurd h (Nat.not_lt_zero r)⟩, fun r _ _ q h => absurd h (Nat.not_lt_zero q), ⟨fun r => r, fun r _ hr => ⟨hr, zcg.of (if_pos rfl), fun r' _ hn => zcg.of (if_neg hn)⟩⟩, hM, fun r q => ?_⟩
    · refine zcg.of ?_
      show M r q = zsi (fun i => (if r = i then (1 : Int) else 0) * M i q) s
      rw [zsi_o (k := r) s hr (fun i _ e => by show (if r = i then (1 : Int) else 0) * M i q = 0; rw [if_neg (fun w => e w.symm), Int.zero_mul]), if_pos rfl, Int.one_mul]
    · show 0 ≤ (if r = q then (1 : Int) else 0) ∧ (if r = q then (1 : Int) else 0) < p
      split <;> omega
  | succ c ih =>
    intro hc
    have G := ih (by omega)
    generalize hl : zld (fun r => (zGe p s M c).2.1 r c) (s - (zGe p s M c).1) (zGe p s M c).1 = l
    have hds := G.1
    by_cases w : l < s
    · have hle : (zGe p s M c).1 ≤ l := by
        rw [← hl]
        exact zld_ge _ _ _
      have hne := zld_in (fun r => (zGe p s M c).2.1 r c) (s - (zGe p s M c).1) (zGe p s M c).1 (by rw [hl]; omega)
      rw [hl] at hne
      have G1 := zGI_ex G hle w
      have hx : zexr (zGe p s M c).2.1 l (zGe p s M c).1 (zGe p s M c).1 c ≠ 0 := by
        rw [zexr_w]
        unfold zswi
        by_cases e : (zGe p s M c).1 = l
        · rw [if_pos e]
          rw [← e] at hne
          exact hne
        · rw [if_neg e, if_pos rfl]
          exact hne
      rw [zGe_y hl w]
      exact zGI_cl hp G1 (by omega) (by omega) hx
    · rw [zGe_n hl w]
      obtain ⟨g0, g1, g2, g3, g4, g5, g6⟩ := G
      refine ⟨g0, g1, g2, fun r hr hrs q hq => ?_, g4, g5, g6⟩
      by_cases e : q = c
      · rw [e]
        exact zcg.of (zld_z (v := fun r => (zGe p s M c).2.1 r c) (s - (zGe p s M c).1) (zGe p s M c).1 (by rw [hl]; omega) r hr (by omega))
      · exact g3 r hr hrs q (by omega)
theorem zcanc {p : Int} (hp : zPr p) {a x y : Int} (ha : ¬ zcg p a 0) (h : zcg p (a * x) (a * y)) : zcg p x y := by
  obtain ⟨u, k, hu⟩ := zun hp ha
  obtain ⟨m, hm⟩ := h
  exact ⟨u * m - k * x + k * y, by grind⟩
theorem zrat_u {p : Int} (hp : zPr p) {y z : Nat → Int} {f n : Nat} (hy : ∀ r, 0 ≤ y r ∧ y r < p) (hz : ∀ r, 0 ≤ z r ∧ z r < p) (hyf : ¬ zcg p (y f) 0) (hzf : ¬ zcg p (z f) 0) (h0 : zcg p (z f * y 0) (y f * z 0)) (hn : zcg p (z f * y n) (y f * z n)) : zrat p y n = zrat p z n := by
  have h5 := zPr_p hp
  unfold zrat
  by_cases e : y 0 = 0
  · have h1 : zcg p (z 0) 0 := zcanc hp hyf (h0.sy.tr (zcg.of (show z f * y 0 = y f * 0 by rw [e, Int.mul_zero, Int.mul_zero])))
    have e2 : z 0 = 0 := h1.inj (hz 0) ⟨by omega, by omega⟩
    rw [if_pos e, if_pos e2]
  · have e2 : z 0 ≠ 0 := fun q => e ((zcanc hp hzf (h0.tr (zcg.of (show y f * z 0 = z f * 0 by rw [q, Int.mul_zero, Int.mul_zero])))).inj (hy 0) ⟨by omega, by omega⟩)
    rw [if_neg e, if_neg e2]
    have r1 := hy 0
    have r2 := hz 0
    have i1 := zcg.md.sy.tr (zcg.of (zinv_ok hp (a := y 0) (by omega) r1.2))
    have i2 := zcg.md.sy.tr (zcg.of (zinv_ok hp (a := z 0) (by omega) r2.2))
    refine zcg.em (zcanc hp (zun_ml hp hzf (zcg_n0 (p := p) (a := y 0) (by omega) r1.2)) ?_)
    have s1 : zcg p (z f * y 0 * (y n * zinv (y 0) p)) (z f * y n) := (zcg.of (show z f * y 0 * (y n * zinv (y 0) p) = z f * y n * (y 0 * zinv (y 0) p) by grind)).tr ((zcg.rf.ml i1).tr (zcg.of (Int.mul_one _)))
    have s2 : zcg p (z f * y 0 * (z n * zinv (z 0) p)) (y f * z n) := (h0.ml zcg.rf).tr ((zcg.of (show y f * z 0 * (z n * zinv (z 0) p) = y f * z n * (z 0 * zinv (z 0) p) by grind)).tr ((zcg.rf.ml i2).tr (zcg.of (Int.mul_one _))))
    exact s1.tr (hn.tr s2.sy)
section
variable {p : Int} {c : Nat → Nat → Int}
theorem zRw_u {t : Int} {i r : Nat} (hr : r < 8) : zRw p c t i (8 + r) = if r = i then 1 else 0 := by
  have := zsd_le c
  unfold zRw
  by_cases e : r = i
  · rw [if_pos (by omega), if_pos e]
  · rw [if_neg (by omega), if_neg (by omega), if_neg e]
theorem zRw_tk {t : Int} {i : Nat} (hi : i < 8) : zTk p (zRw p c t) (zRw p c t i) := fun q hq => by
  refine zcg.of ?_
  rw [zsi_o (f := fun r => zRw p c t i (8 + r) * zRw p c t r q) (k := i) 8 hi (fun r hr e => by show zRw p c t i (8 + r) * zRw p c t r q = 0; rw [zRw_u hr, if_neg e, Int.zero_mul])]
  rw [zRw_u hi, if_pos rfl, Int.one_mul]
theorem zpi_in {s : Nat} (i j : Nat) (hi : i < s) (hj : j < s) (h : zpi s i = zpi s j) : i = j := by
  unfold zpi at h
  split at h <;> split at h <;> omega
theorem zrel_K (hp : zPr p) (hz : zsd c ≠ 0) {t : Nat} (hr : zsd c = zrk p c t + 1) : (∃ r, r < zsd c ∧ ¬ zcg p (zrel p c t r) 0) ∧ zKer p (zsd c) (zRV p (zEn p c) t) (zrel p c t) := by
  have h5 := zPr_p hp
  have h8 := zsd_le c
  have hlt := zpi_lt (s := zsd c) (by omega)
  have hct : zct (zTfl p (zVx p c t)) (zsd c) + 1 = zsd c := by
    rw [← zTs_ct]
    exact hr.symm
  obtain ⟨f, f1, f2, -⟩ := zct_one _ hct
  have K := (zTs_K hp (V := zVx p c t) (D := zRw p c t) (π := zpi (zsd c)) (N := zsd c) (fun n q => zRw_in (by omega) _ q) (fun i hi => zRw_tk (by have := hlt i hi; show zpi (zsd c) i < 8; omega)) (fun i hi r hr => zRw_u hr) (fun i hi => by have := hlt i hi; omega) (fun i j hi hj h => zpi_in i j hi hj h) (zsd c) (Nat.le_refl _)).2 ⟨f, f1, f2⟩
  obtain ⟨⟨r0, h1, h2⟩, h3, h4⟩ := K
  have h6 : ∀ r, zsd c ≤ r → r < 8 → zcg p (zrel p c t r) 0 := fun r a b => h3 r b (fun i hi e => by have := hlt i hi; omega)
  refine ⟨⟨r0, Classical.byContradiction (fun q => h2 (h6 r0 (by omega) h1)), h2⟩, fun q hq => ?_⟩
  have e := zsi_outc (p := p) (f := fun r => zrel p c t r * zRw p c t r q) (n := zsd c) 8 h8 (fun r a b => ((h6 r a b).ml zcg.rf).tr (zcg.of (Int.zero_mul _)))
  refine (zcg.of (zsi_congr (zsd c) (fun r hr => ?_))).tr (e.sy.tr (h4 q (by omega)))
  rw [zRw_v hq]
/-- the relation of the rows is one but for a factor -/
theorem zmre_rat {t : Int} {n : Nat} (hs : zSt p c) (hz : zsd c ≠ 0) (ht : 0 ≤ t ∧ t < p) (hr : zsd c = zrk p c t.toNat + 1) (hn : n < zsd c) : zrat p (zmre p (zsd c) (zEn p c) t) n = zrat p (zrel p c t.toNat) n := by
  have hp : zPr p := hs.1
  have h5 := zPr_p hp
  have h8 := zsd_le c
  obtain ⟨tn, rfl⟩ : ∃ tn : Nat, t = tn := ⟨t.toNat, by omega⟩
  rw [Int.toNat_natCast] at hr ⊢
  obtain ⟨⟨r0, a1, a2⟩, a3⟩ := zrel_K hp hz hr
  have F := zF_row (c := c) hp (tn : Int)
  have hco := zrk_col hp hz tn
  have hct : zct (zTfl p (zRw p c tn)) (zsd c) + 1 = zsd c := by
    rw [(zrow_col hp (tn : Int)).1, ← hco]
    exact hr.symm
  obtain ⟨f, f1, f2, f3⟩ := zct_one _ hct
  obtain ⟨g0, g1, ⟨L, g2⟩, g3, ⟨τ, g4⟩, g5, g6⟩ := zGe_I hp (s := zsd c) (M := zRV p (zEn p c) tn) (fun r q => zhor_in (by omega) _ _) (zsd c) (Nat.le_refl _)
  unfold zmre
  generalize (zGe p (zsd c) (zRV p (zEn p c) tn) (zsd c)).2.2 = T at g1 g4 g6 ⊢
  generalize (zGe p (zsd c) (zRV p (zEn p c) tn) (zsd c)).2.1 = W at g1 g2 g3 g5
  generalize (zGe p (zsd c) (zRV p (zEn p c) tn) (zsd c)).1 = d at g0 g2 g3 g4
  have hd : d ≠ zsd c := fun hd => by
    subst hd
    have r := zRnk hp (s := zsd c) (k := zsd c) (m := zct (zTfl p (zCl p c tn)) (zsd c)) (M := W) (ρ := fun j => j) (γ := zms (zTfl p (zCl p c tn)) (zsd c)) (Nat.le_trans (zct_le _) h8) (fun j hj => by
      obtain ⟨x, x1, x2⟩ := zdual hp (s := zsd c) (f := j) (l := L j) (B := W) (L := L) (v := W j) (fun b hb => ⟨(g2 b (by omega)).1, (g2 b (by omega)).2.1, fun a ha => (g2 a (by omega)).2.2 b ha (by omega)⟩) (fun b hb => (g2 b (by omega)).2.2 j hb hj) (g2 j hj).1 (g2 j hj).2.1 j (Nat.le_refl j)
      exact ⟨x, fun i hi => x1 i (by omega) hi, x2⟩) (fun q hq => by
      obtain ⟨a, ha⟩ := zsel_sp (zF_col (c := c) hp (tn : Int)) q hq
      refine ⟨a, fun j hj => ?_⟩
      refine (g1 j hj q hq).tr ((zcg.si (zsd c) (fun i hi => zcg.rf.ml (ha i hi))).tr ?_)
      refine (zcg.of ?_).tr (zcg.si _ (fun k hk => zcg.rf.ml (g1 j hj (zms (zTfl p (zCl p c tn)) (zsd c) k) (zms_lt _ k hk).1).sy))
      have e1 : zsi (fun i => T j i * zsi (fun k => a k * zCV p (zEn p c) tn (zms (zTfl p (zCl p c tn)) (zsd c) k) i) (zct (zTfl p (zCl p c tn)) (zsd c))) (zsd c) = zsi (fun i => zsi (fun k => a k * (T j i * zRV p (zEn p c) tn i (zms (zTfl p (zCl p c tn)) (zsd c) k))) (zct (zTfl p (zCl p c tn)) (zsd c))) (zsd c) := by
        refine zsi_congr _ (fun i _ => ?_)
        rw [← zsi_ml]
        exact zsi_congr _ (fun k _ => Int.mul_left_comm _ _ _)
      refine e1.trans ?_
      rw [zsi_sw]
      exact zsi_congr _ (fun k _ => zsi_ml _))
    have := r.1
    omega
  have hy : zKer p (zsd c) (zRV p (zEn p c) tn) (T (zsd c - 1)) := fun q hq => (g1 (zsd c - 1) (by omega) q hq).sy.tr (g3 (zsd c - 1) (by omega) (by omega) q hq)
  obtain ⟨t1, t2, -⟩ := g4 (zsd c - 1) (by omega) (by omega)
  have hyf : ¬ zcg p (T (zsd c - 1) f) 0 := fun h => zun_1 hp (t2.sy.tr (zKer_0 F f3 hy h (zsd c) (Nat.le_refl _) _ (by omega) t1))
  have hzf : ¬ zcg p (zrel p c tn f) 0 := fun h => a2 (zKer_0 F f3 a3 h (zsd c) (Nat.le_refl _) r0 (by omega) a1)
  exact zrat_u hp (fun r => g6 _ r) (fun r => zTs_R (by omega) (fun n q => zRw_in (by omega) _ q) _ r) hyf hzf (zKer_u F f3 hy a3 (by omega)) (zKer_u F f3 hy a3 hn)
end
