/-! ===== the eliminant at the pivot point is the minor of the selected rows and columns ===== -/
theorem zpw_add (t : Int) (a b : Nat) : t ^ (a + b) = t ^ a * t ^ b := by
  induction b with
  | zero => rw [Nat.add_zero, Int.pow_zero, Int.mul_one]
  | succ b ih => rw [← Nat.add_assoc, Int.pow_succ, Int.pow_succ, ih, Int.mul_assoc]
theorem zsi_hd {g : Nat → Int} : ∀ n, zsi g (n + 1) = g 0 + zsi (fun e => g (e + 1)) n := by
  intro n
  induction n with
  | zero => show 0 + g 0 = g 0 + 0; omega
  | succ n ih =>
    show zsi g (n + 1) + g (n + 1) = g 0 + (zsi (fun e => g (e + 1)) n + g (n + 1))
    rw [ih]
    omega
theorem zhev {p t : Int} : ∀ (N : Nat) (f : Nat → Int), zcg p (zhor t p N f) (zsi (fun e => f e * t ^ e) N) := by
  intro N
  induction N with
  | zero => intro f; exact zcg.rf
  | succ N ih =>
    intro f
    refine (zcg.md.tr (((ih (fun e => f (e + 1))).ml zcg.rf).ad zcg.rf)).tr (zcg.of ?_)
    rw [zsi_hd, Int.pow_zero, Int.mul_one, Int.mul_comm, ← zsi_ml, Int.add_comm]
    congr 1
    exact zsi_congr N (fun e _ => by rw [Int.pow_succ]; grind)
theorem zsi_sh {h : Nat → Int} {a N : Nat} : ∀ G, a + G ≤ N → zsi (fun i => if a ≤ i ∧ i - a < G then h (i - a) else 0) N = zsi h G := by
  intro G
  induction G with
  | zero => intro _; exact zsi_z N (fun i _ => if_neg (by omega))
  | succ G ih =>
    intro hG
    show _ = zsi h G + h G
    rw [← ih (by omega), ← show zsi (fun i => if i = a + G then h G else 0) N = h G from by
      rw [zsi_o (k := a + G) N (by omega) (fun i _ e => if_neg e), if_pos rfl], ← zsi_ad]
    refine zsi_congr N (fun i hi => ?_)
    by_cases e : i = a + G
    · rw [if_pos (by omega), if_neg (by omega), if_pos e, show i - a = G by omega, Int.zero_add]
    · rw [if_neg e, Int.add_zero]
      by_cases w : a ≤ i ∧ i - a < G
      · rw [if_pos w, if_pos (by omega)]
      · rw [if_neg w, if_neg (by omega)]
theorem zcv_ev {σ t : Int} {f g : Nat → Int} {F G N : Nat} (hN : F + G ≤ N + 1) : zsi (fun i => zcv σ f g F G i * t ^ i) N = σ * zsi (fun a => f a * t ^ a) F * zsi (fun b => g b * t ^ b) G := by
  have e1 : zsi (fun i => zcv σ f g F G i * t ^ i) N = zsi (fun i => zsi (fun a => (σ * (f a * t ^ a)) * (if a ≤ i ∧ i - a < G then (fun b => g b * t ^ b) (i - a) else 0)) F) N := by
    refine zsi_congr N (fun i hi => ?_)
    unfold zcv
    rw [Int.mul_comm, ← zsi_ml]
    refine zsi_congr F (fun a ha => ?_)
    by_cases w : a ≤ i ∧ i - a < G
    · rw [if_pos w, if_pos w]
      have : t ^ i = t ^ a * t ^ (i - a) := by rw [← zpw_add]; congr 1; omega
      rw [this]
      grind
    · rw [if_neg w, if_neg w, Int.mul_zero, Int.mul_zero]
  rw [e1, zsi_sw]
  have e2 : ∀ a, a < F → zsi (fun i => (σ * (f a * t ^ a)) * (if a ≤ i ∧ i - a < G then (fun b => g b * t ^ b) (i - a) else 0)) N = zsi (fun b => g b * t ^ b) G * (σ * (f a * t ^ a)) := fun a ha => by
    rw [zsi_ml]
    exact (congrArg (fun z => σ * (f a * t ^ a) * z) (zsi_sh (h := fun b => g b * t ^ b) (a := a) (N := N) G (by omega))).trans (Int.mul_comm _ _)
  rw [zsi_congr F e2, zsi_ml, zsi_ml, Int.mul_comm]
theorem zmn_ev {p t : Int} {E : Nat → Nat → Int} {R C : Nat → Nat} {m : Nat} (hm : m ≤ 8) : ∀ k s, s < 256 → s < 2 ^ m → zb8 s = k → zcg p (zsi (fun e => zmn p E R C k s e * t ^ e) (6 * k + 1)) (zwe (fun j c => if c < m then zhor t p 7 (E (8 * R j + C c)) else 0) k s) := by
  intro k
  induction k with
  | zero =>
    intro s hs hs2 hb
    have e : s = 0 := Classical.byContradiction (fun q => by have := zb8_pos s hs q; omega)
    subst e
    refine zcg.of ?_
    show (0 : Int) + 1 * t ^ 0 = if 0 = 0 then 1 else 0
    rw [Int.pow_zero, if_pos rfl]
    rfl
  | succ k ih =>
    intro s hs hs2 hb
    have e1 : zcg p (zsi (fun e => zmn p E R C (k + 1) s e * t ^ e) (6 * (k + 1) + 1)) (zsi (fun e => zsi (fun c => zx1 E (R k) C (zmn p E R C k) s e c * t ^ e) 8) (6 * (k + 1) + 1)) := by
      refine zcg.si _ (fun e _ => ?_)
      refine ((show zcg p (zmn p E R C (k + 1) s e) (zsi (zx1 E (R k) C (zmn p E R C k) s e) 8) from zcg.md).ml zcg.rf).tr (zcg.of ?_)
      rw [Int.mul_comm, ← zsi_ml]
      exact zsi_congr 8 (fun c _ => Int.mul_comm _ _)
    refine e1.tr ?_
    rw [zsi_sw]
    refine zcg.si 8 (fun c hc => ?_)
    by_cases b : s / 2 ^ c % 2 = 1
    · have hx := zb8_x s hs c hc b
      have hcm := zb8_c m (by omega) s hs hs2 c hc b
      rw [if_pos b]
      dsimp only
      rw [if_pos hcm]
      have hk : zb8 (s ^^^ 2 ^ c) = k := by omega
      have e2 : zsi (fun e => zx1 E (R k) C (zmn p E R C k) s e c * t ^ e) (6 * (k + 1) + 1) = zsgn s c * zsi (fun a => E (8 * R k + C c) a * t ^ a) 7 * zsi (fun b => zmn p E R C k (s ^^^ 2 ^ c) b * t ^ b) (6 * k + 1) := by
        rw [← zcv_ev (N := 6 * (k + 1) + 1) (by omega)]
        refine zsi_congr _ (fun e _ => ?_)
        unfold zx1
        rw [if_pos b, hk]
      rw [e2]
      exact (zcg.rf.ml (zhev 7 (E (8 * R k + C c))).sy).ml (ih _ (by omega) (by omega) hk)
    · rw [if_neg b]
      refine zcg.of (zsi_z _ (fun e _ => ?_))
      unfold zx1
      rw [if_neg b, Int.zero_mul]
theorem ztop_z {f : Nat → Int} : ∀ n, f (ztop f n) = 0 → ∀ e, e < n → f e = 0 := by
  intro n
  induction n with
  | zero => intro _ e h; exact absurd h (Nat.not_lt_zero e)
  | succ n ih =>
    intro h e he
    unfold ztop at h
    by_cases w : n = 0
    · rw [if_pos w] at h
      rw [show e = 0 by omega]
      exact h
    · rw [if_neg w] at h
      by_cases w2 : f n = 0
      · rw [if_pos w2] at h
        by_cases w3 : e = n
        · rw [w3]; exact w2
        · exact ih h e (by omega)
      · rw [if_neg w2] at h
        exact absurd h w2
/-- the eliminant is not 0 -/
theorem znz_Wp {p : Int} {c : Nat → Nat → Int} (hs : zSt p c) (hz : zsd c ≠ 0) : znz p (zWp p c) := by
  have hp : zPr p := hs.1
  have h5 := zPr_p hp
  refine ⟨fun e _ => zWp_in (by omega) e, fun h => ?_⟩
  have h0 := ztop_z 49 h
  have ho := (zRowO_eq hp hz).2
  have h8 := zRowO_lt (p := p) (c := c)
  have hf := zb8_f (zRowO p c) (by omega)
  refine (zrow_col (c := c) hp (zpP p c : Int)).2 ?_
  rw [← ho]
  have ev := zmn_ev (p := p) (t := (zpP p c : Int)) (E := zEn p c) (R := zms (zTfl p (zRw p c (zpP p c))) (zsd c)) (C := zms (zTfl p (zCl p c (zpP p c))) (zsd c)) (m := zRowO p c) h8 (zRowO p c) (2 ^ zRowO p c - 1) (by omega) (by omega) hf.1
  refine ev.sy.tr (zcg.of (zsi_z _ (fun e he => ?_)))
  have := h0 e (by omega)
  unfold zWp zwh at this
  rw [if_pos he] at this
  unfold zMi at this
  rw [hf.1] at this
  rw [this, Int.zero_mul]
