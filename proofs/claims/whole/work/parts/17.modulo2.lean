
def ztop (f : Nat → Int) : Nat → Nat
  | 0 => 0
  | n + 1 => if n = 0 then 0 else if f n = 0 then ztop f n else n
/-- sums of whole numbers -/
def zsi (f : Nat → Int) : Nat → Int
  | 0 => 0
  | n + 1 => zsi f n + f n
theorem zsi_congr {f g : Nat → Int} : ∀ n, (∀ i, i < n → f i = g i) → zsi f n = zsi g n := by
  intro n
  induction n with
  | zero => intro _; rfl
  | succ n ih =>
    intro h
    show zsi f n + f n = zsi g n + g n
    rw [ih (fun i hi => h i (by omega)), h n (by omega)]
/-- what f * g (the factor s first) has at i -/
def zcv (s : Int) (f g : Nat → Int) (F G i : Nat) : Int := zsi (fun a => if a ≤ i ∧ i - a < G then s * f a * g (i - a) else 0) F
/-- f divided by t - c, from the top -/
def zdv (c p : Int) (N : Nat) (f : Nat → Int) : Nat → Int := fun e => if e < N then zhor c p (N - 1 - e) (fun j => f (j + e + 1)) else f e
def zstr (c p : Int) (N : Nat) : Nat → (Nat → Int) → Nat × (Nat → Int)
  | 0, f => (0, f)
  | k + 1, f => if zhor c p N f = 0 then ((zstr c p N k (zdv c p N f)).1 + 1, (zstr c p N k (zdv c p N f)).2) else (0, f)
theorem zstr_s {c p : Int} {N k : Nat} {f : Nat → Int} (h : zhor c p N f = 0) : zstr c p N (k + 1) f = ((zstr c p N k (zdv c p N f)).1 + 1, (zstr c p N k (zdv c p N f)).2) := by
  show (if zhor c p N f = 0 then _ else _) = _
  rw [if_pos h]
theorem zstr_n {c p : Int} {N k : Nat} {f : Nat → Int} (h : zhor c p N f ≠ 0) : zstr c p N (k + 1) f = (0, f) := by
  show (if zhor c p N f = 0 then _ else _) = _
  rw [if_neg h]
theorem zdv_in {c p : Int} (hp : 0 < p) {N : Nat} {f : Nat → Int} : ∀ e, e < N → 0 ≤ zdv c p N f e ∧ zdv c p N f e < p := by
  intro e he
  unfold zdv
  rw [if_pos he]
  exact zhor_in hp _ _
theorem zstr_in {c p : Int} (hp : 0 < p) {N : Nat} : ∀ (k : Nat) (f : Nat → Int), (∀ e, e < N → 0 ≤ f e ∧ f e < p) → ∀ e, e < N → 0 ≤ (zstr c p N k f).2 e ∧ (zstr c p N k f).2 e < p := by
  intro k
  induction k with
  | zero => intro f hf; exact hf
  | succ k ih =>
    intro f hf
    unfold zstr
    split
    · exact ih _ (zdv_in hp)
    · exact hf
theorem zdv_congr {c p : Int} {N : Nat} {f g : Nat → Int} (h : ∀ e, e < N → f e = g e) : ∀ e, e < N → zdv c p N f e = zdv c p N g e := by
  intro e he
  unfold zdv
  rw [if_pos he, if_pos he]
  exact zhor_congr _ _ _ (fun j hj => h _ (by omega))
theorem zstr_congr {c p : Int} {N : Nat} : ∀ (k : Nat) (f g : Nat → Int), (∀ e, e < N → f e = g e) → (zstr c p N k f).1 = (zstr c p N k g).1 ∧ ∀ e, e < N → (zstr c p N k f).2 e = (zstr c p N k g).2 e := by
  intro k
  induction k with
  | zero => intro f g h; exact ⟨rfl, h⟩
  | succ k ih =>
    intro f g h
    unfold zstr
    rw [zhor_congr N f g h]
    split
    · have := ih _ _ (zdv_congr (c := c) (p := p) h)
      exact ⟨by rw [this.1], this.2⟩
    · exact ⟨rfl, h⟩
theorem zfl_fl {h : zH} {a n : Nat} {F G : Nat → Int} : zfl (zfl h a n F) a n G = zfl h a n G := by
  funext b j
  unfold zfl
  by_cases e : b = a ∧ j < n
  · rw [if_pos e, if_pos e]
  · rw [if_neg e, if_neg e, if_neg e]
theorem zfl_congr {h : zH} {a n : Nat} {F G : Nat → Int} (e : ∀ j, j < n → F j = G j) : zfl h a n F = zfl h a n G := by
  funext b j
  unfold zfl
  by_cases q : b = a ∧ j < n
  · rw [if_pos q, if_pos q, e j q.2]
  · rw [if_neg q, if_neg q]
theorem zfl_id {h : zH} {a n : Nat} {F : Nat → Int} (e : ∀ j, j < n → F j = h a j) : zfl h a n F = h := by
  funext b j
  unfold zfl
  by_cases q : b = a ∧ j < n
  · rw [if_pos q, e j q.2, q.1]
  · rw [if_neg q]

theorem zSH_s1 {a N k : Nat} (h : zIs zN a (k, N)) : N < 100000 := by
  have h2 : ∀ q ∈ zSHL, q.2 < 100000 := by decide +kernel
  have h1 := h.1
  unfold zSH at h1
  rw [if_neg (by have := h.2.1; omega), List.getD_eq_getElem?_getD] at h1
  cases e : zSHL[a - 1]? with
  | none =>
    rw [e] at h1
    have : (99, 0) = (k, N) := h1
    cases this
    decide
  | some q =>
    rw [e] at h1
    have h3 := h2 q (List.mem_of_getElem? e)
    have h4 : q = (k, N) := h1
    rw [h4] at h3
    exact h3

set_option maxRecDepth 100000 in
set_option maxHeartbeats 4000000 in
theorem t_X3_reduceAll {h : zH} {a N : Nat} {p : Int} (ha : zIs zN a (10, N)) (hp : 0 < p ∧ p < 1000) (hb : ∀ e, e < N → zin (h a e)) : CV yX3_reduceAll mX3_reduceAll [vR a, vI p] h (fun h' => h' = zfl h a N (fun e => h a e % p)) := by
  refine inS [some (vR a), some (vI p), none] mvX3_reduceAll rfl (Nat.le_of_ble_eq_true rfl) rfl ?_
  have hNs : N < 2147483648 := by
    have := zSH_small a
    rw [ha.1] at this
    exact this
  have L7 : ∀ (zm7 : Nat) (i : Nat) (h' : zH) (vi : Int), N - i = zm7 → (i ≤ N) → (vi = (i : Int)) → (h' = zfl h a i (fun e => h a e % p)) → WP mX3_reduceAll (zMQ mX3_reduceAll (zKV (fun h' => h' = zfl h a N (fun e => h a e % p)))) 7 [some (vR a), some (vI p), some (vI vi)] [] zN zGR h' := by
    intro zm7
    induction zm7 using Nat.strongRecOn with | _ zm7 ih7 => ?_
    intro i h' vi hzm7 hi hvi hh
    subst hzm7
    refine w_iload2 dX3_reduceAll_7 (w_aload0 dX3_reduceAll_8 (wp_alen dX3_reduceAll_9 ha (by decide) ?_))
    refine wp_icmp_ge 29 dX3_reduceAll_10 rfl ⟨by omega, by omega⟩ ⟨by omega, by omega⟩ (fun c10 => ?_) (fun c10 => ?_)
    · skip
      refine r_v dX3_reduceAll_29 rfl meX3_reduceAll ?_
      rw [hh, show i = N by omega]
    · skip
      refine w_aload0 dX3_reduceAll_13 (w_iload2 dX3_reduceAll_14 (w_aload0 dX3_reduceAll_15 (w_iload2 dX3_reduceAll_16 (x_iald i dX3_reduceAll_17 ha hvi (by omega) (w_iload1 dX3_reduceAll_18 ?_)))))
      have e1 : h' a i = h a i := by rw [hh, zfl_o (by omega)]
      rw [e1]
      have hzi := hb i (by omega)
      apply s_i2 (M := mX3_reduceAll) dX3_reduceAll_19 lk_RX3_7 mvX3_residue (by decide) meX3_reduceAll (Nat.le_of_ble_eq_true rfl)
      · exact t_X3_residue hzi hp
      intro x19 h19 hP19
      obtain ⟨eh19, ex19⟩ := hP19
      replace eh19 := eh19.symm
      subst eh19
      replace ex19 := ex19.symm
      subst ex19
      refine x_iast i dX3_reduceAll_22 ha hvi (by omega) (w_iinc2 dX3_reduceAll_23 rfl (by decide) (wp_goto 7 dX3_reduceAll_26 rfl ?_))
      exact ih7 _ (by omega) (i + 1) _ _ rfl (by omega) (by omega) (by rw [hh]; exact zfl_s rfl)
  refine w_aload0 dX3_reduceAll_0 (wp_ifnonnull (tgt := 5) dX3_reduceAll_1 rfl (by have := (ha).2.1; omega) (wp_iconst dX3_reduceAll_5 (w_istore2 dX3_reduceAll_6 rfl (by decide) ?_)))
  exact L7 _ 0 h 0 rfl (Nat.zero_le _) rfl zfl_0.symm
set_option maxRecDepth 100000 in
set_option maxHeartbeats 4000000 in
theorem t_X3_topOf {h : zH} {a N : Nat} (ha : zIs zN a (10, N)) (hN : 0 < N) (hb : ∀ e, e < N → zin (h a e)) : CI yX3_topOf mX3_topOf [vR a] h (fun r h' => h' = h ∧ r = (ztop (h a) N : Int)) := by
  refine inS [some (vR a), none] mvX3_topOf rfl (Nat.le_of_ble_eq_true rfl) rfl ?_
  have hNs : N < 2147483648 := by
    have := zSH_small a
    rw [ha.1] at this
    exact this
  have L11 : ∀ (zm11 : Nat) (e : Nat) (vi : Int), e = zm11 → (e < N) → (vi = (e : Int)) → (ztop (h a) N = ztop (h a) (e + 1)) → WP mX3_topOf (zMQ mX3_topOf (zKI (fun r h' => h' = h ∧ r = (ztop (h a) N : Int)))) 11 [some (vR a), some (vI vi)] [] zN zGR h := by
    intro zm11
    induction zm11 using Nat.strongRecOn with | _ zm11 ih11 => ?_
    intro e vi hzm11 he hvi hz
    subst hzm11
    refine w_iload1 dX3_topOf_11 ?_
    refine wp_if_le 29 dX3_topOf_12 rfl ⟨by omega, by omega⟩ (fun c12 => ?_) (fun c12 => ?_)
    · skip
      refine wp_iconst dX3_topOf_29 ?_
      refine r_i dX3_topOf_30 rfl meX3_topOf ?_
      refine ⟨rfl, ?_⟩
      rw [hz, show e = 0 by omega]
      rfl
    · skip
      refine w_aload0 dX3_topOf_15 (w_iload1 dX3_topOf_16 (x_iald e dX3_topOf_17 ha hvi he ?_))
      have hbe := hb e he
      refine wp_if_eq 23 dX3_topOf_18 rfl hbe (fun c18 => ?_) (fun c18 => ?_)
      · skip
        refine w_iinc1 dX3_topOf_23 rfl (by decide) (wp_goto 11 dX3_topOf_26 rfl ?_)
        refine ih11 _ (by omega) (e - 1) _ rfl (by omega) (by omega) ?_
        rw [hz, show e - 1 + 1 = e by omega]
        show (if e = 0 then 0 else if h a e = 0 then ztop (h a) e else e) = _
        rw [if_neg (by omega), if_pos c18]
      · skip
        refine w_iload1 dX3_topOf_21 ?_
        refine r_i dX3_topOf_22 rfl meX3_topOf ?_
        refine ⟨rfl, ?_⟩
        rw [hz]
        show _ = ((if e = 0 then 0 else if h a e = 0 then ztop (h a) e else e : Nat) : Int)
        rw [if_neg (by omega), if_neg c18]
        exact hvi
  refine w_aload0 dX3_topOf_0 (wp_ifnonnull (tgt := 6) dX3_topOf_1 rfl (by have := (ha).2.1; omega) (w_aload0 dX3_topOf_6 (wp_alen dX3_topOf_7 ha (by decide) (wp_iconst dX3_topOf_8 (wp_isub dX3_topOf_9 (w_istore1 dX3_topOf_10 rfl (by decide) ?_))))))
  exact L11 _ (N - 1) _ rfl (by omega) (by omega) (by rw [show N - 1 + 1 = N by omega])
set_option maxRecDepth 100000 in
set_option maxHeartbeats 4000000 in
theorem t_X3_divideByRoot {h : zH} {a N : Nat} {c p : Int} (ha : zIs zN a (10, N)) (hc : 0 ≤ c ∧ c < p) (hp : 0 < p ∧ p ≤ 31) (hf : ∀ j, j < N → 0 ≤ h a j ∧ h a j < p) : CV yX3_divideByRoot mX3_divideByRoot [vR a, vI c, vI p] h (fun h' => h' = zfl h a N (zdv c p N (h a))) := by
  refine inS [some (vR a), some (vI c), some (vI p), none, none, none] mvX3_divideByRoot rfl (Nat.le_of_ble_eq_true rfl) rfl ?_
  have hNs : N < 2147483648 := by
    have := zSH_small a
    rw [ha.1] at this
    exact this
  have L8 : ∀ (zm8 : Nat) (e : Nat) (h' : zH) (s vi : Int), e = zm8 → (e ≤ N) → (vi = (e : Int) - 1) → (h' = fun b j => if b = a ∧ e ≤ j ∧ j < N then zdv c p N (h a) j else h b j) → (s = zhor c p (N - e) (fun j => h a (j + e))) → WP mX3_divideByRoot (zMQ mX3_divideByRoot (zKV (fun h' => h' = zfl h a N (zdv c p N (h a))))) 8 [some (vR a), some (vI c), some (vI p), some (vI s), some (vI vi), none] [] zN zGR h' := by
    intro zm8
    induction zm8 using Nat.strongRecOn with | _ zm8 ih8 => ?_
    intro e h' s vi hzm8 he hvi hh hs
    subst hzm8
    have hsb := zhor_in (t := c) hp.1 (N - e) (fun j => h a (j + e))
    rw [← hs] at hsb
    have hst := z_mul hc hsb hp.2
    refine w_iload4 dX3_divideByRoot_8 ?_
    refine wp_if_lt 41 dX3_divideByRoot_10 rfl ⟨by omega, by omega⟩ (fun c10 => ?_) (fun c10 => ?_)
    · skip
      refine r_v dX3_divideByRoot_41 rfl meX3_divideByRoot ?_
      rw [hh, show e = 0 by omega]
      funext b j
      unfold zfl
      by_cases q : b = a ∧ j < N
      · rw [if_pos q, if_pos (by omega)]
      · rw [if_neg q, if_neg (by omega)]
    · skip
      refine w_aload0 dX3_divideByRoot_13 (w_iload4 dX3_divideByRoot_14 (x_iald (e - 1) dX3_divideByRoot_16 ha (by omega) (by omega) (w_iload1 dX3_divideByRoot_17 (w_iload3 dX3_divideByRoot_18 (wp_imul dX3_divideByRoot_19 (wp_iadd dX3_divideByRoot_20 (w_iload2 dX3_divideByRoot_21 ?_)))))))
      have e1 : h' a (e - 1) = h a (e - 1) := by rw [hh]; dsimp only; rw [if_neg (by omega)]
      rw [e1]
      have hfe := hf (e - 1) (by omega)
      apply s_i2 (M := mX3_divideByRoot) dX3_divideByRoot_22 lk_RX3_7 mvX3_residue (by decide) meX3_divideByRoot (Nat.le_of_ble_eq_true rfl)
      · exact t_X3_residue ⟨by omega, by omega⟩ (by omega)
      intro x22 h22 hP22
      obtain ⟨eh22, ex22⟩ := hP22
      replace eh22 := eh22.symm
      subst eh22
      replace ex22 := ex22.symm
      subst ex22
      refine w_istore5 dX3_divideByRoot_25 rfl (by decide) (w_aload0 dX3_divideByRoot_27 (w_iload4 dX3_divideByRoot_28 (w_iload3 dX3_divideByRoot_30 (x_iast (e - 1) dX3_divideByRoot_31 ha (by omega) (by omega) (w_iload5 dX3_divideByRoot_32 (w_istore3 dX3_divideByRoot_34 rfl (by decide) (w_iinc4 dX3_divideByRoot_35 rfl (by decide) (wp_goto 8 dX3_divideByRoot_38 rfl ?_))))))))
      refine w_forget5 ?_
      refine ih8 _ (by omega) (e - 1) _ _ _ rfl (by omega) (by omega) ?_ ?_
      · rw [hh]
        funext b j
        unfold zup
        try dsimp only
        by_cases q : b = a ∧ j = e - 1
        · rw [if_pos q, if_pos (by omega)]
          unfold zdv
          rw [if_pos (by omega), hs, q.2, show N - 1 - (e - 1) = N - e by omega]
          exact zhor_congr _ _ _ (fun i _ => by rw [show i + (e - 1) + 1 = i + e by omega])
        · rw [if_neg q]
          by_cases q2 : b = a ∧ e ≤ j ∧ j < N
          · rw [if_pos q2, if_pos (by omega)]
          · rw [if_neg q2, if_neg (by omega)]
      · rw [show N - (e - 1) = N - e + 1 by omega]
        show _ = (zhor c p (N - e) (fun j => h a (j + 1 + (e - 1))) * c + h a (0 + (e - 1))) % p
        rw [zhor_congr (N - e) (fun j => h a (j + 1 + (e - 1))) (fun j => h a (j + e)) (fun i _ => by rw [show i + 1 + (e - 1) = i + e by omega]), ← hs, Nat.zero_add, Int.mul_comm s c, Int.add_comm]
  refine wp_iconst dX3_divideByRoot_0 (w_istore3 dX3_divideByRoot_1 rfl (by decide) (w_aload0 dX3_divideByRoot_2 (wp_alen dX3_divideByRoot_3 ha (by decide) (wp_iconst dX3_divideByRoot_4 (wp_isub dX3_divideByRoot_5 (w_istore4 dX3_divideByRoot_6 rfl (by decide) ?_))))))
  exact L8 _ N h 0 _ rfl (Nat.le_refl _) rfl (by funext b j; rw [if_neg (by omega)]) (by rw [Nat.sub_self]; rfl)
set_option maxRecDepth 100000 in
set_option maxHeartbeats 4000000 in
theorem t_X3_strip {h : zH} {a N : Nat} {c p : Int} (ha : zIs zN a (10, N)) (hc : 0 ≤ c ∧ c < p) (hp : 0 < p ∧ p ≤ 31) (hf : ∀ j, j < N → 0 ≤ h a j ∧ h a j < p) : CI yX3_strip mX3_strip [vR a, vI c, vI p] h (fun r h' => h' = zfl h a N (zstr c p N N (h a)).2 ∧ r = ((zstr c p N N (h a)).1 : Int)) := by
  refine inS [some (vR a), some (vI c), some (vI p), none] mvX3_strip rfl (Nat.le_of_ble_eq_true rfl) rfl ?_
  have hNs : N < 2147483648 := by
    have := zSH_small a
    rw [ha.1] at this
    exact this
  have L8 : ∀ (zm8 : Nat) (k : Nat) (h' : zH) (vk : Int) (f : Nat → Int), N - k = zm8 → (k ≤ N) → (vk = (k : Int)) → (h' = zfl h a N f) → (∀ j, j < N → 0 ≤ f j ∧ f j < p) → ((zstr c p N N (h a)).1 = (zstr c p N (N - k) f).1 + k ∧ ∀ e, e < N → (zstr c p N N (h a)).2 e = (zstr c p N (N - k) f).2 e) → WP mX3_strip (zMQ mX3_strip (zKI (fun r h' => h' = zfl h a N (zstr c p N N (h a)).2 ∧ r = ((zstr c p N N (h a)).1 : Int)))) 8 [some (vR a), some (vI c), some (vI p), some (vI vk)] [] zN zGR h' := by
    intro zm8
    induction zm8 using Nat.strongRecOn with | _ zm8 ih8 => ?_
    intro k h' vk f hzm8 hk hvk hh hfb hz
    subst hzm8
    have hfa : ∀ j, j < N → h' a j = f j := fun j hj => by rw [hh, zfl_i hj]
    have hfb2 : ∀ j, j < N → 0 ≤ h' a j ∧ h' a j < p := fun j hj => by rw [hfa j hj]; exact hfb j hj
    refine w_iload3 dX3_strip_8 (w_aload0 dX3_strip_9 (wp_alen dX3_strip_10 ha (by decide) ?_))
    refine wp_icmp_ge 35 dX3_strip_11 rfl ⟨by omega, by omega⟩ ⟨by omega, by omega⟩ (fun c11 => ?_) (fun c11 => ?_)
    · skip
      refine w_iload3 dX3_strip_35 ?_
      refine r_i dX3_strip_36 rfl meX3_strip ?_
      have hfin : (zstr c p N (N - k) f).1 = 0 ∧ ∀ e, e < N → (zstr c p N (N - k) f).2 e = f e := by
        by_cases q : k = N
        · rw [show N - k = 0 by omega]
          exact ⟨rfl, fun _ _ => rfl⟩
        · have hn0 : zhor c p N f ≠ 0 := by
            rw [← zhor_congr N (h' a) f hfa]
            first | exact c20 | (exfalso; omega)
          rw [show N - k = N - (k + 1) + 1 by omega, zstr_n hn0]
          exact ⟨rfl, fun _ _ => rfl⟩
      refine ⟨?_, by have := hz.1; omega⟩
      rw [hh]
      exact zfl_congr (fun j hj => by rw [hz.2 j hj, hfin.2 j hj])
    · skip
      refine w_aload0 dX3_strip_14 (w_iload1 dX3_strip_15 (w_iload2 dX3_strip_16 ?_))
      apply s_i3 (M := mX3_strip) dX3_strip_17 lk_RX3_13 mvX3_horner (by decide) meX3_strip (Nat.le_of_ble_eq_true rfl)
      · exact t_X3_horner ha hc hp hfb2
      intro x17 h17 hP17
      obtain ⟨eh17, ex17⟩ := hP17
      replace eh17 := eh17.symm
      subst eh17
      replace ex17 := ex17.symm
      subst ex17
      have hzb := zhor_in (t := c) hp.1 N (h' a)
      refine wp_if_ne 35 dX3_strip_20 rfl ⟨by omega, by omega⟩ (fun c20 => ?_) (fun c20 => ?_)
      · skip
        refine w_iload3 dX3_strip_35 ?_
        refine r_i dX3_strip_36 rfl meX3_strip ?_
        have hfin : (zstr c p N (N - k) f).1 = 0 ∧ ∀ e, e < N → (zstr c p N (N - k) f).2 e = f e := by
          by_cases q : k = N
          · rw [show N - k = 0 by omega]
            exact ⟨rfl, fun _ _ => rfl⟩
          · have hn0 : zhor c p N f ≠ 0 := by
              rw [← zhor_congr N (h' a) f hfa]
              first | exact c20 | (exfalso; omega)
            rw [show N - k = N - (k + 1) + 1 by omega, zstr_n hn0]
            exact ⟨rfl, fun _ _ => rfl⟩
        refine ⟨?_, by have := hz.1; omega⟩
        rw [hh]
        exact zfl_congr (fun j hj => by rw [hz.2 j hj, hfin.2 j hj])
      · skip
        refine w_aload0 dX3_strip_23 (w_iload1 dX3_strip_24 (w_iload2 dX3_strip_25 ?_))
        apply s_v3 (M := mX3_strip) dX3_strip_26 lk_RX3_17 mvX3_divideByRoot (by decide) meX3_strip (Nat.le_of_ble_eq_true rfl)
        · exact t_X3_divideByRoot ha hc hp hfb2
        intro h26 hP26
        replace hP26 := hP26.symm
        subst hP26
        refine w_iinc3 dX3_strip_29 rfl (by decide) (wp_goto 8 dX3_strip_32 rfl ?_)
        have h0 : zhor c p N f = 0 := by rw [← zhor_congr N (h' a) f hfa]; exact c20
        refine ih8 _ (by omega) (k + 1) _ _ (zdv c p N f) rfl (by omega) (by omega) ?_ (zdv_in hp.1) ?_
        · rw [hh, zfl_fl]
          exact zfl_congr (zdv_congr (fun e he => zfl_i he))
        · have hst : zstr c p N (N - k) f = ((zstr c p N (N - (k + 1)) (zdv c p N f)).1 + 1, (zstr c p N (N - (k + 1)) (zdv c p N f)).2) := by
            rw [show N - k = N - (k + 1) + 1 by omega]
            exact zstr_s h0
          rw [hst] at hz
          refine ⟨?_, hz.2⟩
          have h9 := hz.1
          dsimp only at h9
          omega
  refine w_aload0 dX3_strip_0 (wp_ifnonnull (tgt := 6) dX3_strip_1 rfl (by have := (ha).2.1; omega) (wp_iconst dX3_strip_6 (w_istore3 dX3_strip_7 rfl (by decide) ?_)))
  exact L8 _ 0 h 0 (h a) rfl (Nat.zero_le _) rfl (zfl_id (fun _ _ => rfl)).symm hf ⟨rfl, fun _ _ => rfl⟩
set_option maxRecDepth 100000 in
set_option maxHeartbeats 4000000 in
theorem t_X3_addProduct {h : zH} {s a b S F G : Nat} {sg : Int} (hs : zIs zN s (10, S)) (ha : zIs zN a (10, F)) (hb : zIs zN b (10, G)) (hF : 0 < F) (hlen : F + G - 1 ≤ S) (hsg : sg = 1 ∨ sg = -1) (hsa : s ≠ a) (hsb : s ≠ b) (hfb : ∀ e, e < F → -1000 ≤ h a e ∧ h a e ≤ 1000) : CV yX3_addProduct mX3_addProduct [vR s, vR a, vR b, vI sg] h (fun h' => h' = zfl h s S (fun i => h s i + zcv sg (h a) (h b) F G i)) := by
  refine inS [some (vR s), some (vR a), some (vR b), some (vI sg), none, none, none] mvX3_addProduct rfl (Nat.le_of_ble_eq_true rfl) rfl ?_
  have h1 := zSH_small s
  rw [hs.1] at h1
  have h2 := zSH_small a
  rw [ha.1] at h2
  have h3 := zSH_small b
  rw [hb.1] at h3
  have h1 : S < 2147483648 := h1
  have h2 : F < 2147483648 := h2
  have h3 : G < 2147483648 := h3
  have hFGb : F < 100000 ∧ G < 100000 := by have q1 := zSH_s1 ha; have q2 := zSH_s1 hb; omega
  have L28 : ∀ (zm28 : Nat) (i : Nat) (h' : zH) (vi : Int), F - i = zm28 → (i ≤ F) → (vi = (i : Int)) → (h' = zfl h s S (fun q => h s q + zcv sg (h a) (h b) i G q)) → WP mX3_addProduct (zMQ mX3_addProduct (zKV (fun h' => h' = zfl h s S (fun i => h s i + zcv sg (h a) (h b) F G i)))) 28 [some (vR s), some (vR a), some (vR b), some (vI sg), some (vI vi), none, none] [] zN zGR h' := by
    intro zm28
    induction zm28 using Nat.strongRecOn with | _ zm28 ih28 => ?_
    intro i h' vi hzm28 hi hvi hh
    subst hzm28
    have L51 : ∀ (zm51 : Nat) (k : Nat) (h2 : zH) (vk : Int), G - k = zm51 → (i < F) → (k ≤ G) → (vk = (k : Int)) → (h2 = zfl h s S (fun q => h s q + zcv sg (h a) (h b) i G q + (if i ≤ q ∧ q - i < k then sg * h a i * h b (q - i) else 0))) → WP mX3_addProduct (zMQ mX3_addProduct (zKV (fun h' => h' = zfl h s S (fun i => h s i + zcv sg (h a) (h b) F G i)))) 51 [some (vR s), some (vR a), some (vR b), some (vI sg), some (vI vi), some (vI (sg * h a i)), some (vI vk)] [] zN zGR h2 := by
      intro zm51
      induction zm51 using Nat.strongRecOn with | _ zm51 ih51 => ?_
      intro k h2 vk hzm51 hiF hk hvk hh2
      subst hzm51
      refine w_iload6 dX3_addProduct_51 (w_aload2 dX3_addProduct_53 (wp_alen dX3_addProduct_54 hb (by decide) ?_))
      refine wp_icmp_ge 81 dX3_addProduct_55 rfl ⟨by omega, by omega⟩ ⟨by omega, by omega⟩ (fun c55 => ?_) (fun c55 => ?_)
      · skip
        refine w_iinc4 dX3_addProduct_81 rfl (by decide) (wp_goto 28 dX3_addProduct_84 rfl ?_)
        refine w_forget5 ?_
        refine w_forget6 ?_
        refine ih28 _ (by omega) (i + 1) _ _ rfl (by omega) (by omega) ?_
        rw [hh2]
        refine zfl_congr (fun j hj => ?_)
        show _ = h s j + (zcv sg (h a) (h b) i G j + (if i ≤ j ∧ j - i < G then sg * h a i * h b (j - i) else 0))
        rw [show k = G by omega]
        omega
      · skip
        refine w_aload0 dX3_addProduct_58 (w_iload4 dX3_addProduct_59 (w_iload6 dX3_addProduct_61 (wp_iadd dX3_addProduct_63 (wp_dup2 dX3_addProduct_64 rfl rfl ?_))))
        have e2 : h2 s (i + k) = h s (i + k) + zcv sg (h a) (h b) i G (i + k) := by rw [hh2, zfl_i (by omega), if_neg (by omega), Int.add_zero]
        have e3 : h2 b k = h b k := by rw [hh2, zfl_a (Ne.symm hsb)]
        refine x_iald (i + k) dX3_addProduct_65 hs (by omega) (by omega) (w_iload5 dX3_addProduct_66 (w_aload2 dX3_addProduct_68 (w_iload6 dX3_addProduct_69 (x_iald k dX3_addProduct_71 hb hvk (by omega) (wp_imul dX3_addProduct_72 (wp_iadd dX3_addProduct_73 (x_iast (i + k) dX3_addProduct_74 hs (by omega) (by omega) (w_iinc6 dX3_addProduct_75 rfl (by decide) (wp_goto 51 dX3_addProduct_78 rfl ?_)))))))))
        refine ih51 _ (by omega) (k + 1) _ _ rfl hiF (by omega) (by omega) ?_
        rw [e2, e3]
        rw [hh2]
        funext q j
        unfold zup zfl
        try dsimp only
        by_cases e : q = s ∧ j = i + k
        · rw [if_pos e, if_pos ⟨e.1, by omega⟩, e.2, if_pos (by omega), show i + k - i = k by omega]
        · rw [if_neg e]
          by_cases e4 : q = s ∧ j < S
          · rw [if_pos e4, if_pos e4]
            by_cases e5 : i ≤ j ∧ j - i < k
            · rw [if_pos e5, if_pos (by omega)]
            · rw [if_neg e5, if_neg (by omega)]
          · rw [if_neg e4, if_neg e4]
    refine w_iload4 dX3_addProduct_28 (w_aload1 dX3_addProduct_30 (wp_alen dX3_addProduct_31 ha (by decide) ?_))
    refine wp_icmp_ge 87 dX3_addProduct_32 rfl ⟨by omega, by omega⟩ ⟨by omega, by omega⟩ (fun c32 => ?_) (fun c32 => ?_)
    · skip
      refine r_v dX3_addProduct_87 rfl meX3_addProduct ?_
      rw [hh, show i = F by omega]
    · skip
      refine w_iload3 dX3_addProduct_35 (w_aload1 dX3_addProduct_36 (w_iload4 dX3_addProduct_37 (x_iald i dX3_addProduct_39 ha hvi (by omega) (wp_imul dX3_addProduct_40 (w_istore5 dX3_addProduct_41 rfl (by decide) (w_iload5 dX3_addProduct_43 ?_))))))
      have e1 : h' a i = h a i := by rw [hh, zfl_a (Ne.symm hsa)]
      have hfi := hfb i (by omega)
      have hz1 : zin (sg * h' a i) := by
        rw [e1]
        rcases hsg with q | q <;> rw [q] <;> exact ⟨by omega, by omega⟩
      refine wp_if_eq 81 dX3_addProduct_45 rfl hz1 (fun c45 => ?_) (fun c45 => ?_)
      · skip
        refine w_iinc4 dX3_addProduct_81 rfl (by decide) (wp_goto 28 dX3_addProduct_84 rfl ?_)
        refine w_forget5 ?_
        refine ih28 _ (by omega) (i + 1) _ _ rfl (by omega) (by omega) ?_
        rw [hh]
        refine zfl_congr (fun j hj => ?_)
        show _ = h s j + (zcv sg (h a) (h b) i G j + (if i ≤ j ∧ j - i < G then sg * h a i * h b (j - i) else 0))
        have z0 : sg * h a i = 0 := by rw [← e1]; exact c45
        rw [z0, Int.zero_mul]
        split <;> omega
      · skip
        rw [e1]
        refine wp_iconst dX3_addProduct_48 (w_istore6 dX3_addProduct_49 rfl (by decide) ?_)
        refine L51 _ 0 h' 0 rfl (by omega) (Nat.zero_le _) rfl ?_
        rw [hh]
        refine zfl_congr (fun j hj => ?_)
        rw [if_neg (by omega)]
        omega
  refine w_aload0 dX3_addProduct_0 (wp_ifnull dX3_addProduct_1 (by have := (hs).2.1; omega) (w_aload1 dX3_addProduct_4 (wp_ifnull dX3_addProduct_5 (by have := (ha).2.1; omega) (w_aload2 dX3_addProduct_8 (wp_ifnull dX3_addProduct_9 (by have := (hb).2.1; omega) (w_aload0 dX3_addProduct_12 (wp_alen dX3_addProduct_13 hs (by decide) (w_aload1 dX3_addProduct_14 (wp_alen dX3_addProduct_15 ha (by decide) ?_)))))))))
  refine w_aload2 dX3_addProduct_16 (wp_alen dX3_addProduct_17 hb (by decide) (wp_iadd dX3_addProduct_18 (wp_iconst dX3_addProduct_19 (wp_isub dX3_addProduct_20 ?_))))
  refine wp_icmp_ge 25 dX3_addProduct_21 rfl ⟨by omega, by omega⟩ ⟨by omega, by omega⟩ (fun c21 => ?_) (fun c21 => absurd c21 (by omega))
  refine wp_iconst dX3_addProduct_25 (w_istore4 dX3_addProduct_26 rfl (by decide) ?_)
  exact L28 _ 0 h 0 rfl (Nat.zero_le _) rfl (zfl_id (fun j _ => by unfold zcv; show h s j + 0 = _; omega)).symm
