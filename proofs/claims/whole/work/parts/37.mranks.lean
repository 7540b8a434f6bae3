
/-- the vector v less b kept rows K with their leads A -/
def zkr (p : Int) (K : Nat → Nat → Int) (A : Nat → Nat) : Nat → (Nat → Int) → Nat → Int
  | 0, v => v
  | b + 1, v => fun q => if zkr p K A b v (A b) = 0 then zkr p K A b v q else (zkr p K A b v q - zkr p K A b v (A b) * K b q) % p
theorem zkr_in {p : Int} (hp : 0 < p) {K : Nat → Nat → Int} {A : Nat → Nat} {v : Nat → Int} {q : Nat} (hv : 0 ≤ v q ∧ v q < p) : ∀ b, 0 ≤ zkr p K A b v q ∧ zkr p K A b v q < p := by
  intro b
  induction b with
  | zero => exact hv
  | succ b ih =>
    show 0 ≤ (if zkr p K A b v (A b) = 0 then zkr p K A b v q else _) ∧ (if zkr p K A b v (A b) = 0 then zkr p K A b v q else _) < p
    split
    · exact ih
    · exact z_mod hp _
theorem zkr_y {p : Int} {K : Nat → Nat → Int} {A : Nat → Nat} {v : Nat → Int} {b : Nat} (h : zkr p K A b v (A b) = 0) : zkr p K A (b + 1) v = zkr p K A b v := funext fun q => if_pos h
theorem zkr_n {p : Int} {K : Nat → Nat → Int} {A : Nat → Nat} {v : Nat → Int} {b : Nat} (h : zkr p K A b v (A b) ≠ 0) {q : Nat} : zkr p K A (b + 1) v q = (zkr p K A b v q - zkr p K A b v (A b) * K b q) % p := if_neg h
def zKS (p : Int) (s f : Nat) (K : Nat → Nat → Int) (A : Nat → Nat) (h : zH) : Prop := h 445 27 = (f : Int) ∧ ∀ b, b < f → h 460 b = (A b : Int) ∧ A b < s ∧ ∀ q, q < s → h 459 (8 * b + q) = K b q ∧ 0 ≤ K b q ∧ K b q < p
theorem zKS_fr {p : Int} {s f : Nat} {K : Nat → Nat → Int} {A : Nat → Nat} {h h' : zH} (H : zKS p s f K A h) (e : ∀ a j, (a = 445 ∧ j = 27) ∨ a = 459 ∨ a = 460 → h' a j = h a j) : zKS p s f K A h' := ⟨by rw [e _ _ (by omega)]; exact H.1, fun b hb => ⟨by rw [e _ _ (by omega)]; exact (H.2 b hb).1, (H.2 b hb).2.1, fun q hq => by rw [e _ _ (by omega)]; exact (H.2 b hb).2.2 q hq⟩⟩
/-- what the model keeps after the vectors V 0 .. V (n - 1) of s numbers -/
def zMs (p : Int) (s : Nat) (V : Nat → Nat → Int) : Nat → Nat × (Nat → Nat → Int) × (Nat → Nat)
  | 0 => (0, fun _ _ => 0, fun _ => 0)
  | n + 1 => if zld (zkr p (zMs p s V n).2.1 (zMs p s V n).2.2 (zMs p s V n).1 (V n)) s 0 < s then ((zMs p s V n).1 + 1, zupB (zMs p s V n).2.1 (zMs p s V n).1 (fun q => zkr p (zMs p s V n).2.1 (zMs p s V n).2.2 (zMs p s V n).1 (V n) q * zinv (zkr p (zMs p s V n).2.1 (zMs p s V n).2.2 (zMs p s V n).1 (V n) (zld (zkr p (zMs p s V n).2.1 (zMs p s V n).2.2 (zMs p s V n).1 (V n)) s 0)) p % p), zupN (zMs p s V n).2.2 (zMs p s V n).1 (zld (zkr p (zMs p s V n).2.1 (zMs p s V n).2.2 (zMs p s V n).1 (V n)) s 0)) else zMs p s V n
def zMfl (p : Int) (s : Nat) (V : Nat → Nat → Int) (n : Nat) : Prop := zld (zkr p (zMs p s V n).2.1 (zMs p s V n).2.2 (zMs p s V n).1 (V n)) s 0 < s
theorem zMs_y {p : Int} {s : Nat} {V : Nat → Nat → Int} {n : Nat} (h : zMfl p s V n) : zMs p s V (n + 1) = ((zMs p s V n).1 + 1, zupB (zMs p s V n).2.1 (zMs p s V n).1 (fun q => zkr p (zMs p s V n).2.1 (zMs p s V n).2.2 (zMs p s V n).1 (V n) q * zinv (zkr p (zMs p s V n).2.1 (zMs p s V n).2.2 (zMs p s V n).1 (V n) (zld (zkr p (zMs p s V n).2.1 (zMs p s V n).2.2 (zMs p s V n).1 (V n)) s 0)) p % p), zupN (zMs p s V n).2.2 (zMs p s V n).1 (zld (zkr p (zMs p s V n).2.1 (zMs p s V n).2.2 (zMs p s V n).1 (V n)) s 0)) := if_pos h
theorem zMs_n {p : Int} {s : Nat} {V : Nat → Nat → Int} {n : Nat} (h : ¬ zMfl p s V n) : zMs p s V (n + 1) = zMs p s V n := if_neg h
theorem zMs_le {p : Int} {s : Nat} {V : Nat → Nat → Int} : ∀ n, (zMs p s V n).1 ≤ n := by
  intro n
  induction n with
  | zero => exact Nat.le_refl _
  | succ n ih =>
    by_cases h : zMfl p s V n
    · rw [zMs_y h]
      show (zMs p s V n).1 + 1 ≤ _
      omega
    · rw [zMs_n h]
      omega
def zFkp (r a j : Nat) : Prop := (a = 458 ∧ 8 * r ≤ j ∧ j < 8 * r + 8) ∨ a = 459 ∨ a = 460 ∨ (a = 445 ∧ j = 27)
/-- which rows, from fr on, are no combinations of those before -/
def zIp (p : Int) (s : Nat) (V : Nat → Nat → Int) (fr r : Nat) : Prop := fr ≤ r ∧ zMfl p s (fun n => V (fr + n)) (r - fr)
theorem zld_in (v : Nat → Int) : ∀ n k, zld v n k < k + n → v (zld v n k) ≠ 0 := by
  intro n
  induction n with
  | zero => intro k h; exact absurd h (by show ¬ (k < k + 0); omega)
  | succ n ih =>
    intro k h
    unfold zld at h ⊢
    by_cases w : v k ≠ 0
    · rw [if_pos w]; exact w
    · rw [if_neg w] at h ⊢
      exact ih (k + 1) (by omega)
def zFin (a j : Nat) : Prop := (458 ≤ a ∧ a ≤ 460) ∨ (a = 445 ∧ j = 27)
theorem zbc_mk {P : Nat → Prop} {n : Nat} (hn : n ≤ 31) : zbc (zmk P n) 31 = zct P n := by
  rw [← zct_bc]
  have h1 : ∀ m, n ≤ m → zct (fun i => zmk P n / 2 ^ i % 2 = 1) m = zct (fun i => zmk P n / 2 ^ i % 2 = 1) n := by
    intro m
    induction m with
    | zero => intro h; rw [show n = 0 by omega]
    | succ m ih =>
      intro h
      by_cases e : n = m + 1
      · rw [e]
      · have h2 : ¬ (zmk P n / 2 ^ m % 2 = 1) := by
          have h3 := zmk_lt (P := P) n
          have h4 : 2 ^ n ≤ 2 ^ m := Nat.pow_le_pow_right (by omega) (by omega)
          rw [Nat.div_eq_of_lt (by omega)]
          decide
        rw [zct_n (P := fun i => zmk P n / 2 ^ i % 2 = 1) h2]
        exact ih (by omega)
  rw [h1 31 hn]
  exact zct_congr n (fun i hi => zmk_bit n i hi)
def zgmx (f : Nat → Nat) : Nat → Nat
  | 0 => 0
  | n + 1 => max (zgmx f n) (f n)
def zgpv (f : Nat → Nat) : Nat → Nat
  | 0 => 0
  | n + 1 => if zgmx f n < f n then n else zgpv f n
theorem zgmx_le {f : Nat → Nat} {M : Nat} (h : ∀ n, f n ≤ M) : ∀ n, zgmx f n ≤ M := by
  intro n
  induction n with
  | zero => exact Nat.zero_le _
  | succ n ih =>
    have := h n
    show max (zgmx f n) (f n) ≤ M
    omega
theorem zgpv_lt {f : Nat → Nat} : ∀ n, 0 < n → zgpv f n < n := by
  intro n
  induction n with
  | zero => intro h; exact absurd h (Nat.lt_irrefl 0)
  | succ n ih =>
    intro _
    show (if zgmx f n < f n then n else zgpv f n) < n + 1
    split
    · omega
    · by_cases e : n = 0
      · rw [e]; show 0 < 1; omega
      · have := ih (by omega); omega
/-- rows and columns of the matrix at t -/
def zRV (p : Int) (E : Nat → Nat → Int) (t : Int) (r q : Nat) : Int := zhor t p 7 (E (8 * r + q))
def zCV (p : Int) (E : Nat → Nat → Int) (t : Int) (r q : Nat) : Int := zhor t p 7 (E (8 * q + r))
noncomputable def zmrk (p : Int) (s : Nat) (E : Nat → Nat → Int) (t : Nat) : Nat := zct (zIp p s (zRV p E (t : Int)) 0) s
noncomputable def zmrw (p : Int) (s : Nat) (E : Nat → Nat → Int) (t : Nat) : Nat := zct (zIp p s (zRV p E (t : Int)) 1) s
def zFfr2 (a j : Nat) : Prop := (458 ≤ a ∧ a ≤ 460) ∨ a = 455 ∨ (a = 445 ∧ (j = 27 ∨ (18 ≤ j ∧ j ≤ 22)))

set_option maxRecDepth 100000 in
set_option maxHeartbeats 4000000 in
theorem t_X10_keeps {h : zH} {rr p : Int} {r s f : Nat} (hr : rr = r) (hrs : r < s) (hs8 : s ≤ 8) (hp : 5 ≤ p ∧ p ≤ 31) (hp0 : h 446 0 = p) (h11 : h 445 11 = (s : Int)) {K : Nat → Nat → Int} {A : Nat → Nat} (hf8 : f < 8) (hK : zKS p s f K A h) {V : Nat → Int} (hV : ∀ q, q < s → h 458 (8 * r + q) = V q ∧ 0 ≤ V q ∧ V q < p) : CI yX10_keeps mX10_keeps [vR 445, vI rr] h (fun r_ h' => zFr (zFkp r) h h' ∧ (zld (zkr p K A f V) s 0 < s → r_ = 1 ∧ zKS p s (f + 1) (zupB K f (fun q => zkr p K A f V q * zinv (zkr p K A f V (zld (zkr p K A f V) s 0)) p % p)) (zupN A f (zld (zkr p K A f V) s 0)) h') ∧ (s ≤ zld (zkr p K A f V) s 0 → r_ = 0 ∧ zKS p s f K A h')) := by
  refine inV [some (vR 445), some (vI rr), none, none, none] mvX10_keeps rfl (Nat.le_of_ble_eq_true rfl) rfl ?_
  have hpp : 0 < p := by omega
  obtain ⟨K1, K2⟩ := id hK
  have L157 : ∀ (zm157 : Nat) (q l : Nat) (h' : zH) (by_ : Int), s - q = zm157 → (l < s) → (zld (zkr p K A f V) s 0 = l) → (q ≤ s) → (∀ a j, ¬ (a = 458 ∧ 8 * r ≤ j ∧ j < 8 * r + 8) → ¬ (a = 459 ∧ 8 * f ≤ j ∧ j < 8 * f + 8) → h' a j = h a j) → (∀ q, q < s → h' 458 (8 * r + q) = zkr p K A f V q) → (by_ = zinv (zkr p K A f V l) p) → (∀ i, i < q → h' 459 (8 * f + i) = zkr p K A f V i * by_ % p) → WP mX10_keeps (zMQ mX10_keeps (zKI (fun r_ h' => zFr (zFkp r) h h' ∧ (zld (zkr p K A f V) s 0 < s → r_ = 1 ∧ zKS p s (f + 1) (zupB K f (fun q => zkr p K A f V q * zinv (zkr p K A f V (zld (zkr p K A f V) s 0)) p % p)) (zupN A f (zld (zkr p K A f V) s 0)) h') ∧ (s ≤ zld (zkr p K A f V) s 0 → r_ = 0 ∧ zKS p s f K A h')))) 157 [some (vR 445), some (vI rr), some (vI (l : Int)), some (vI by_), some (vI (q : Int))] [] zN zGR h' := by
    intro zm157
    induction zm157 using Nat.strongRecOn with | _ zm157 ih157 => ?_
    intro q l h' by_ hzm157 hls hlz hq hF hw hby hn
    subst hzm157
    have k11 : h' 445 11 = (s : Int) := by rw [hF _ _ (by omega) (by omega)]; exact h11
    have k27 : h' 445 27 = (f : Int) := by rw [hF _ _ (by omega) (by omega)]; exact K1
    have k0 : h' 446 0 = p := by rw [hF _ _ (by omega) (by omega)]; exact hp0
    have hin := fun q (hq : q < s) => zkr_in hpp (K := K) (A := A) (hV q hq).2 f
    have hbb := zinvS_in (zkr p K A f V l) p (p.toNat - 1)
    have hbb2 : 0 ≤ by_ ∧ by_ < p := by rw [hby]; unfold zinv; omega
    refine w_iload4 dX10_keeps_157 (w_aload0 dX10_keeps_159 (wp_geti dX10_keeps_160 fl_RX10_186 is_445 ?_))
    rw [k11]
    refine wp_icmp_ge 206 dX10_keeps_163 rfl ⟨by omega, by omega⟩ ⟨by omega, by omega⟩ (fun c163 => ?_) (fun c163 => ?_)
    · skip
      refine w_aload0 dX10_keeps_206 (wp_getr 460 dX10_keeps_207 fl_RX10_52 is_445 rfl (w_aload0 dX10_keeps_210 (wp_geti dX10_keeps_211 fl_RX10_195 is_445 ?_)))
      rw [k27]
      refine w_iload2 dX10_keeps_214 (x_iast f dX10_keeps_215 is_460 rfl (by omega) (w_aload0 dX10_keeps_216 (wp_dup dX10_keeps_217 rfl (wp_geti dX10_keeps_218 fl_RX10_195 is_445 (wp_iconst dX10_keeps_221 (wp_iadd dX10_keeps_222 ?_))))))
      rw [show zup h' 460 f (l : Int) 445 27 = (f : Int) by rw [zup_o (by omega)]; exact k27]
      refine wp_puti dX10_keeps_223 fl_RX10_195 is_445 rfl (wp_iconst dX10_keeps_226 ?_)
      refine r_z dX10_keeps_227 rfl meX10_keeps (by first | exact Or.inl rfl | exact Or.inr rfl | omega) ?_
      refine ⟨fun a j n => ?_, fun _ => ⟨rfl, ?_, fun b hb => ?_⟩, fun w => by omega⟩
      · unfold zFkp at n
        rw [zup_o (by omega), zup_o (by omega)]
        exact hF a j (by omega) (by omega)
      · rw [zup_s]
        push_cast
        rfl
      · unfold zupB zupN
        rw [hlz, ← hby]
        by_cases e : b = f
        · rw [e, if_pos rfl, if_pos rfl]
          refine ⟨?_, hls, fun i hi => ⟨?_, z_mod hpp _⟩⟩
          · rw [zup_o (by omega), zup_s]
          · rw [zup_o (by omega), zup_o (by omega)]
            exact hn i (by omega)
        · rw [if_neg e, if_neg e]
          obtain ⟨g1, g2, g3⟩ := K2 b (by omega)
          refine ⟨?_, g2, fun i hi => ⟨?_, (g3 i hi).2⟩⟩
          · rw [zup_o (by omega), zup_o (by omega), hF _ _ (by omega) (by omega)]; exact g1
          · rw [zup_o (by omega), zup_o (by omega), hF _ _ (by omega) (by omega)]; exact (g3 i hi).1
    · skip
      refine w_aload0 dX10_keeps_166 (wp_getr 459 dX10_keeps_167 fl_RX10_49 is_445 rfl (wp_bipush dX10_keeps_170 (by decide) (w_aload0 dX10_keeps_172 (wp_geti dX10_keeps_173 fl_RX10_195 is_445 ?_))))
      rw [k27]
      refine wp_imul dX10_keeps_176 (w_iload4 dX10_keeps_177 (wp_iadd dX10_keeps_179 (w_aload0 dX10_keeps_180 (wp_getr 458 dX10_keeps_181 fl_RX10_46 is_445 rfl (wp_bipush dX10_keeps_184 (by decide) (w_iload1 dX10_keeps_186 (wp_imul dX10_keeps_187 (w_iload4 dX10_keeps_188 (wp_iadd dX10_keeps_190 ?_)))))))))
      refine x_iald (8 * r + q) dX10_keeps_191 is_458 (by omega) (by omega) ?_
      rw [hw q (by omega)]
      have hiq := hin q (by omega)
      have hmm := z_mb hiq hbb2 hp.2
      refine w_iload3 dX10_keeps_192 (wp_imul dX10_keeps_193 (w_aload0 dX10_keeps_194 ?_))
      apply v_i0 (M := mX10_keeps) dX10_keeps_195 lk_RX10_76 mvX10_p (by decide) meX10_keeps is_445 (Nat.le_of_ble_eq_true rfl)
      · exact t_X10_p k0
      intro x195 h195 hP195
      obtain ⟨eh195, ex195⟩ := hP195
      replace eh195 := eh195.symm
      subst eh195
      replace ex195 := ex195.symm
      subst ex195
      refine wp_irem dX10_keeps_198 (by omega) (by omega) (x_iast (8 * f + q) dX10_keeps_199 is_459 (by omega) (by omega) (w_iinc4 dX10_keeps_200 rfl (by decide) (wp_goto 157 dX10_keeps_203 rfl ?_)))
      refine ih157 _ (by omega) (q + 1) l _ _ rfl hls hlz (by omega) (fun a j n1 n2 => by rw [zup_o (by omega)]; exact hF a j n1 n2) (fun i hi => by rw [zup_o (by omega)]; exact hw i hi) hby (fun i hi => ?_)
      by_cases w : i = q
      · rw [w, zup_s]
      · rw [zup_o (by omega)]; exact hn i (by omega)
  have L100 : ∀ (zm100 : Nat) (l : Nat) (h' : zH), s - l = zm100 → (l ≤ s) → (∀ a j, ¬ (a = 458 ∧ 8 * r ≤ j ∧ j < 8 * r + 8) → h' a j = h a j) → (∀ q, q < s → h' 458 (8 * r + q) = zkr p K A f V q) → (zld (zkr p K A f V) s 0 = zld (zkr p K A f V) (s - l) l) → WP mX10_keeps (zMQ mX10_keeps (zKI (fun r_ h' => zFr (zFkp r) h h' ∧ (zld (zkr p K A f V) s 0 < s → r_ = 1 ∧ zKS p s (f + 1) (zupB K f (fun q => zkr p K A f V q * zinv (zkr p K A f V (zld (zkr p K A f V) s 0)) p % p)) (zupN A f (zld (zkr p K A f V) s 0)) h') ∧ (s ≤ zld (zkr p K A f V) s 0 → r_ = 0 ∧ zKS p s f K A h')))) 100 [some (vR 445), some (vI rr), some (vI (l : Int)), none, none] [] zN zGR h' := by
    intro zm100
    induction zm100 using Nat.strongRecOn with | _ zm100 ih100 => ?_
    intro l h' hzm100 hl hF hw hz
    subst hzm100
    have k11 : h' 445 11 = (s : Int) := by rw [hF _ _ (by omega)]; exact h11
    have k27 : h' 445 27 = (f : Int) := by rw [hF _ _ (by omega)]; exact K1
    have k0 : h' 446 0 = p := by rw [hF _ _ (by omega)]; exact hp0
    have hin := fun q (hq : q < s) => zkr_in hpp (K := K) (A := A) (hV q hq).2 f
    have hFz : zFr (zFkp r) h h' := fun a j n => hF a j (fun q => n (Or.inl q))
    have hKz : zKS p s f K A h' := zKS_fr hK (fun a j ha => hF a j (by omega))
    refine w_iload2 dX10_keeps_100 (w_aload0 dX10_keeps_101 (wp_geti dX10_keeps_102 fl_RX10_186 is_445 ?_))
    rw [k11]
    refine wp_icmp_ge 128 dX10_keeps_105 rfl ⟨by omega, by omega⟩ ⟨by omega, by omega⟩ (fun c105 => ?_) (fun c105 => ?_)
    · skip
      refine w_iload2 dX10_keeps_128 (w_aload0 dX10_keeps_129 (wp_geti dX10_keeps_130 fl_RX10_186 is_445 ?_))
      rw [k11]
      refine wp_icmp_ne 138 dX10_keeps_133 rfl ⟨by omega, by omega⟩ ⟨by omega, by omega⟩ (fun c133 => ?_) (fun c133 => ?_)
      · skip
        refine w_aload0 dX10_keeps_138 (w_aload0 dX10_keeps_139 (wp_getr 458 dX10_keeps_140 fl_RX10_46 is_445 rfl (wp_bipush dX10_keeps_143 (by decide) (w_iload1 dX10_keeps_145 (wp_imul dX10_keeps_146 (w_iload2 dX10_keeps_147 (wp_iadd dX10_keeps_148 (x_iald (8 * r + l) dX10_keeps_149 is_458 (by omega) (by omega) ?_))))))))
        rw [hw l (by omega)]
        have hil := hin l (by omega)
        apply v_i1 (M := mX10_keeps) dX10_keeps_150 lk_RX10_198 mvX10_inverse (by decide) meX10_keeps is_445 (Nat.le_of_ble_eq_true rfl)
        · exact t_X10_inverse ⟨by omega, by omega⟩ hp k0
        intro x150 h150 hP150
        obtain ⟨eh150, ex150⟩ := hP150
        replace eh150 := eh150.symm
        subst eh150
        replace ex150 := ex150.symm
        subst ex150
        refine w_istore3 dX10_keeps_153 rfl (by decide) (wp_iconst dX10_keeps_154 (w_istore4 dX10_keeps_155 rfl (by decide) ?_))
        have hlz : zld (zkr p K A f V) s 0 = l := by
          rw [hz, show s - l = s - (l + 1) + 1 by omega]
          show (if zkr p K A f V l ≠ 0 then l else _) = _
          rw [if_pos (by omega)]
        exact L157 _ 0 l _ _ rfl (by omega) hlz (Nat.zero_le _) (fun a j n _ => hF a j n) hw rfl (fun i hi => absurd hi (Nat.not_lt_zero i))
      · skip
        refine wp_iconst dX10_keeps_136 ?_
        refine r_z dX10_keeps_137 rfl meX10_keeps (by first | exact Or.inl rfl | exact Or.inr rfl | omega) ?_
        have hz9 : s ≤ zld (zkr p K A f V) s 0 := by
          rw [hz, show s - l = 0 by omega]
          show s ≤ l
          omega
        exact ⟨hFz, fun w => by omega, fun _ => ⟨rfl, hKz⟩⟩
    · skip
      refine w_aload0 dX10_keeps_108 (wp_getr 458 dX10_keeps_109 fl_RX10_46 is_445 rfl (wp_bipush dX10_keeps_112 (by decide) (w_iload1 dX10_keeps_114 (wp_imul dX10_keeps_115 (w_iload2 dX10_keeps_116 (wp_iadd dX10_keeps_117 (x_iald (8 * r + l) dX10_keeps_118 is_458 (by omega) (by omega) ?_)))))))
      rw [hw l (by omega)]
      have hil := hin l (by omega)
      refine wp_if_ne 128 dX10_keeps_119 rfl ⟨by omega, by omega⟩ (fun c119 => ?_) (fun c119 => ?_)
      · skip
        refine w_iload2 dX10_keeps_128 (w_aload0 dX10_keeps_129 (wp_geti dX10_keeps_130 fl_RX10_186 is_445 ?_))
        rw [k11]
        refine wp_icmp_ne 138 dX10_keeps_133 rfl ⟨by omega, by omega⟩ ⟨by omega, by omega⟩ (fun c133 => ?_) (fun c133 => ?_)
        · skip
          refine w_aload0 dX10_keeps_138 (w_aload0 dX10_keeps_139 (wp_getr 458 dX10_keeps_140 fl_RX10_46 is_445 rfl (wp_bipush dX10_keeps_143 (by decide) (w_iload1 dX10_keeps_145 (wp_imul dX10_keeps_146 (w_iload2 dX10_keeps_147 (wp_iadd dX10_keeps_148 (x_iald (8 * r + l) dX10_keeps_149 is_458 (by omega) (by omega) ?_))))))))
          rw [hw l (by omega)]
          have hil := hin l (by omega)
          apply v_i1 (M := mX10_keeps) dX10_keeps_150 lk_RX10_198 mvX10_inverse (by decide) meX10_keeps is_445 (Nat.le_of_ble_eq_true rfl)
          · exact t_X10_inverse ⟨by omega, by omega⟩ hp k0
          intro x150 h150 hP150
          obtain ⟨eh150, ex150⟩ := hP150
          replace eh150 := eh150.symm
          subst eh150
          replace ex150 := ex150.symm
          subst ex150
          refine w_istore3 dX10_keeps_153 rfl (by decide) (wp_iconst dX10_keeps_154 (w_istore4 dX10_keeps_155 rfl (by decide) ?_))
          have hlz : zld (zkr p K A f V) s 0 = l := by
            rw [hz, show s - l = s - (l + 1) + 1 by omega]
            show (if zkr p K A f V l ≠ 0 then l else _) = _
            rw [if_pos (by omega)]
          exact L157 _ 0 l _ _ rfl (by omega) hlz (Nat.zero_le _) (fun a j n _ => hF a j n) hw rfl (fun i hi => absurd hi (Nat.not_lt_zero i))
        · skip
          refine wp_iconst dX10_keeps_136 ?_
          refine r_z dX10_keeps_137 rfl meX10_keeps (by first | exact Or.inl rfl | exact Or.inr rfl | omega) ?_
          have hz9 : s ≤ zld (zkr p K A f V) s 0 := by
            rw [hz, show s - l = 0 by omega]
            show s ≤ l
            omega
          exact ⟨hFz, fun w => by omega, fun _ => ⟨rfl, hKz⟩⟩
      · skip
        refine w_iinc2 dX10_keeps_122 rfl (by decide) (wp_goto 100 dX10_keeps_125 rfl ?_)
        refine ih100 _ (by omega) (l + 1) _ rfl (by omega) hF hw ?_
        rw [hz, show s - l = s - (l + 1) + 1 by omega]
        show (if zkr p K A f V l ≠ 0 then l else _) = _
        rw [if_neg (by omega)]
  have L2 : ∀ (zm2 : Nat) (b : Nat) (h' : zH), f - b = zm2 → (b ≤ f) → (∀ a j, ¬ (a = 458 ∧ 8 * r ≤ j ∧ j < 8 * r + 8) → h' a j = h a j) → (∀ q, q < s → h' 458 (8 * r + q) = zkr p K A b V q) → WP mX10_keeps (zMQ mX10_keeps (zKI (fun r_ h' => zFr (zFkp r) h h' ∧ (zld (zkr p K A f V) s 0 < s → r_ = 1 ∧ zKS p s (f + 1) (zupB K f (fun q => zkr p K A f V q * zinv (zkr p K A f V (zld (zkr p K A f V) s 0)) p % p)) (zupN A f (zld (zkr p K A f V) s 0)) h') ∧ (s ≤ zld (zkr p K A f V) s 0 → r_ = 0 ∧ zKS p s f K A h')))) 2 [some (vR 445), some (vI rr), some (vI (b : Int)), none, none] [] zN zGR h' := by
    intro zm2
    induction zm2 using Nat.strongRecOn with | _ zm2 ih2 => ?_
    intro b h' hzm2 hb hF hw
    subst hzm2
    have k27 : h' 445 27 = (f : Int) := by rw [hF _ _ (by omega)]; exact K1
    have hin := fun q (hq : q < s) => zkr_in hpp (K := K) (A := A) (hV q hq).2 b
    have L30 : ∀ (zm30 : Nat) (q : Nat) (h2 : zH), s - q = zm30 → (b < f) → (q ≤ s) → (∀ a j, ¬ (a = 458 ∧ 8 * r ≤ j ∧ j < 8 * r + 8) → h2 a j = h a j) → (∀ i, i < s → h2 458 (8 * r + i) = if i < q then zkr p K A (b + 1) V i else zkr p K A b V i) → WP mX10_keeps (zMQ mX10_keeps (zKI (fun r_ h' => zFr (zFkp r) h h' ∧ (zld (zkr p K A f V) s 0 < s → r_ = 1 ∧ zKS p s (f + 1) (zupB K f (fun q => zkr p K A f V q * zinv (zkr p K A f V (zld (zkr p K A f V) s 0)) p % p)) (zupN A f (zld (zkr p K A f V) s 0)) h') ∧ (s ≤ zld (zkr p K A f V) s 0 → r_ = 0 ∧ zKS p s f K A h')))) 30 [some (vR 445), some (vI rr), some (vI (b : Int)), some (vI (zkr p K A b V (A b))), some (vI (q : Int))] [] zN zGR h2 := by
      intro zm30
      induction zm30 using Nat.strongRecOn with | _ zm30 ih30 => ?_
      intro q h2 hzm30 hbf hq hF2 hw2
      subst hzm30
      obtain ⟨g1, g2, g3⟩ := K2 b hbf
      have k11 : h2 445 11 = (s : Int) := by rw [hF2 _ _ (by omega)]; exact h11
      have k0 : h2 446 0 = p := by rw [hF2 _ _ (by omega)]; exact hp0
      have hfi := hin (A b) g2
      refine w_iload4 dX10_keeps_30 (w_aload0 dX10_keeps_32 (wp_geti dX10_keeps_33 fl_RX10_186 is_445 ?_))
      rw [k11]
      refine wp_icmp_ge 92 dX10_keeps_36 rfl ⟨by omega, by omega⟩ ⟨by omega, by omega⟩ (fun c36 => ?_) (fun c36 => ?_)
      · skip
        refine w_iinc2 dX10_keeps_92 rfl (by decide) (wp_goto 2 dX10_keeps_95 rfl ?_)
        refine w_forget3 ?_
        refine w_forget4 ?_
        refine ih2 _ (by omega) (b + 1) _ rfl (by omega) hF2 (fun q hq => ?_)
        rw [hw2 q hq]
        by_cases w : zkr p K A b V (A b) = 0
        · rw [zkr_y w, ite_self]
        · rw [if_pos (by omega)]
      · skip
        refine w_iload3 dX10_keeps_39 ?_
        refine wp_if_eq 92 dX10_keeps_40 rfl ⟨by omega, by omega⟩ (fun c40 => ?_) (fun c40 => ?_)
        · skip
          refine w_iinc2 dX10_keeps_92 rfl (by decide) (wp_goto 2 dX10_keeps_95 rfl ?_)
          refine w_forget3 ?_
          refine w_forget4 ?_
          refine ih2 _ (by omega) (b + 1) _ rfl (by omega) hF2 (fun q hq => ?_)
          rw [hw2 q hq]
          by_cases w : zkr p K A b V (A b) = 0
          · rw [zkr_y w, ite_self]
          · rw [if_pos (by omega)]
        · skip
          refine w_aload0 dX10_keeps_43 (wp_getr 458 dX10_keeps_44 fl_RX10_46 is_445 rfl (wp_bipush dX10_keeps_47 (by decide) (w_iload1 dX10_keeps_49 (wp_imul dX10_keeps_50 (w_iload4 dX10_keeps_51 (wp_iadd dX10_keeps_53 (w_aload0 dX10_keeps_54 (w_aload0 dX10_keeps_55 (wp_getr 458 dX10_keeps_56 fl_RX10_46 is_445 rfl ?_)))))))))
          refine wp_bipush dX10_keeps_59 (by decide) (w_iload1 dX10_keeps_61 (wp_imul dX10_keeps_62 (w_iload4 dX10_keeps_63 (wp_iadd dX10_keeps_65 (x_iald (8 * r + q) dX10_keeps_66 is_458 (by omega) (by omega) ?_)))))
          rw [hw2 q (by omega), if_neg (Nat.lt_irrefl q)]
          have hiq := hin q (by omega)
          refine w_iload3 dX10_keeps_67 (w_aload0 dX10_keeps_68 (wp_getr 459 dX10_keeps_69 fl_RX10_49 is_445 rfl (wp_bipush dX10_keeps_72 (by decide) (w_iload2 dX10_keeps_74 (wp_imul dX10_keeps_75 (w_iload4 dX10_keeps_76 (wp_iadd dX10_keeps_78 (x_iald (8 * b + q) dX10_keeps_79 is_459 (by omega) (by omega) ?_))))))))
          rw [hF2 459 _ (by omega), (g3 q (by omega)).1]
          have hkq := (g3 q (by omega)).2
          have hmm := z_mb hfi hkq hp.2
          refine wp_imul dX10_keeps_80 (wp_isub dX10_keeps_81 ?_)
          apply v_i1 (M := mX10_keeps) dX10_keeps_82 lk_RX10_128 mvX10_mod (by decide) meX10_keeps is_445 (Nat.le_of_ble_eq_true rfl)
          · exact t_X10_mod ⟨by omega, by omega⟩ hp k0
          intro x82 h82 hP82
          obtain ⟨eh82, ex82⟩ := hP82
          replace eh82 := eh82.symm
          subst eh82
          replace ex82 := ex82.symm
          subst ex82
          refine x_iast (8 * r + q) dX10_keeps_85 is_458 (by omega) (by omega) (w_iinc4 dX10_keeps_86 rfl (by decide) (wp_goto 30 dX10_keeps_89 rfl ?_))
          refine ih30 _ (by omega) (q + 1) _ rfl hbf (by omega) (fun a j n => by rw [zup_o (by omega)]; exact hF2 a j n) (fun i hi => ?_)
          by_cases w : i = q
          · rw [w, zup_s, if_pos (by omega), zkr_n (by omega)]
          · rw [zup_o (by omega), hw2 i hi]
            by_cases w2 : i < q
            · rw [if_pos w2, if_pos (by omega)]
            · rw [if_neg w2, if_neg (by omega)]
    refine w_iload2 dX10_keeps_2 (w_aload0 dX10_keeps_3 (wp_geti dX10_keeps_4 fl_RX10_195 is_445 ?_))
    rw [k27]
    refine wp_icmp_ge 98 dX10_keeps_7 rfl ⟨by omega, by omega⟩ ⟨by omega, by omega⟩ (fun c7 => ?_) (fun c7 => ?_)
    · skip
      refine wp_iconst dX10_keeps_98 (w_istore2 dX10_keeps_99 rfl (by decide) ?_)
      rw [show b = f by omega] at hw
      exact L100 _ 0 _ rfl (Nat.zero_le _) hF hw rfl
    · skip
      refine w_aload0 dX10_keeps_10 (wp_getr 458 dX10_keeps_11 fl_RX10_46 is_445 rfl (wp_bipush dX10_keeps_14 (by decide) (w_iload1 dX10_keeps_16 (wp_imul dX10_keeps_17 (w_aload0 dX10_keeps_18 (wp_getr 460 dX10_keeps_19 fl_RX10_52 is_445 rfl (w_iload2 dX10_keeps_22 (x_iald b dX10_keeps_23 is_460 rfl (by omega) ?_))))))))
      have hbf : b < f := by omega
      obtain ⟨g1, g2, g3⟩ := K2 b hbf
      rw [hF 460 b (by omega), g1]
      refine wp_iadd dX10_keeps_24 (x_iald (8 * r + A b) dX10_keeps_25 is_458 (by omega) (by omega) ?_)
      rw [hw _ g2]
      refine w_istore3 dX10_keeps_26 rfl (by decide) (wp_iconst dX10_keeps_27 (w_istore4 dX10_keeps_28 rfl (by decide) ?_))
      exact L30 _ 0 _ rfl (by omega) (Nat.zero_le _) hF (fun i hi => by rw [if_neg (Nat.not_lt_zero i)]; exact hw i hi)
  refine wp_iconst dX10_keeps_0 (w_istore2 dX10_keeps_1 rfl (by decide) ?_)
  exact L2 _ 0 _ rfl (Nat.zero_le _) (fun a j n => rfl) (fun q hq => (hV q hq).1)
set_option maxRecDepth 100000 in
set_option maxHeartbeats 4000000 in
theorem t_X10_independent {h : zH} {ff p : Int} {fr s : Nat} (hf : ff = fr) (hfs : fr ≤ s) (hs8 : s ≤ 8) (hp : 5 ≤ p ∧ p ≤ 31) (hp0 : h 446 0 = p) (h11 : h 445 11 = (s : Int)) {V : Nat → Nat → Int} (hV : ∀ r, r < s → ∀ q, q < s → h 458 (8 * r + q) = V r q ∧ 0 ≤ V r q ∧ V r q < p) : CI yX10_independent mX10_independent [vR 445, vI ff] h (fun r_ h' => zFr zFin h h' ∧ r_ = (zmk (zIp p s V fr) s : Int)) := by
  refine inV [some (vR 445), some (vI ff), none, none] mvX10_independent rfl (Nat.le_of_ble_eq_true rfl) rfl ?_
  have L9 : ∀ (zm9 : Nat) (r : Nat) (h' : zH) (m vr : Int), s - r = zm9 → (fr ≤ r ∧ r ≤ s) → (vr = (r : Int)) → (m = (zmk (zIp p s V fr) r : Int)) → (zFr zFin h h') → (∀ r', r ≤ r' → r' < s → ∀ q, q < s → h' 458 (8 * r' + q) = V r' q) → (zKS p s (zMs p s (fun n => V (fr + n)) (r - fr)).1 (zMs p s (fun n => V (fr + n)) (r - fr)).2.1 (zMs p s (fun n => V (fr + n)) (r - fr)).2.2 h') → WP mX10_independent (zMQ mX10_independent (zKI (fun r_ h' => zFr zFin h h' ∧ r_ = (zmk (zIp p s V fr) s : Int)))) 9 [some (vR 445), some (vI ff), some (vI m), some (vI vr)] [] zN zGR h' := by
    intro zm9
    induction zm9 using Nat.strongRecOn with | _ zm9 ih9 => ?_
    intro r h' m vr hzm9 hr hvr hm hF hW hK
    subst hzm9
    have k11 : h' 445 11 = (s : Int) := by rw [hF _ _ (by unfold zFin; omega)]; exact h11
    have k0 : h' 446 0 = p := by rw [hF _ _ (by unfold zFin; omega)]; exact hp0
    have hmb := zmk_b8 (P := zIp p s V fr) (i := r) (by omega)
    have hle := zMs_le (p := p) (s := s) (V := fun n => V (fr + n)) (r - fr)
    have L33 : ∀ (h2 : zH) (w : Int), (r < s) → (zFr zFin h h2) → (∀ r', r + 1 ≤ r' → r' < s → ∀ q, q < s → h2 458 (8 * r' + q) = V r' q) → ((w = 0 ∧ ¬ zMfl p s (fun n => V (fr + n)) (r - fr)) ∨ (w = 1 * 2 ^ ((r : Nat) : Int).toNat ∧ zMfl p s (fun n => V (fr + n)) (r - fr))) → (zKS p s (zMs p s (fun n => V (fr + n)) (r - fr + 1)).1 (zMs p s (fun n => V (fr + n)) (r - fr + 1)).2.1 (zMs p s (fun n => V (fr + n)) (r - fr + 1)).2.2 h2) → WP mX10_independent (zMQ mX10_independent (zKI (fun r_ h' => zFr zFin h h' ∧ r_ = (zmk (zIp p s V fr) s : Int)))) 33 [some (vR 445), some (vI ff), none, some (vI vr)] [vI w, vI m] zN zGR h2 := by
      intro h2 w hrs hF2 hW2 hw hK2
      have hwb : 0 ≤ w ∧ w < 2147483648 := by
        rcases hw with ⟨a, -⟩ | ⟨a, -⟩
        · omega
        · rw [a]; exact z_1s r (by omega)
      refine wp_ior dX10_independent_33 ⟨by omega, by omega⟩ hwb (w_istore2 dX10_independent_34 rfl (by decide) (w_iinc3 dX10_independent_35 rfl (by decide) (wp_goto 9 dX10_independent_38 rfl ?_)))
      have e1 : r + 1 - fr = r - fr + 1 := by omega
      rcases hw with ⟨a, b⟩ | ⟨a, b⟩
      · have hn : ¬ zIp p s V fr r := fun q => b q.2
        refine ih9 _ (by omega) (r + 1) _ _ _ rfl (by omega) (by omega) ?_ hF2 hW2 ?_
        · rw [a, hm, z_or0, zmk_n (P := zIp p s V fr) hn]
        · rw [e1]
          exact hK2
      · have hy : zIp p s V fr r := ⟨hr.1, b⟩
        refine ih9 _ (by omega) (r + 1) _ _ _ rfl (by omega) (by omega) ?_ hF2 hW2 ?_
        · rw [a, hm, z_or1, zmk_or, zmk_y (P := zIp p s V fr) hy]
        · rw [e1]
          exact hK2
    refine w_iload3 dX10_independent_9 (w_aload0 dX10_independent_10 (wp_geti dX10_independent_11 fl_RX10_186 is_445 ?_))
    rw [k11]
    refine wp_icmp_ge 41 dX10_independent_14 rfl ⟨by omega, by omega⟩ ⟨by omega, by omega⟩ (fun c14 => ?_) (fun c14 => ?_)
    · skip
      refine w_iload2 dX10_independent_41 ?_
      refine r_i dX10_independent_42 rfl meX10_independent ?_
      exact ⟨hF, by rw [hm, show r = s by omega]⟩
    · skip
      refine w_iload2 dX10_independent_17 (w_aload0 dX10_independent_18 (w_iload3 dX10_independent_19 ?_))
      apply v_i1 (M := mX10_independent) dX10_independent_20 lk_RX10_201 mvX10_keeps (by decide) meX10_independent is_445 (Nat.le_of_ble_eq_true rfl)
      · exact t_X10_keeps (r := r) hvr (by omega) hs8 hp k0 k11 (by omega) hK (V := V (fr + (r - fr))) (fun q hq => by rw [show fr + (r - fr) = r by omega, hW r (Nat.le_refl _) (by omega) q hq]; exact ⟨rfl, (hV r (by omega) q hq).2⟩)
      intro x20 h20 hP20
      obtain ⟨f20, a20, b20⟩ := hP20
      have hF20 : zFr zFin h h20 := fun a j n => by
        rw [f20 a j (fun q => n (by unfold zFkp at q; unfold zFin; omega))]
        exact hF a j n
      have hW20 : ∀ r', r + 1 ≤ r' → r' < s → ∀ q, q < s → h20 458 (8 * r' + q) = V r' q := fun r' h1 h2 q hq => by
        rw [f20 _ _ (by unfold zFkp; omega)]
        exact hW r' (by omega) h2 q hq
      have hx20 : (x20 = 0 ∧ ¬ zMfl p s (fun n => V (fr + n)) (r - fr)) ∨ (x20 = 1 ∧ zMfl p s (fun n => V (fr + n)) (r - fr)) := by
        by_cases w : zMfl p s (fun n => V (fr + n)) (r - fr)
        · exact Or.inr ⟨(a20 w).1, w⟩
        · exact Or.inl ⟨(b20 (Nat.le_of_not_lt w)).1, w⟩
      have hK20 : zKS p s (zMs p s (fun n => V (fr + n)) (r - fr + 1)).1 (zMs p s (fun n => V (fr + n)) (r - fr + 1)).2.1 (zMs p s (fun n => V (fr + n)) (r - fr + 1)).2.2 h20 := by
        by_cases w : zMfl p s (fun n => V (fr + n)) (r - fr)
        · rw [zMs_y w]
          exact (a20 w).2
        · rw [zMs_n w]
          exact (b20 (Nat.le_of_not_lt w)).2
      have hx20b : x20 = 0 ∨ x20 = 1 := hx20.imp (fun q => q.1) (fun q => q.1)
      refine wp_if_eq 32 dX10_independent_23 rfl ⟨by omega, by omega⟩ (fun c23 => ?_) (fun c23 => ?_)
      · skip
        refine wp_iconst dX10_independent_32 ?_
        refine w_forget2 ?_
        first
        | exact L33 _ _ (by omega) hF20 hW20 (Or.inr ⟨by rw [hvr], (hx20.resolve_left (fun q => by have := q.1; omega)).2⟩) hK20
        | exact L33 _ _ (by omega) hF20 hW20 (Or.inl ⟨rfl, (hx20.resolve_right (fun q => by have := q.1; omega)).2⟩) hK20
      · skip
        refine wp_iconst dX10_independent_26 (w_iload3 dX10_independent_27 (wp_ishl dX10_independent_28 (by omega) (wp_goto 33 dX10_independent_29 rfl ?_)))
        refine w_forget2 ?_
        first
        | exact L33 _ _ (by omega) hF20 hW20 (Or.inr ⟨by rw [hvr], (hx20.resolve_left (fun q => by have := q.1; omega)).2⟩) hK20
        | exact L33 _ _ (by omega) hF20 hW20 (Or.inl ⟨rfl, (hx20.resolve_right (fun q => by have := q.1; omega)).2⟩) hK20
  refine w_aload0 dX10_independent_0 (wp_iconst dX10_independent_1 (wp_puti dX10_independent_2 fl_RX10_195 is_445 rfl (wp_iconst dX10_independent_5 (w_istore2 dX10_independent_6 rfl (by decide) (w_iload1 dX10_independent_7 (w_istore3 dX10_independent_8 rfl (by decide) ?_))))))
  refine L9 _ fr _ _ _ rfl (by omega) hf ?_ (fun a j n => ?_) (fun r' _ h2 q hq => by rw [zup_o (by omega)]; exact (hV r' h2 q hq).1) ?_
  · rw [zmk_out (P := zIp p s V fr) (n := 0) fr (Nat.zero_le _) (fun i _ h2 q => by have := q.1; omega)]
    rfl
  · unfold zFin at n
    rw [zup_o (by omega)]
  · rw [Nat.sub_self]
    exact ⟨zup_s, fun b hb => absurd hb (Nat.not_lt_zero b)⟩
