
theorem ztop_hi {f : Nat → Int} : ∀ n j, ztop f n < j → j < n → f j = 0 := by
  intro n
  induction n with
  | zero => intro j _ h; exact absurd h (Nat.not_lt_zero j)
  | succ n ih =>
    intro j h1 h2
    have h1' : (if n = 0 then 0 else if f n = 0 then ztop f n else n) < j := h1
    by_cases e : n = 0
    · rw [if_pos e] at h1'; omega
    · rw [if_neg e] at h1'
      by_cases w : f n = 0
      · rw [if_pos w] at h1'
        by_cases q : j = n
        · rw [q]; exact w
        · exact ih j h1' (by omega)
      · rw [if_neg w] at h1'; omega
theorem ztop_is {f : Nat → Int} : ∀ n d, d < n → (0 < d → f d ≠ 0) → (∀ j, d < j → j < n → f j = 0) → ztop f n = d := by
  intro n
  induction n with
  | zero => intro d h; exact absurd h (Nat.not_lt_zero d)
  | succ n ih =>
    intro d hd h0 h1
    show (if n = 0 then 0 else if f n = 0 then ztop f n else n) = d
    by_cases e : n = 0
    · rw [if_pos e]; omega
    · rw [if_neg e]
      by_cases q : d = n
      · rw [if_neg (by rw [← q]; exact h0 (by omega)), q]
      · rw [if_pos (h1 n (by omega) (by omega))]
        exact ih d (by omega) h0 (fun j a b => h1 j a (by omega))
theorem zhor_z {t p : Int} : ∀ (n : Nat) (f : Nat → Int), (∀ j, j < n → f j = 0) → zhor t p n f = 0 := by
  intro n
  induction n with
  | zero => intro f _; rfl
  | succ n ih =>
    intro f h
    show (zhor t p n (fun e => f (e + 1)) * t + f 0) % p = 0
    rw [ih _ (fun j hj => h (j + 1) (by omega)), h 0 (by omega), Int.zero_mul, Int.add_zero, Int.zero_emod]
/-- a polynomial that isn't 0, with numbers of the field -/
def znz (p : Int) (f : Nat → Int) : Prop := (∀ e, e < 49 → 0 ≤ f e ∧ f e < p) ∧ f (ztop f 49) ≠ 0
theorem zhor_top {t p : Int} {f : Nat → Int} (hf : ∀ e, e < 49 → 0 ≤ f e ∧ f e < p) {d : Nat} (hd : d < 49) (h : ∀ j, d < j → j < 49 → f j = 0) : zhor t p (49 - d) (fun j => f (j + d)) = f d := by
  rw [show 49 - d = 48 - d + 1 by omega]
  show (zhor t p (48 - d) (fun j => f (j + 1 + d)) * t + f (0 + d)) % p = f d
  rw [zhor_z (48 - d) _ (fun j hj => h _ (by omega) (by omega)), Int.zero_mul, Int.zero_add, Nat.zero_add, Int.emod_eq_of_lt (hf d hd).1 (hf d hd).2]
theorem znz_dv {p t : Int} (hp : 0 < p) {f : Nat → Int} (hf : znz p f) (h0 : zhor t p 49 f = 0) : 0 < ztop f 49 ∧ znz p (zdv t p 49 f) ∧ ztop (zdv t p 49 f) 49 + 1 = ztop f 49 := by
  obtain ⟨h1, h2⟩ := hf
  have hd := ztop_lt (f := f) 49 (by decide)
  have hhi := fun j a b => ztop_hi (f := f) 49 j a b
  have hd0 : 0 < ztop f 49 := by
    refine Nat.pos_of_ne_zero (fun e => ?_)
    have := zhor_top (t := t) h1 (d := 0) (by decide) (fun j a b => hhi j (by omega) b)
    rw [e] at h2
    have h3 : zhor t p 49 f = f 0 := this
    rw [h3] at h0
    exact h2 h0
  have hin : ∀ e, e < 49 → 0 ≤ zdv t p 49 f e ∧ zdv t p 49 f e < p := zdv_in hp
  have hv : zdv t p 49 f (ztop f 49 - 1) = f (ztop f 49) := by
    unfold zdv
    rw [if_pos (by omega), show 49 - 1 - (ztop f 49 - 1) = 49 - ztop f 49 by omega]
    rw [zhor_congr (49 - ztop f 49) (fun j => f (j + (ztop f 49 - 1) + 1)) (fun j => f (j + ztop f 49)) (fun j _ => by rw [show j + (ztop f 49 - 1) + 1 = j + ztop f 49 by omega])]
    exact zhor_top h1 hd hhi
  have ht : ztop (zdv t p 49 f) 49 = ztop f 49 - 1 := ztop_is 49 _ (by omega) (fun _ => by rw [hv]; exact h2) (fun j a b => by
    unfold zdv
    rw [if_pos b]
    exact zhor_z _ _ (fun i hi => hhi _ (by omega) (by omega)))
  exact ⟨hd0, ⟨hin, by rw [ht, hv]; exact h2⟩, by omega⟩
theorem znz_congr {p : Int} {f g : Nat → Int} (h : ∀ e, e < 49 → f e = g e) (hf : znz p f) : znz p g := by
  have e1 := ztop_congr 49 h
  have e2 := ztop_lt (f := f) 49 (by decide)
  exact ⟨fun e he => by rw [← h e he]; exact hf.1 e he, by rw [← e1, ← h _ e2]; exact hf.2⟩
theorem znz_str {p t : Int} (hp : 0 < p) : ∀ k f, znz p f → znz p (zstr t p 49 k f).2 := by
  intro k
  induction k with
  | zero => intro f h; exact h
  | succ k ih =>
    intro f h
    by_cases w : zhor t p 49 f = 0
    · rw [zstr_s w]
      exact ih _ (znz_dv hp h w).2.1
    · rw [zstr_n w]
      exact h
theorem znz_rs {p : Int} (hp : 0 < p) {c : Nat → Nat → Int} {W : Nat → Int} (h : znz p W) : ∀ t, znz p (zrs p c W t) := by
  intro t
  induction t with
  | zero => exact h
  | succ t ih =>
    by_cases w : zxt p c W t
    · rw [zrs_y w]; exact znz_str hp 49 _ ih
    · rw [zrs_n w]; exact ih
def zFred (a j : Nat) : Prop := zFkr a j ∨ a = 457 ∨ (a = 445 ∧ j = 25)

theorem zstr_n0 {c p : Int} {N k : Nat} {f : Nat → Int} (h : zhor c p N f ≠ 0) : (zstr c p N k f).2 = f := by
  cases k with
  | zero => rfl
  | succ k => rw [zstr_n h]

set_option maxRecDepth 100000 in
set_option maxHeartbeats 4000000 in
theorem t_X10_reduces {h : zH} {p : Int} {c : Nat → Nat → Int} (hs : zSt p c) (hR : zMr p c h) (hO : zMo p c h) {W : Nat → Int} (hW : znz p W) (h456 : ∀ e, e < 49 → h 456 e = W e ∧ h 457 e = W e) : CV yX10_reduces mX10_reduces [vR 445] h (fun h' => zFr zFred h h' ∧ h' 445 32 = 1 ∧ zKo p c h' ∧ h' 445 25 = (zmk (zxt p c W) p.toNat : Int) ∧ ∀ e, e < 49 → h' 457 e = zmon p (zrs p c W p.toNat) e) := by
  refine inV [some (vR 445), none, none] mvX10_reduces rfl (Nat.le_of_ble_eq_true rfl) rfl ?_
  have hp := hs.p
  have hpp : 0 < p := by omega
  have hnz := znz_rs hpp (c := c) hW
  have L121 : ∀ (zm121 : Nat) (e : Nat) (h' : zH) (by_ : Int), 49 - e = zm121 → (e ≤ 49) → (zFr zFred h h') → (h' 445 32 = 1) → (zKo p c h') → (h' 445 25 = (zmk (zxt p c W) p.toNat : Int)) → (by_ = zinv (zrs p c W p.toNat (ztop (zrs p c W p.toNat) 49)) p) → (∀ i, i < 49 → h' 457 i = if i < e then zmon p (zrs p c W p.toNat) i else zrs p c W p.toNat i) → WP mX10_reduces (zMQ mX10_reduces (zKV (fun h' => zFr zFred h h' ∧ h' 445 32 = 1 ∧ zKo p c h' ∧ h' 445 25 = (zmk (zxt p c W) p.toNat : Int) ∧ ∀ e, e < 49 → h' 457 e = zmon p (zrs p c W p.toNat) e))) 121 [some (vR 445), some (vI by_), some (vI (e : Int))] [] zN zGR h' := by
    intro zm121
    induction zm121 using Nat.strongRecOn with | _ zm121 ih121 => ?_
    intro e h' by_ hzm121 he hF h32 hk h25 hby hz
    subst hzm121
    have k0 : h' 446 0 = p := by rw [hF _ _ (by unfold zFred zFkr; omega)]; exact hR.1
    have hbb := zinvS_in (zrs p c W p.toNat (ztop (zrs p c W p.toNat) 49)) p (p.toNat - 1)
    have hbb2 : 0 ≤ by_ ∧ by_ < p := by rw [hby]; unfold zinv; omega
    refine w_iload2 dX10_reduces_121 (wp_bipush dX10_reduces_122 (by decide) ?_)
    refine wp_icmp_ge 152 dX10_reduces_124 rfl ⟨by omega, by omega⟩ ⟨by omega, by omega⟩ (fun c124 => ?_) (fun c124 => ?_)
    · skip
      refine r_v dX10_reduces_152 rfl meX10_reduces ?_
      refine ⟨hF, h32, hk, h25, fun i hi => ?_⟩
      rw [hz i hi, if_pos (by omega)]
    · skip
      refine w_aload0 dX10_reduces_127 (wp_getr 457 dX10_reduces_128 fl_RX10_43 is_445 rfl (w_iload2 dX10_reduces_131 (w_aload0 dX10_reduces_132 (wp_getr 457 dX10_reduces_133 fl_RX10_43 is_445 rfl (w_iload2 dX10_reduces_136 (x_iald e dX10_reduces_137 is_457 rfl (by omega) ?_))))))
      rw [hz e (by omega), if_neg (Nat.lt_irrefl e)]
      have hzi := (hnz p.toNat).1 e (by omega)
      have hmm := z_mb hzi hbb2 hp.2
      refine w_iload1 dX10_reduces_138 (wp_imul dX10_reduces_139 (w_aload0 dX10_reduces_140 ?_))
      apply v_i0 (M := mX10_reduces) dX10_reduces_141 lk_RX10_76 mvX10_p (by decide) meX10_reduces is_445 (Nat.le_of_ble_eq_true rfl)
      · exact t_X10_p k0
      intro x141 h141 hP141
      obtain ⟨eh141, ex141⟩ := hP141
      replace eh141 := eh141.symm
      subst eh141
      replace ex141 := ex141.symm
      subst ex141
      refine wp_irem dX10_reduces_144 (by omega) (by omega) (x_iast e dX10_reduces_145 is_457 rfl (by omega) (w_iinc2 dX10_reduces_146 rfl (by decide) (wp_goto 121 dX10_reduces_149 rfl ?_)))
      refine ih121 _ (by omega) (e + 1) _ _ rfl (by omega) (hF.up (by unfold zFred; omega)) (by rw [zup_o (by omega)]; exact h32) ?_ (by rw [zup_o (by omega)]; exact h25) hby (fun i hi => ?_)
      · unfold zKo at hk ⊢
        rw [zup_o (by omega), zup_o (by omega)]
        exact ⟨hk.1, hk.2.1, fun t ht => by rw [zup_o (by omega)]; exact hk.2.2 t ht⟩
      · by_cases w : i = e
        · rw [w, zup_s, if_pos (by omega), hby]
          rfl
        · rw [zup_o (by omega), hz i hi]
          by_cases w2 : i < e
          · rw [if_pos w2, if_pos (by omega)]
          · rw [if_neg w2, if_neg (by omega)]
  have L11 : ∀ (zm11 : Nat) (t : Nat) (h' : zH), p.toNat - t = zm11 → ((t : Int) ≤ p) → (zFr zFred h h') → (h' 445 32 = 1) → (zKo p c h') → (h' 445 25 = (zmk (zxt p c W) t : Int)) → (∀ e, e < 49 → h' 457 e = zrs p c W t e) → WP mX10_reduces (zMQ mX10_reduces (zKV (fun h' => zFr zFred h h' ∧ h' 445 32 = 1 ∧ zKo p c h' ∧ h' 445 25 = (zmk (zxt p c W) p.toNat : Int) ∧ ∀ e, e < 49 → h' 457 e = zmon p (zrs p c W p.toNat) e))) 11 [some (vR 445), some (vI (t : Int)), none] [] zN zGR h' := by
    intro zm11
    induction zm11 using Nat.strongRecOn with | _ zm11 ih11 => ?_
    intro t h' hzm11 ht hF h32 hk h25 hz
    subst hzm11
    have k0 : h' 446 0 = p := by rw [hF _ _ (by unfold zFred zFkr; omega)]; exact hR.1
    have hw6 : ∀ e, e < 49 → h' 456 e = W e := fun e he => by rw [hF _ _ (by unfold zFred zFkr; omega)]; exact (h456 e he).1
    have hmb := zmk_b8 (P := zxt p c W) (i := t) (by omega)
    have hsm := zmk_b8 (P := fun t => 0 < zcn p c (t : Int)) (i := p.toNat) (by omega)
    have hzb := zhor_in (t := (t : Int)) hpp 49 W
    have hbit := fun (w : (t : Int) < p) => zmk_bit (P := fun t => 0 < zcn p c (t : Int)) p.toNat t (by omega)
    have hbm : zmk (fun t => 0 < zcn p c (t : Int)) p.toNat / 2 ^ t % 2 < 2 := Nat.mod_lt _ (by decide)
    have L47 : ∀ (u : Int), ((t : Int) < p) → ((u = 0 ∧ ¬ zxt p c W t) ∨ (u = 1 ∧ zxt p c W t)) → WP mX10_reduces (zMQ mX10_reduces (zKV (fun h' => zFr zFred h h' ∧ h' 445 32 = 1 ∧ zKo p c h' ∧ h' 445 25 = (zmk (zxt p c W) p.toNat : Int) ∧ ∀ e, e < 49 → h' 457 e = zmon p (zrs p c W p.toNat) e))) 47 [some (vR 445), some (vI (t : Int)), none] [vI u] zN zGR h' := by
      intro u htp hu0
      have L68 : ∀ (zm68 : Nat) (K : Nat) (h2 : zH) (g : Nat → Int), K = zm68 → (zFr zFred h h2) → (h2 445 32 = 1) → (zKo p c h2) → (h2 445 25 = (zmk (zxt p c W) (t + 1) : Int)) → (∀ e, e < 49 → h2 457 e = g e) → (znz p g) → ((u = 0 ∧ True ∧ ∀ e, e < 49 → g e = zrs p c W (t + 1) e) ∨ (u = 1 ∧ ztop g 49 < K ∧ ∀ e, e < 49 → (zstr (t : Int) p 49 K g).2 e = zrs p c W (t + 1) e)) → WP mX10_reduces (zMQ mX10_reduces (zKV (fun h' => zFr zFred h h' ∧ h' 445 32 = 1 ∧ zKo p c h' ∧ h' 445 25 = (zmk (zxt p c W) p.toNat : Int) ∧ ∀ e, e < 49 → h' 457 e = zmon p (zrs p c W p.toNat) e))) 68 [some (vR 445), some (vI (t : Int)), some (vI u)] [] zN zGR h2 := by
        intro zm68
        induction zm68 using Nat.strongRecOn with | _ zm68 ih68 => ?_
        intro K h2 g hzm68 hF2 h322 hk2 h252 hg hgz hu
        subst hzm68
        have k02 : h2 446 0 = p := by rw [hF2 _ _ (by unfold zFred zFkr; omega)]; exact hR.1
        have hu2 : u = 0 ∨ u = 1 := hu.imp (fun q => q.1) (fun q => q.1)
        have hh2 : zhor (t : Int) p 49 (h2 457) = zhor (t : Int) p 49 g := zhor_congr 49 _ _ hg
        have hzb2 := zhor_in (t := (t : Int)) hpp 49 g
        have hgb : ∀ e, e < 49 → 0 ≤ h2 457 e ∧ h2 457 e < p := fun e he => by rw [hg e he]; exact hgz.1 e he
        refine w_iload2 dX10_reduces_68 ?_
        refine wp_if_eq 96 dX10_reduces_69 rfl ⟨by omega, by omega⟩ (fun c69 => ?_) (fun c69 => ?_)
        · skip
          refine w_iinc1 dX10_reduces_96 rfl (by decide) (wp_goto 11 dX10_reduces_99 rfl ?_)
          refine w_forget2 ?_
          have hfin : ∀ e, e < 49 → h2 457 e = zrs p c W (t + 1) e := by
            rcases hu with ⟨a, b, d⟩ | ⟨a, b, d⟩
            · intro e he
              rw [hg e he]; exact d e he
            · have hn0 : zhor (t : Int) p 49 g ≠ 0 := by
                first
                | (exfalso; exact absurd (show u = 0 by first | exact c69 | omega) (by omega))
                | (intro q; rw [← hh2] at q; exact c81 q)
              intro e he
              have := d e he
              rw [zstr_n0 hn0] at this
              rw [hg e he]
              exact this
          refine ih11 _ (by omega) (t + 1) _ rfl (by omega) hF2 h322 hk2 h252 hfin
        · skip
          refine w_aload0 dX10_reduces_72 (w_aload0 dX10_reduces_73 (wp_getr 457 dX10_reduces_74 fl_RX10_43 is_445 rfl (w_iload1 dX10_reduces_77 ?_)))
          apply v_i2 (M := mX10_reduces) dX10_reduces_78 lk_RX10_241 mvX10_valueAt (by decide) meX10_reduces is_445 (Nat.le_of_ble_eq_true rfl)
          · exact t_X10_valueAt is_457 ⟨by omega, by omega⟩ hp k02 hgb
          intro x78 h78 hP78
          obtain ⟨eh78, ex78⟩ := hP78
          replace eh78 := eh78.symm
          subst eh78
          replace ex78 := ex78.symm
          subst ex78
          refine wp_if_ne 96 dX10_reduces_81 rfl ⟨by omega, by omega⟩ (fun c81 => ?_) (fun c81 => ?_)
          · skip
            refine w_iinc1 dX10_reduces_96 rfl (by decide) (wp_goto 11 dX10_reduces_99 rfl ?_)
            refine w_forget2 ?_
            have hfin : ∀ e, e < 49 → h2 457 e = zrs p c W (t + 1) e := by
              rcases hu with ⟨a, b, d⟩ | ⟨a, b, d⟩
              · intro e he
                rw [hg e he]; exact d e he
              · have hn0 : zhor (t : Int) p 49 g ≠ 0 := by
                  first
                  | (exfalso; exact absurd (show u = 0 by first | exact c69 | omega) (by omega))
                  | (intro q; rw [← hh2] at q; exact c81 q)
                intro e he
                have := d e he
                rw [zstr_n0 hn0] at this
                rw [hg e he]
                exact this
            refine ih11 _ (by omega) (t + 1) _ rfl (by omega) hF2 h322 hk2 h252 hfin
          · skip
            refine w_aload0 dX10_reduces_84 (w_aload0 dX10_reduces_85 (wp_getr 457 dX10_reduces_86 fl_RX10_43 is_445 rfl (w_iload1 dX10_reduces_89 ?_)))
            apply v_v2 (M := mX10_reduces) dX10_reduces_90 lk_RX10_248 mvX10_divides (by decide) meX10_reduces is_445 (Nat.le_of_ble_eq_true rfl)
            · exact t_X10_divides is_457 (by omega) ⟨by omega, by omega⟩ hp k02 hgb
            intro h90 hP90
            replace hP90 := hP90.symm
            subst hP90
            refine wp_goto 68 dX10_reduces_93 rfl ?_
            have h0 : zhor (t : Int) p 49 g = 0 := by rw [← hh2]; exact c81
            obtain ⟨z1, z2, z3⟩ := znz_dv hpp hgz h0
            have hu1 : u = 1 ∧ ztop g 49 < K ∧ ∀ e, e < 49 → (zstr (t : Int) p 49 K g).2 e = zrs p c W (t + 1) e := hu.resolve_left (fun q => by have := q.1; omega)
            obtain ⟨K', hK'⟩ : ∃ K', K = K' + 1 := ⟨K - 1, by omega⟩
            have hcg : ∀ e, e < 49 → zdv (t : Int) p 49 (h2 457) e = zdv (t : Int) p 49 g e := fun e he => zdv_congr hg e he
            refine ih68 _ (by omega) K' _ (zdv (t : Int) p 49 g) rfl (fun a j n => ?_) ?_ ?_ ?_ (fun e he => by rw [zfl_i he]; exact hcg e he) z2 (Or.inr ⟨hu1.1, by omega, fun e he => ?_⟩)
            · have n2 := n
              unfold zFred zFkr at n2
              rw [zfl_o (by omega)]; exact hF2 a j n
            · rw [zfl_o (by omega)]; exact h322
            · unfold zKo at hk2 ⊢
              rw [zfl_o (by omega), zfl_o (by omega)]
              exact ⟨hk2.1, hk2.2.1, fun t ht => by rw [zfl_o (by omega)]; exact hk2.2.2 t ht⟩
            · rw [zfl_o (by omega)]; exact h252
            · have := hu1.2.2 e he
              rw [hK', zstr_s h0] at this
              exact this
      have L64 : ∀ (w : Int), ((w = 0 ∧ ¬ zxt p c W t) ∨ (w = 1 * 2 ^ ((t : Nat) : Int).toNat ∧ zxt p c W t)) → WP mX10_reduces (zMQ mX10_reduces (zKV (fun h' => zFr zFred h h' ∧ h' 445 32 = 1 ∧ zKo p c h' ∧ h' 445 25 = (zmk (zxt p c W) p.toNat : Int) ∧ ∀ e, e < 49 → h' 457 e = zmon p (zrs p c W p.toNat) e))) 64 [some (vR 445), some (vI (t : Int)), some (vI u)] [vI w, vI (zmk (zxt p c W) t : Int), vR 445] zN zGR h' := by
        intro w hw
        have hwb : 0 ≤ w ∧ w < 2147483648 := by
          rcases hw with ⟨a, -⟩ | ⟨a, -⟩
          · omega
          · rw [a]; exact z_1s t (by omega)
        refine wp_ior dX10_reduces_64 (by omega) hwb (wp_puti dX10_reduces_65 fl_RX10_238 is_445 rfl ?_)
        have e25 : zup h' 445 25 ((((zmk (zxt p c W) t : Nat) : Int).toNat ||| w.toNat : Nat) : Int) 445 25 = (zmk (zxt p c W) (t + 1) : Int) := by
          rw [zup_s]
          rcases hw with ⟨a, b⟩ | ⟨a, b⟩
          · rw [a, z_or0, zmk_n (P := zxt p c W) b]
          · rw [a, z_or1, zmk_or, zmk_y (P := zxt p c W) b]
        refine L68 _ 49 _ (zrs p c W t) rfl (hF.up (by unfold zFred; omega)) (by rw [zup_o (by omega)]; exact h32) ?_ e25 (fun e he => by rw [zup_o (by omega)]; exact hz e he) (hnz t) ?_
        · unfold zKo at hk ⊢
          rw [zup_o (by omega), zup_o (by omega)]
          exact ⟨hk.1, hk.2.1, fun t ht => by rw [zup_o (by omega)]; exact hk.2.2 t ht⟩
        · rcases hu0 with ⟨a, b⟩ | ⟨a, b⟩
          · exact Or.inl ⟨a, trivial, fun e he => by rw [zrs_n b]⟩
          · exact Or.inr ⟨a, ztop_lt 49 (by decide), fun e he => by rw [zrs_y b]⟩
      refine w_istore2 dX10_reduces_47 rfl (by decide) (w_aload0 dX10_reduces_48 (wp_dup dX10_reduces_49 rfl (wp_geti dX10_reduces_50 fl_RX10_238 is_445 ?_)))
      rw [h25]
      refine w_iload2 dX10_reduces_53 ?_
      refine wp_if_eq 63 dX10_reduces_54 rfl ⟨by omega, by omega⟩ (fun c54 => ?_) (fun c54 => ?_)
      · skip
        refine wp_iconst dX10_reduces_63 ?_
        first
        | exact L64 _ (Or.inr ⟨rfl, (hu0.resolve_left (fun q => by have := q.1; omega)).2⟩)
        | exact L64 _ (Or.inl ⟨rfl, (hu0.resolve_right (fun q => by have := q.1; omega)).2⟩)
      · skip
        refine wp_iconst dX10_reduces_57 (w_iload1 dX10_reduces_58 (wp_ishl dX10_reduces_59 (by omega) (wp_goto 64 dX10_reduces_60 rfl ?_)))
        first
        | exact L64 _ (Or.inr ⟨rfl, (hu0.resolve_left (fun q => by have := q.1; omega)).2⟩)
        | exact L64 _ (Or.inl ⟨rfl, (hu0.resolve_right (fun q => by have := q.1; omega)).2⟩)
    refine w_iload1 dX10_reduces_11 (w_aload0 dX10_reduces_12 ?_)
    apply v_i0 (M := mX10_reduces) dX10_reduces_13 lk_RX10_76 mvX10_p (by decide) meX10_reduces is_445 (Nat.le_of_ble_eq_true rfl)
    · exact t_X10_p k0
    intro x13 h13 hP13
    obtain ⟨eh13, ex13⟩ := hP13
    replace eh13 := eh13.symm
    subst eh13
    replace ex13 := ex13.symm
    subst ex13
    refine wp_icmp_ge 102 dX10_reduces_16 rfl ⟨by omega, by omega⟩ ⟨by omega, by omega⟩ (fun c16 => ?_) (fun c16 => ?_)
    · skip
      refine w_aload0 dX10_reduces_102 (w_aload0 dX10_reduces_103 (wp_getr 457 dX10_reduces_104 fl_RX10_43 is_445 rfl (w_aload0 dX10_reduces_107 (wp_getr 457 dX10_reduces_108 fl_RX10_43 is_445 rfl ?_))))
      apply s_i1 (M := mX10_reduces) dX10_reduces_111 lk_RX10_252 mvX10_degreeIn (by decide) meX10_reduces (Nat.le_of_ble_eq_true rfl)
      · exact t_X10_degreeIn is_457 (fun e he => by have := (hnz t).1 e he; rw [hz e he]; exact ⟨by omega, by omega⟩)
      intro x111 h111 hP111
      obtain ⟨eh111, ex111⟩ := hP111
      replace eh111 := eh111.symm
      subst eh111
      replace ex111 := ex111.symm
      subst ex111
      refine x_iald (ztop (h' 457) 49) dX10_reduces_114 is_457 rfl (ztop_lt 49 (by decide)) ?_
      apply v_i1 (M := mX10_reduces) dX10_reduces_115 lk_RX10_198 mvX10_inverse (by decide) meX10_reduces is_445 (Nat.le_of_ble_eq_true rfl)
      · exact t_X10_inverse (by rw [hz _ (ztop_lt 49 (by decide))]; have := (hnz t).1 _ (ztop_lt (f := h' 457) 49 (by decide)); omega) hp k0
      intro x115 h115 hP115
      obtain ⟨eh115, ex115⟩ := hP115
      replace eh115 := eh115.symm
      subst eh115
      replace ex115 := ex115.symm
      subst ex115
      refine w_istore1 dX10_reduces_118 rfl (by decide) (wp_iconst dX10_reduces_119 (w_istore2 dX10_reduces_120 rfl (by decide) ?_))
      have ht9 : t = p.toNat := by omega
      rw [ht9] at hz h25
      exact L121 _ 0 _ _ rfl (Nat.zero_le _) hF h32 hk h25 (by rw [ztop_congr 49 hz, hz _ (ztop_lt 49 (by decide))]) (fun i hi => by rw [if_neg (Nat.not_lt_zero i)]; exact hz i hi)
    · skip
      refine w_aload0 dX10_reduces_19 (w_aload0 dX10_reduces_20 (wp_getr 456 dX10_reduces_21 fl_RX10_40 is_445 rfl (w_iload1 dX10_reduces_24 ?_)))
      apply v_i2 (M := mX10_reduces) dX10_reduces_25 lk_RX10_241 mvX10_valueAt (by decide) meX10_reduces is_445 (Nat.le_of_ble_eq_true rfl)
      · exact t_X10_valueAt is_456 ⟨by omega, by omega⟩ hp k0 (fun j hj => by rw [hw6 j hj]; exact hW.1 j hj)
      intro x25 h25 hP25
      obtain ⟨eh25, ex25⟩ := hP25
      replace eh25 := eh25.symm
      subst eh25
      rw [zhor_congr 49 _ _ hw6] at ex25
      subst ex25
      refine wp_if_ne 46 dX10_reduces_28 rfl ⟨by omega, by omega⟩ (fun c28 => ?_) (fun c28 => ?_)
      · skip
        refine wp_iconst dX10_reduces_46 ?_
        have hzc : zmk (fun t => 0 < zcn p c (t : Int)) p.toNat / 2 ^ t % 2 = 1 ↔ 0 < zcn p c (t : Int) := hbit (by omega)
        first
        | exact L47 _ (by omega) (Or.inr ⟨rfl, by omega, Nat.eq_zero_of_not_pos (fun q => by have := hzc.mpr q; omega)⟩)
        | exact L47 _ (by omega) (Or.inl ⟨rfl, fun q => by
            have q1 := q.1
            have q2 := q.2
            first
            | (exact absurd q1 (by omega))
            | (have := hzc.mp (by omega); omega)⟩)
      · skip
        refine w_aload0 dX10_reduces_31 (wp_geti dX10_reduces_32 fl_RX10_245 is_445 ?_)
        rw [hk.1]
        refine w_iload1 dX10_reduces_35 (wp_ishr dX10_reduces_36 ⟨by omega, by omega⟩ (by omega) (wp_iconst dX10_reduces_37 (wp_iand dX10_reduces_38 (z_sh t hsm) (by omega) ?_)))
        rw [z_bt]
        refine wp_if_ne 46 dX10_reduces_39 rfl ⟨by omega, by omega⟩ (fun c39 => ?_) (fun c39 => ?_)
        · skip
          refine wp_iconst dX10_reduces_46 ?_
          have hzc : zmk (fun t => 0 < zcn p c (t : Int)) p.toNat / 2 ^ t % 2 = 1 ↔ 0 < zcn p c (t : Int) := hbit (by omega)
          first
          | exact L47 _ (by omega) (Or.inr ⟨rfl, by omega, Nat.eq_zero_of_not_pos (fun q => by have := hzc.mpr q; omega)⟩)
          | exact L47 _ (by omega) (Or.inl ⟨rfl, fun q => by
              have q1 := q.1
              have q2 := q.2
              first
              | (exact absurd q1 (by omega))
              | (have := hzc.mp (by omega); omega)⟩)
        · skip
          refine wp_iconst dX10_reduces_42 (wp_goto 47 dX10_reduces_43 rfl ?_)
          have hzc : zmk (fun t => 0 < zcn p c (t : Int)) p.toNat / 2 ^ t % 2 = 1 ↔ 0 < zcn p c (t : Int) := hbit (by omega)
          first
          | exact L47 _ (by omega) (Or.inr ⟨rfl, by omega, Nat.eq_zero_of_not_pos (fun q => by have := hzc.mpr q; omega)⟩)
          | exact L47 _ (by omega) (Or.inl ⟨rfl, fun q => by
              have q1 := q.1
              have q2 := q.2
              first
              | (exact absurd q1 (by omega))
              | (have := hzc.mp (by omega); omega)⟩)
  refine w_aload0 dX10_reduces_0 ?_
  apply v_v0 (M := mX10_reduces) dX10_reduces_1 lk_RX10_235 mvX10_knowsRoots (by decide) meX10_reduces is_445 (Nat.le_of_ble_eq_true rfl)
  · exact t_X10_knowsRoots hs hR hO
  intro h1 hP1
  obtain ⟨f1, a1, b1⟩ := hP1
  refine w_aload0 dX10_reduces_4 (wp_iconst dX10_reduces_5 (wp_puti dX10_reduces_6 fl_RX10_238 is_445 rfl (wp_iconst dX10_reduces_9 (w_istore1 dX10_reduces_10 rfl (by decide) ?_))))
  refine L11 _ 0 _ rfl (by omega) (fun a j n => ?_) ?_ ?_ ?_ (fun e he => ?_)
  · rw [zup_o (fun q => n (by unfold zFred; omega))]
    exact f1 a j (fun q => n (Or.inl q))
  · rw [zup_o (by omega)]; exact a1
  · unfold zKo at b1 ⊢
    rw [zup_o (by omega), zup_o (by omega)]
    exact ⟨b1.1, b1.2.1, fun t ht => by rw [zup_o (by omega)]; exact b1.2.2 t ht⟩
  · rw [zup_s]; rfl
  · rw [zup_o (by omega), f1 _ _ (by unfold zFkr; omega)]; exact (h456 e he).2
