/-! ===== from the law's entry ===== -/
section
variable {L : Nat} {xs : Nat → Int32} {pc n : Nat} {ls : List (Option zv)} {st : List zv} {g : zG} {h : zH}
theorem l_new {ci N idx : Nat} (m : Nat) (hm : m = n + 1) (hd : decode cL_law pc = .ok (.new idx, 3)) (hci : ci < 10) (hN : N = zFN ci) (hcl : Cond.classLink R_law0 idx (zR ci) ∈ zbig) (hin : Cond.instantiable (zR ci) N ∈ zbig) (hini : Cond.initialized (zR ci) ∈ zbig) (hs : zSH m = (ci, zFN ci)) (zg : zZg n g) (zh : zZh n h) (hn : n < 999) (hr : n + 1 ≤ 600000) (h1 : zSL n + N ≤ 7302250) (kk : WP (mlaw L xs) zLQ (pc + 3) ls (vR m :: st) m g h) : WP (mlaw L xs) zLQ pc ls st n g h := by
  subst hm
  refine wp_new hd hci hN hcl hin hini hs (fun j _ => ⟨zg _ _ (by omega), zh _ _ (by omega)⟩) hn ⟨?_, ?_⟩ kk
  · rw [mlaw_n0, mlaw_mc, Nat.zero_add]
    exact hr
  · rw [mlaw_n0, mlaw_ms, show zSL 0 = 0 from rfl, Nat.zero_add]
    exact h1
theorem l_init {y : MethodName} {M' : zM} {g1 : zG} {h1 : zH} {rest : List zv} {b idx : Nat} {k : Nat × Nat} (m : Nat) (hd : decode cL_law pc = .ok (.invokespecial idx, 3)) (hlk : Cond.methodLink R_law0 idx y ∈ zbig) (hmf : zMF y M' 0) (hret : zM_ret M' = none) (hyn : y.name = "<init>") (hvf : Cond.instanceMethod y ∈ zbig) (hdep : zM_d M' < 12) (hs : zIs n b k) (hk : k.1 ≠ 99) (hn : zM_n0 M' = n) (hr : n + zM_mc M' ≤ 600000) (hsl : zSL n + zM_ms M' ≤ 7302250) (hcat : zcat rest ≤ 8) (hc : CALL y M' [vR b] g h (fun r n' g' h' => r = none ∧ n' = m ∧ g' = g1 ∧ h' = h1)) (kk : WP (mlaw L xs) zLQ (pc + 3) ls rest m g1 h1) : WP (mlaw L xs) zLQ pc ls (vR b :: rest) n g h := by
  refine wp_callI (As := []) (np := 0) hd hlk hmf hret hyn hvf rfl hdep hs hk hn ⟨?_, ?_⟩ (Or.inr ?_) hcat rfl hc (fun r n' g' h' q => ?_)
  · rw [mlaw_n0, mlaw_mc, Nat.zero_add]
    exact hr
  · rw [mlaw_n0, mlaw_ms, show zSL 0 = 0 from rfl, Nat.zero_add]
    exact hsl
  · show (some (L, xs) : Option (Nat × (Nat → Int32))) ≠ none
    simp
  · obtain ⟨rfl, rfl, rfl, rfl⟩ := q
    exact kk
end
def zg0 : zG := fun _ _ => 0
def zh0 : zH := fun _ _ => 0
def zg9 : zG := (zug (zgX1 (zug (zug (zug (zug (zug (zgr (zug (zgr (zug (zgr (zug (zug (zug (zug (zgX2 (zug (zug (zug (zug (zug (zug (zug (zug (zug (zug (zgr (zug (zug (zug (zug (zug (zgr (zug (zgr (zug (zgr zg0 2 3) 2 1 3) 7 64) 7 5 8) 72 3) 7 6 73) 7 7 77) 7 4 2) 79 1 80) 79 2 81) 81 8) 79 3 82) 79 4 91) 78 8 79) 78 9 92) 78 10 93) 78 11 94) 78 12 95) 78 6 2) 78 7 7) 1 0 2) 8) 1 1 96) 138 1 139) 138 2 140) 1 2 138) 141 31) 141 1 142) 173 3) 141 2 174) 177 3) 141 3 178) 141 0 2) 1 3 141) 1 4 7) 1 5 78)) 1 6 182)
def zg10 : zG := (zug (zug (zug (zug (zug (zug (zug (zug (zug (zug (zug (zug (zug (zug (zug (zug (zug (zug (zug (zug (zug (zug zg9 445 0 446) 445 1 447) 445 3 448) 445 7 449) 445 12 450) 445 13 451) 445 14 452) 445 15 453) 445 16 454) 445 17 455) 445 23 456) 445 24 457) 445 26 458) 445 28 459) 445 29 460) 445 30 461) 445 31 462) 445 35 463) 445 36 464) 445 37 465) 445 38 466) 445 39 467)
def zh9 : zH := zhX2 (zup zh0 2 0 31) 8
def zh10 : zH := zup zh9 446 0 31
def zc0 : Nat → Nat → Int := fun _ _ => 0
def zt0 : Nat → Int := fun _ => 0
set_option maxRecDepth 100000 in
set_option maxHeartbeats 4000000 in
theorem zg10_ok : ∀ b, b < 468 → (zSH b).1 ≠ 10 → ∀ j, j < (zSH b).2 → zGR b j = zg10 b j := by decide +kernel
theorem zs0_ok : zSt 31 zc0 := ⟨by omega, fun _ _ => ⟨Int.le_refl 0, by show (0 : Int) < 31; decide⟩⟩
theorem zh10_p : ∀ k, k < 3 → ∀ j, j < 27 → zh10 (2 + 2 + k) j = 0 := by decide +kernel
theorem zh10_m : ∀ k, k < 3 → ∀ j, j < 27 → zh10 446 (1 + 27 * k + j) = 0 := by decide +kernel
theorem zh10_W : zWd 31 zc0 [] zt0 0 zh10 := by
  have hz : ∀ (t : Nat), ¬ (0 / 2 ^ t % 2 = 1) := fun t q => by rw [Nat.zero_div] at q; omega
  refine ⟨zs0_ok, ⟨by decide +kernel, fun k hk j hj => zh10_p k hk j hj⟩, ⟨⟨0, by decide +kernel, by decide, by decide +kernel, by decide, fun i q hq => by simp at hq⟩, fun q hq => by simp at hq⟩, ⟨by decide +kernel, Nat.zero_le _, fun j hj => absurd hj (Nat.not_lt_zero j)⟩, ?_⟩
  exact ⟨⟨0, by decide +kernel, by decide, fun t _ q => absurd q (hz t)⟩, Or.inl (by decide +kernel), ⟨0, by decide +kernel, by decide, fun t _ q => absurd q (hz t)⟩, Or.inl (by decide +kernel), Or.inl (by decide +kernel), Or.inl (by decide +kernel)⟩
theorem zh10_V : zVd 31 zc0 [] zt0 0 zh10 :=
  ⟨zs0_ok, ⟨by decide +kernel, fun k hk j hj => zh10_m k hk j hj⟩, ⟨⟨by decide +kernel, by decide, fun i q hq => by simp at hq⟩, fun q hq => by simp at hq⟩, ⟨by decide +kernel, Nat.zero_le _, fun j hj => absurd hj (Nat.not_lt_zero j)⟩, Or.inl (by decide +kernel), Or.inl (by decide +kernel)⟩
set_option maxRecDepth 100000 in
set_option maxHeartbeats 4000000 in
theorem law_start {L : Nat} {xs : Nat → Int32} (hL : L ≤ 3584) : WP (mlaw L xs) zLQ 0 [some (vR 1000), none, none, none] [] 0 zg0 zh0 := by
  have zga : zZg 0 zg0 := fun _ _ _ => rfl
  have zha : zZh 0 zh0 := fun _ _ _ => rfl
  refine l_new (ci := 8) 1 rfl dL_law_0 (by decide) rfl kl_R_law0_7 ki_8 kn_8 rfl zga zha (by decide) (Nat.le_of_ble_eq_true rfl) (Nat.le_of_ble_eq_true rfl) ?_
  have zg1 := zga.up (Nat.zero_le 1)
  have zh1 := zha.up (Nat.zero_le 1)
  refine wp_dup dL_law_3 rfl ?_
  refine l_init (M' := mcX9_init 1) 444 dL_law_4 lk_R_law0_9 (miX9_init _ _ _ _) rfl rfl mjX9_init (by decide) ⟨rfl, by decide, by decide⟩ (by decide) rfl (Nat.le_of_ble_eq_true rfl) (by decide +kernel) (Nat.le_of_ble_eq_true rfl) (t_X9_init_1 zg1 zh1) ?_
  have zg2 := (zg_X9_init_1 zg1).up (Nat.le_of_ble_eq_true rfl : 444 ≤ 445)
  have zh2 := (zh_X9_init_1 zh1).up (Nat.le_of_ble_eq_true rfl : 444 ≤ 445)
  refine w_astore1 dL_law_7 rfl (show 1 < 4 by decide) ?_
  refine l_new (ci := 9) 445 rfl dL_law_8 (by decide) rfl kl_R_law0_10 ki_9 kn_9 rfl (zg_X9_init_1 zg1) (zh_X9_init_1 zh1) (by decide) (Nat.le_of_ble_eq_true rfl) (by decide +kernel) ?_
  refine wp_dup dL_law_11 rfl ?_
  refine l_init (M' := mcX10_init 445) 467 dL_law_12 lk_R_law0_12 (miX10_init _ _ _ _) rfl rfl mjX10_init (by decide) ⟨rfl, by decide, by decide⟩ (by decide) rfl (Nat.le_of_ble_eq_true rfl) (by decide +kernel) (Nat.le_of_ble_eq_true rfl) (t_X10_init_445 zg2 zh2) ?_
  refine w_astore2 dL_law_15 rfl (show 2 < 4 by decide) ?_
  refine wp_iconst dL_law_16 ?_
  refine w_istore3 dL_law_17 rfl (show 3 < 4 by decide) ?_
  refine wp_cg (g' := zGR) (fun b _ hn hne j hj => zg10_ok b (by omega) hne j hj) ?_
  exact law_loop hL (L + 7 - 0) 0 (31, zc0, [], zt0, 0) zh10 rfl (Nat.zero_le _) ⟨zh10_W, zh10_V⟩
theorem z_inst : ∀ k, k < 10 → Cond.instantiable (zR k) (zFN k) ∈ zbig := by
  intro k hk
  match k, hk with
  | 0, _ => exact ki_0
  | 1, _ => exact ki_1
  | 2, _ => exact ki_2
  | 3, _ => exact ki_3
  | 4, _ => exact ki_4
  | 5, _ => exact ki_5
  | 6, _ => exact ki_6
  | 7, _ => exact ki_7
  | 8, _ => exact ki_8
  | 9, _ => exact ki_9
  | k + 10, h => exact absurd h (by omega)
theorem zK_start {s : State} {args : Array Value} (hts : ∀ w ∈ lw_tbl, w.before args s = true) : ∃ (D : va_G) (cs : zcs), va_K D vwCl (ztys cs) s ∧ zAO s := by
  have hb : ∀ w ∈ zbig, w.before args s = true := fun w hw => hts w (List.mem_filter.mp hw).1
  have hk : ∀ k, k < 10 → ∃ (cC : ClassId) (iS : Nat → Nat), u_Kn s (zR k) (zT k) (zFN k) cC iS := fun k hk => u_known hb (z_in k hk) (hb _ (z_inst k hk))
  obtain ⟨c1, k1, p1, a1, a2, a3⟩ := Cond.arrayClass_spec (hb _ mac_int)
  have hA := hts (Cond.arrayOver (.array .int)) (List.mem_of_getElem? (i := 103) (by decide +kernel))
  have hO := hts (Cond.arrayOver (.object RX4)) (List.mem_of_getElem? (i := 248) (by decide +kernel))
  obtain ⟨p2, c2, k2, b1, b2, b3, b4⟩ := Cond.arrayOver_specA hA
  obtain ⟨p3, c3, k3, d1, d2, d3, d4, d5⟩ := Cond.arrayOver_spec hO
  refine ⟨(fun k => if h : k < 10 then (hk k h).choose else 0, fun k => if h : k < 10 then (hk k h).choose_spec.choose else fun _ => 0), (c1, c2, c3), ⟨fun k q hq => ?_, fun k q hq => ?_⟩, hA, va_AO.of hO⟩
  · have hlt : k < 10 := (List.getElem?_eq_some_iff.mp hq).1
    have e : q = (zR k, zT k, zFN k) := Option.some.inj (hq.symm.trans (z_vw k hlt))
    subst e
    have hu := (hk k hlt).choose_spec.choose_spec
    show u_Kn s (zR k) (zT k) (zFN k) (if h : k < 10 then (hk k h).choose else 0) (if h : k < 10 then (hk k h).choose_spec.choose else fun _ => 0)
    rw [dif_pos hlt, dif_pos hlt]
    exact hu
  · match k, hq with
    | 0, hq =>
      have e : (c1, FieldType.int) = q := Option.some.inj hq
      subst e
      exact ⟨fun N z => ⟨(fun k h => by cases h), k1, a2, p1, a3⟩, a1⟩
    | 1, hq =>
      have e : (c2, FieldType.array .int) = q := Option.some.inj hq
      subst e
      exact ⟨fun N z => ⟨(fun k h => by cases h), k2, b2, p2, b3⟩, b4⟩
    | 2, hq =>
      have e : (c3, FieldType.object RX4) = q := Option.some.inj hq
      subst e
      exact ⟨fun N z => ⟨(fun k h => by cases h), k3, d3, p3, d4⟩, k3, p3, d3, d4, d1, d5⟩
    | k + 3, hq =>
      have h3 : k + 3 < 3 := (List.getElem?_eq_some_iff.mp hq).1
      exact absurd h3 (by omega)
set_option maxHeartbeats 4000000 in
theorem whole_start {p : Program} {e : Env} {s : State} {m : MethodId} {below : List Frame} {meth : Method} {c : Code} (l : Launch) (hflags : l.flags = flags0) {b L : Nat} {xs : Nat → Int32} (hL : L ≤ 3584) (C0 : lw_At p s m meth c b L xs) : W p l e room_1 s m #[Value.ref b] below meth c s.heap [] 0 0 (lw_Z below #[Value.ref b] s) (entryFrame m ([Value.ref b] : List Value).toArray 4) := by
  obtain ⟨hx, hb, hr, hml, hown, hts, hX, hbl, hlocks, hgv⟩ := C0
  obtain ⟨D, cs, hK, hAO⟩ := zK_start hts
  have hbig : ∀ w ∈ zbig, w.before #[Value.ref b] s = true := fun w hw => hts w (List.mem_filter.mp hw).1
  rw [lg_entry_eq]
  have hl := lv_entry [Value.ref b] (n := 4) (show 1 ≤ 4 by decide)
  generalize (lg_sl [Value.ref b] ++ List.replicate (4 - (lg_sl [Value.ref b]).length) Slot.unset).toArray = lA at hl ⊢
  have hsz : s.heap.size = s.heap.size - 1 + 1 + 0 := by omega
  refine law_start (L := L) (xs := xs) hL p l e s m #[Value.ref b] below meth c s.heap [] 0 0 D cs (s.heap.size - 1, b) lA ⟨hx, hb, hml, hr, hlocks, fun q => Bool.noConfusion (show false = true from q), hown, hbig, hK, fun q hq => ?_, fun _ => hAO⟩ ⟨hsz, fun k q hq => absurd (zws_getK hq).1 (Nat.not_lt_zero k)⟩ va_S.rf hsz rfl rfl ⟨hl.1, hl.2.1, fun i v hi => ?_⟩
  · have eq : (L, xs) = q := Option.some.inj hq
    subst eq
    exact ⟨hX, hbl, by show b ≤ s.heap.size - 1; omega⟩
  · match i, hi with
    | 0, hi =>
      have ev : vR 1000 = v := Option.some.inj (Option.some.inj hi)
      subst ev
      rw [zc_scr]
      exact hl.2.2 (0, Value.ref b) (List.mem_cons_self ..)
    | 1, hi => exact absurd (Option.some.inj hi) (by simp)
    | 2, hi => exact absurd (Option.some.inj hi) (by simp)
    | 3, hi => exact absurd (Option.some.inj hi) (by simp)
    | k + 4, hi =>
      have h4 : k + 4 < 4 := (List.getElem?_eq_some_iff.mp hi).1
      exact absurd h4 (by omega)
