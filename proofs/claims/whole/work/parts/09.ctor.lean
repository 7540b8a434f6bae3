theorem z_outer (c : ClassId) (N h0 : Nat) : ∀ i : Nat, Jvm.Free.Multi.outerC c N h0 i = arrV c N (fun j => if j < i then .ref (h0 + 1 + j) else .null)
  | 0 => by
    show ({ cls := c, slots := Array.replicate N .null, vm := .none } : Cell) = _
    rw [arrV_new]
    refine congrArg (arrV c N) (funext fun j => ?_)
    simp
  | i + 1 => by
    show (Jvm.Free.Multi.outerC c N h0 i).setSlot i (.ref (h0 + 1 + i)) = _
    rw [z_outer c N h0 i, arrV_store]
    refine congrArg (arrV c N) (funext fun j => ?_)
    by_cases e : j = i
    · subst e
      simp [updV]
    · by_cases h : j < i
      · simp [updV, e, h, Nat.lt_succ_of_lt h]
      · simp [updV, e, h, show ¬ j < i + 1 by omega]
theorem z_tyall : ∀ ci, ci < 10 → ∀ k, k < zFN ci → (zty ci k = .int ∨ zty ci k = .boolean ∨ zty ci k = .long) ∨ (∃ x, zty ci k = .object x) ∨ ∃ x, zty ci k = .array x := by
  have h1 : ∀ t : FieldType, (zFk t ≤ 2 ∨ (match t with | .object _ => true | .array _ => true | _ => false) = true) → (t = .int ∨ t = .boolean ∨ t = .long) ∨ (∃ x, t = .object x) ∨ ∃ x, t = .array x := by
    intro t ht
    cases t <;> simp_all [zFk]
  have h2 : ∀ ci, ci < 10 → ∀ k, k < zFN ci → (zFk (zty ci k) ≤ 2 ∨ (match zty ci k with | .object _ => true | .array _ => true | _ => false) = true) := by decide +kernel
  exact fun ci hci k hk => h1 _ (h2 ci hci k hk)
theorem mac_int : Cond.arrayClass .int ∈ zbig := zmem 116 (by decide +kernel) (by decide +kernel)
theorem kl_RX9_7 : Cond.classLink RX9 7 (zR 3) ∈ zbig := zmem 96 (by decide +kernel) (by decide +kernel)
theorem kl_RX9_10 : Cond.classLink RX9 10 (zR 0) ∈ zbig := zmem 117 (by decide +kernel) (by decide +kernel)
theorem kl_RX9_15 : Cond.classLink RX9 15 (zR 4) ∈ zbig := zmem 153 (by decide +kernel) (by decide +kernel)
theorem kl_RX9_26 : Cond.classLink RX9 26 (zR 2) ∈ zbig := zmem 241 (by decide +kernel) (by decide +kernel)
theorem kl_RX9_33 : Cond.classLink RX9 33 (zR 7) ∈ zbig := zmem 261 (by decide +kernel) (by decide +kernel)
theorem kl_RX9_40 : Cond.classLink RX9 40 (zR 5) ∈ zbig := zmem 282 (by decide +kernel) (by decide +kernel)
theorem kl_RX9_55 : Cond.classLink RX9 55 (zR 1) ∈ zbig := zmem 305 (by decide +kernel) (by decide +kernel)
theorem kl_RX0_9 : Cond.classLink RX0 9 "[[I" ∈ zbig := zmem 123 (by decide +kernel) (by decide +kernel)
theorem kl_RX1_27 : Cond.classLink RX1 27 "[I" ∈ zbig := zmem 311 (by decide +kernel) (by decide +kernel)
theorem kl_RX2_9 : Cond.classLink RX2 9 (zR 3) ∈ zbig := zmem 247 (by decide +kernel) (by decide +kernel)
theorem kl_RX4_15 : Cond.classLink RX4 15 "[[I" ∈ zbig := zmem 102 (by decide +kernel) (by decide +kernel)
theorem kl_RX5_9 : Cond.classLink RX5 9 (zR 6) ∈ zbig := zmem 159 (by decide +kernel) (by decide +kernel)
theorem kl_RX6_9 : Cond.classLink RX6 9 "[[I" ∈ zbig := zmem 288 (by decide +kernel) (by decide +kernel)
theorem kl_RX7_18 : Cond.classLink RX7 18 "[[I" ∈ zbig := zmem 165 (by decide +kernel) (by decide +kernel)
theorem kl_R_law0_7 : Cond.classLink R_law0 7 (zR 8) ∈ zbig := zmem 88 (by decide +kernel) (by decide +kernel)
theorem kl_R_law0_10 : Cond.classLink R_law0 10 (zR 9) ∈ zbig := zmem 925 (by decide +kernel) (by decide +kernel)
theorem ki_8 : Cond.instantiable (zR 8) 7 ∈ zbig := zmem 89 (by decide +kernel) (by decide +kernel)
theorem kn_8 : Cond.initialized (zR 8) ∈ zbig := zmem 73 (by decide +kernel) (by decide +kernel)
theorem ki_0 : Cond.instantiable (zR 0) 8 ∈ zbig := zmem 118 (by decide +kernel) (by decide +kernel)
theorem kn_0 : Cond.initialized (zR 0) ∈ zbig := zmem 75 (by decide +kernel) (by decide +kernel)
theorem ki_1 : Cond.instantiable (zR 1) 12 ∈ zbig := zmem 306 (by decide +kernel) (by decide +kernel)
theorem kn_1 : Cond.initialized (zR 1) ∈ zbig := zmem 81 (by decide +kernel) (by decide +kernel)
theorem ki_2 : Cond.instantiable (zR 2) 3 ∈ zbig := zmem 242 (by decide +kernel) (by decide +kernel)
theorem kn_2 : Cond.initialized (zR 2) ∈ zbig := zmem 78 (by decide +kernel) (by decide +kernel)
theorem ki_3 : Cond.instantiable (zR 3) 2 ∈ zbig := zmem 97 (by decide +kernel) (by decide +kernel)
theorem kn_3 : Cond.initialized (zR 3) ∈ zbig := zmem 74 (by decide +kernel) (by decide +kernel)
theorem ki_4 : Cond.instantiable (zR 4) 15 ∈ zbig := zmem 154 (by decide +kernel) (by decide +kernel)
theorem kn_4 : Cond.initialized (zR 4) ∈ zbig := zmem 76 (by decide +kernel) (by decide +kernel)
theorem ki_5 : Cond.instantiable (zR 5) 5 ∈ zbig := zmem 283 (by decide +kernel) (by decide +kernel)
theorem kn_5 : Cond.initialized (zR 5) ∈ zbig := zmem 80 (by decide +kernel) (by decide +kernel)
theorem ki_6 : Cond.instantiable (zR 6) 6 ∈ zbig := zmem 160 (by decide +kernel) (by decide +kernel)
theorem kn_6 : Cond.initialized (zR 6) ∈ zbig := zmem 77 (by decide +kernel) (by decide +kernel)
theorem ki_7 : Cond.instantiable (zR 7) 4 ∈ zbig := zmem 262 (by decide +kernel) (by decide +kernel)
theorem kn_7 : Cond.initialized (zR 7) ∈ zbig := zmem 79 (by decide +kernel) (by decide +kernel)
theorem ki_9 : Cond.instantiable (zR 9) 41 ∈ zbig := zmem 926 (by decide +kernel) (by decide +kernel)
theorem kn_9 : Cond.initialized (zR 9) ∈ zbig := zmem 83 (by decide +kernel) (by decide +kernel)
theorem miX0_init : ∀ d mc ms n0, zMF yX0_init (RX0, cX0_init, 2, none, true, d, mc, ms, n0, none) 1 := fun d mc ms n0 => ⟨(show Cond.code yX0_init cX0_init 2 (none) ∈ zbig from zmem 121 (by decide +kernel) (by decide +kernel)), zmem 75 (by decide +kernel) (by decide +kernel), ⟨by decide +kernel, by decide +kernel⟩, by decide +kernel, by show 2 ≤ 19; decide, by decide +kernel, rfl, (fun _ => rfl), rfl⟩
theorem mjX0_init : Cond.instanceMethod yX0_init ∈ zbig := zmem 120 (by decide +kernel) (by decide +kernel)
theorem miX10_init : ∀ d mc ms n0, zMF yX10_init (RX10, cX10_init, 1, none, true, d, mc, ms, n0, none) 0 := fun d mc ms n0 => ⟨(show Cond.code yX10_init cX10_init 1 (none) ∈ zbig from zmem 929 (by decide +kernel) (by decide +kernel)), zmem 83 (by decide +kernel) (by decide +kernel), ⟨by decide +kernel, by decide +kernel⟩, by decide +kernel, by show 1 ≤ 19; decide, by decide +kernel, rfl, (fun _ => rfl), rfl⟩
theorem mjX10_init : Cond.instanceMethod yX10_init ∈ zbig := zmem 928 (by decide +kernel) (by decide +kernel)
theorem miX1_init : ∀ d mc ms n0, zMF yX1_init (RX1, cX1_init, 5, none, true, d, mc, ms, n0, none) 3 := fun d mc ms n0 => ⟨(show Cond.code yX1_init cX1_init 5 (none) ∈ zbig from zmem 309 (by decide +kernel) (by decide +kernel)), zmem 81 (by decide +kernel) (by decide +kernel), ⟨by decide +kernel, by decide +kernel⟩, by decide +kernel, by show 5 ≤ 19; decide, by decide +kernel, rfl, (fun _ => rfl), rfl⟩
theorem mjX1_init : Cond.instanceMethod yX1_init ∈ zbig := zmem 308 (by decide +kernel) (by decide +kernel)
theorem miX2_init : ∀ d mc ms n0, zMF yX2_init (RX2, cX2_init, 2, none, true, d, mc, ms, n0, none) 0 := fun d mc ms n0 => ⟨(show Cond.code yX2_init cX2_init 2 (none) ∈ zbig from zmem 245 (by decide +kernel) (by decide +kernel)), zmem 78 (by decide +kernel) (by decide +kernel), ⟨by decide +kernel, by decide +kernel⟩, by decide +kernel, by show 2 ≤ 19; decide, by decide +kernel, rfl, (fun _ => rfl), rfl⟩
theorem mjX2_init : Cond.instanceMethod yX2_init ∈ zbig := zmem 244 (by decide +kernel) (by decide +kernel)
theorem miX4_init : ∀ d mc ms n0, zMF yX4_init (RX4, cX4_init, 1, none, true, d, mc, ms, n0, none) 0 := fun d mc ms n0 => ⟨(show Cond.code yX4_init cX4_init 1 (none) ∈ zbig from zmem 100 (by decide +kernel) (by decide +kernel)), zmem 74 (by decide +kernel) (by decide +kernel), ⟨by decide +kernel, by decide +kernel⟩, by decide +kernel, by show 1 ≤ 19; decide, by decide +kernel, rfl, (fun _ => rfl), rfl⟩
theorem mjX4_init : Cond.instanceMethod yX4_init ∈ zbig := zmem 99 (by decide +kernel) (by decide +kernel)
theorem miX5_init : ∀ d mc ms n0, zMF yX5_init (RX5, cX5_init, 3, none, true, d, mc, ms, n0, none) 2 := fun d mc ms n0 => ⟨(show Cond.code yX5_init cX5_init 3 (none) ∈ zbig from zmem 157 (by decide +kernel) (by decide +kernel)), zmem 76 (by decide +kernel) (by decide +kernel), ⟨by decide +kernel, by decide +kernel⟩, by decide +kernel, by show 3 ≤ 19; decide, by decide +kernel, rfl, (fun _ => rfl), rfl⟩
theorem mjX5_init : Cond.instanceMethod yX5_init ∈ zbig := zmem 156 (by decide +kernel) (by decide +kernel)
theorem miX6_init : ∀ d mc ms n0, zMF yX6_init (RX6, cX6_init, 2, none, true, d, mc, ms, n0, none) 1 := fun d mc ms n0 => ⟨(show Cond.code yX6_init cX6_init 2 (none) ∈ zbig from zmem 286 (by decide +kernel) (by decide +kernel)), zmem 80 (by decide +kernel) (by decide +kernel), ⟨by decide +kernel, by decide +kernel⟩, by decide +kernel, by show 2 ≤ 19; decide, by decide +kernel, rfl, (fun _ => rfl), rfl⟩
theorem mjX6_init : Cond.instanceMethod yX6_init ∈ zbig := zmem 285 (by decide +kernel) (by decide +kernel)
theorem miX7_init : ∀ d mc ms n0, zMF yX7_init (RX7, cX7_init, 1, none, true, d, mc, ms, n0, none) 0 := fun d mc ms n0 => ⟨(show Cond.code yX7_init cX7_init 1 (none) ∈ zbig from zmem 163 (by decide +kernel) (by decide +kernel)), zmem 77 (by decide +kernel) (by decide +kernel), ⟨by decide +kernel, by decide +kernel⟩, by decide +kernel, by show 1 ≤ 19; decide, by decide +kernel, rfl, (fun _ => rfl), rfl⟩
theorem mjX7_init : Cond.instanceMethod yX7_init ∈ zbig := zmem 162 (by decide +kernel) (by decide +kernel)
theorem miX8_init : ∀ d mc ms n0, zMF yX8_init (RX8, cX8_init, 1, none, true, d, mc, ms, n0, none) 0 := fun d mc ms n0 => ⟨(show Cond.code yX8_init cX8_init 1 (none) ∈ zbig from zmem 265 (by decide +kernel) (by decide +kernel)), zmem 79 (by decide +kernel) (by decide +kernel), ⟨by decide +kernel, by decide +kernel⟩, by decide +kernel, by show 1 ≤ 19; decide, by decide +kernel, rfl, (fun _ => rfl), rfl⟩
theorem mjX8_init : Cond.instanceMethod yX8_init ∈ zbig := zmem 264 (by decide +kernel) (by decide +kernel)
theorem miX9_init : ∀ d mc ms n0, zMF yX9_init (RX9, cX9_init, 4, none, true, d, mc, ms, n0, none) 0 := fun d mc ms n0 => ⟨(show Cond.code yX9_init cX9_init 4 (none) ∈ zbig from zmem 92 (by decide +kernel) (by decide +kernel)), zmem 73 (by decide +kernel) (by decide +kernel), ⟨by decide +kernel, by decide +kernel⟩, by decide +kernel, by show 4 ≤ 19; decide, by decide +kernel, rfl, (fun _ => rfl), rfl⟩
theorem mjX9_init : Cond.instanceMethod yX9_init ∈ zbig := zmem 91 (by decide +kernel) (by decide +kernel)
/-! ===== the making of cells ===== -/
theorem zRep_push {D : va_G} {cs : zcs} {B : Nat × Nat} {n : Nat} {g : zG} {h : zH} {H H1 : Heap} (R : zRep D cs B n g h H) (hz : H1.size = H.size + 1) (ho : ∀ q, q < H.size → H1[q]? = H[q]?) (hn : va_at D vwCl (B.1 + (n + 1), zcell cs B g h (n + 1)) H1) : zRep D cs B (n + 1) g h H1 := by
  refine ⟨by rw [hz, R.1]; omega, fun k q hq => ?_⟩
  obtain ⟨hk, rfl⟩ := zws_getK hq
  by_cases e : k = n
  · subst e
    exact hn
  · have h1 := R.2 k _ (by
      have := zws_get (cs := cs) (B := B) (g := g) (h := h) (a := k + 1) (n := n) (by omega) (by omega)
      simpa using this)
    refine h1.kept (ho _ ?_)
    show B.1 + (k + 1) < H.size
    rw [R.1]
    omega
section
variable {M : zM} {Q : zQT} {pc n : Nat} {ls : List (Option zv)} {st : List zv} {g : zG} {h : zH}
theorem zc_new {B : Nat × Nat} {H : Heap} (hz : H.size = B.1 + 1 + n) (hn : n < 999) : zc B (vR (n + 1)) = .ref H.size := by
  show zrf B (n + 1) = _
  unfold zrf zad
  rw [if_neg (by omega), if_neg (by omega), hz]
  have e : B.1 + (n + 1) = B.1 + 1 + n := by omega
  rw [e]
theorem wp_new {ci N idx : Nat} (hd : decode (zM_cc M) pc = .ok (.new idx, 3)) (hci : ci < 10) (hN : N = zFN ci) (hcl : Cond.classLink (zM_own M) idx (zR ci) ∈ zbig) (hin : Cond.instantiable (zR ci) N ∈ zbig) (hini : Cond.initialized (zR ci) ∈ zbig) (hs : zSH (n + 1) = (ci, zFN ci)) (hz : ∀ j, j < zFN ci → g (n + 1) j = 0 ∧ h (n + 1) j = 0)
    (hn : n < 999) (hroom : n + 1 ≤ zM_n0 M + zM_mc M ∧ zSL n + N ≤ zSL (zM_n0 M) + zM_ms M) (kk : WP M Q (pc + 3) ls (vR (n + 1) :: st) (n + 1) g h) : WP M Q pc ls st n g h := by
  intro p l e s m args below meth c H locs cells slots D cs B lA C R S hA e1 e2 L
  obtain ⟨hx, hb, -, -, -, -, hown, hts, hK, -, hAO⟩ := id C
  subst hN
  have hKn := hK.1 ci _ (z_vw ci hci)
  refine W.newcK hx hb hown (hts _ hcl) (hts _ hin) (hts _ hini) (g := F0 m pc lA (st.map (zc B))) rfl hd ?_ ?_ hKn.2.1 rfl fun H1 kC hkC e3 z1 o1 => ?_
  · show cells + 1 ≤ zM_mc M
    omega
  · show slots + zFN ci ≤ zM_ms M
    omega
  · have hpos : B.1 + (n + 1) = H.size := by rw [R.1]; omega
    have hR : zRep D cs B (n + 1) g h H1 := zRep_push R z1 o1 (by
      rw [zcell_o hs hci]
      refine ⟨_, z_vw ci hci, ?_⟩
      show t_OB (B.1 + (n + 1)) _ _ _ H1 _
      rw [hpos]
      refine (u_born (zty ci) hts (z_in ci hci) hKn hkC e3 (z_ty ci hci)).to (fun k hk => ?_)
      unfold vp_V
      rw [List.getD_eq_getElem?_getD, List.getElem?_map, List.getElem?_range hk]
      obtain ⟨q1, q2⟩ := hz k hk
      show _ = zfv B (zty ci k) (g (n + 1) k) (h (n + 1) k)
      rw [q1, q2]
      have hk9 : zFk (zty ci k) ≤ 3 := by
        unfold zFk
        split <;> omega
      have hall : ∀ ci, ci < 10 → ∀ k, k < zFN ci → (zty ci k = .int ∨ zty ci k = .boolean ∨ zty ci k = .long) ∨ (∃ x, zty ci k = .object x) ∨ ∃ x, zty ci k = .array x := z_tyall
      rcases hall ci hci k hk with (e | e | e) | ⟨x, e⟩ | ⟨x, e⟩ <;> rw [e] <;> rfl)
    have k' := kk p l e s m args below meth c H1 locs (cells + 1) (slots + zFN ci) D cs B lA C hR ⟨Nat.le_trans S.1 (by omega), fun q h1 h2 => (o1 q (Nat.lt_of_lt_of_le h1 S.1)).trans (S.2.1 q h1 h2), S.2.2⟩ hA (by omega) (by
      show slots + zFN ci + zSL (zM_n0 M) = zSL n + (zSH (n + 1)).2
      rw [hs]
      show slots + zFN ci + zSL (zM_n0 M) = zSL n + zFN ci
      omega) L
    rw [List.map_cons, zc_new (n := n) R.1 hn] at k'
    exact k'
theorem wp_newa {len : Int} (hd : decode (zM_cc M) pc = .ok (.newarray .int, 2)) (h0 : 0 ≤ len ∧ len < 100000) (hs : zSH (n + 1) = (10, len.toNat)) (hz : ∀ j, j < len.toNat → h (n + 1) j = 0)
    (hn : n < 999) (hroom : n + 1 ≤ zM_n0 M + zM_mc M ∧ zSL n + len.toNat ≤ zSL (zM_n0 M) + zM_ms M) (kk : WP M Q (pc + 2) ls (vR (n + 1) :: st) (n + 1) g h) : WP M Q pc ls (vI len :: st) n g h := by
  intro p l e s m args below meth c H locs cells slots D cs B lA C R S hA e1 e2 L
  obtain ⟨hx, hb, -, -, -, -, hown, hts, hK, -, hAO⟩ := id C
  have zl : zin len := ⟨by omega, by omega⟩
  refine va_newaK hx hb (atype := .int) (hts _ mac_int) (g := F0 m pc lA ((vI len :: st).map (zc B))) rfl hd rfl (fun q => ?_) (zin_clamp zl) ?_ ?_ ?_ rfl fun H1 cA e3 z1 o1 hAr hNm => ?_
  · have := (zin_lt zl zin_0).mp q
    omega
  · show len.toNat * 4 ≤ 536870912
    omega
  · show cells + 1 ≤ zM_mc M
    omega
  · show slots + len.toNat ≤ zM_ms M
    omega
  · have hcA : cA = cs.1 := by
      have h1 := (hK.2 0 _ rfl).2
      exact Option.some.inj (hNm.symm.trans h1)
    subst hcA
    have hpos : B.1 + (n + 1) = H.size := by rw [R.1]; omega
    have hR : zRep D cs B (n + 1) g h H1 := zRep_push R z1 o1 (by
      rw [zcell_i hs]
      show H1[B.1 + (n + 1)]? = some (arrV cs.1 len.toNat (fun j => .int (Int32.ofInt (h (n + 1) j))))
      rw [hpos, e3]
      congr 1
      unfold arrV
      congr 1
      apply Array.ext
      · simp
      · intro i h1 h2
        simp only [Array.getElem_ofFn]
        rw [hz i (by simpa using h2)]
        rfl)
    have k' := kk p l e s m args below meth c H1 locs (cells + 1) (slots + len.toNat) D cs B lA C hR ⟨Nat.le_trans S.1 (by omega), fun q h1 h2 => (o1 q (Nat.lt_of_lt_of_le h1 S.1)).trans (S.2.1 q h1 h2), S.2.2⟩ hA (by omega) (by
      show slots + len.toNat + zSL (zM_n0 M) = zSL n + (zSH (n + 1)).2
      rw [hs]
      show slots + len.toNat + zSL (zM_n0 M) = zSL n + len.toNat
      omega) L
    rw [List.map_cons, zc_new (n := n) R.1 hn] at k'
    exact k'
/-- new T[n]: an array of references, all null -/
theorem z_anew {own : String} {N : Nat} {cA : ClassId} {v : Nat} (hv : v = 11 ∨ v = 12) (hs : zSH (n + 1) = (v, N)) (hz : ∀ j, j < N → g (n + 1) j = 0) (hn : n < 999) {D : va_G} {cs : zcs} {B : Nat × Nat} {H : Heap} (hcA : cA = if v = 11 then cs.2.1 else cs.2.2) (R : zRep D cs B n g h H) : zRep D cs B (n + 1) g h (H.push { cls := cA, slots := Array.replicate N .null, vm := .none }) := by
  have hpos : B.1 + (n + 1) = H.size := by rw [R.1]; omega
  refine zRep_push R (by simp) (fun q hq => by rw [Array.getElem?_push_lt hq, Array.getElem?_eq_getElem hq]) ?_
  have e9 : zcell cs B g h (n + 1) = .inl (cA, N, .inr (.inr (.inr (.inr (fun j => zrq B (g (n + 1) j)))))) := by
    rcases hv with rfl | rfl
    · rw [zcell_q hs, hcA]
      rfl
    · rw [zcell_p hs, hcA]
      rfl
  rw [e9]
  show (H.push _)[B.1 + (n + 1)]? = some (arrV cA N (fun j => va_rf (zrq B (g (n + 1) j))))
  rw [hpos, Array.getElem?_push_size, arrV_new]
  congr 1
  unfold arrV
  congr 1
  apply Array.ext
  · simp
  · intro i h1 h2
    simp only [Array.getElem_ofFn]
    rw [hz i (by simpa using h2)]
    rfl
theorem wp_anewP {len : Int} {idx : Nat} (hd : decode (zM_cc M) pc = .ok (.anewarray idx, 3)) (hini : zM_ini M = true) (hcl : Cond.classLink (zM_own M) idx RX4 ∈ zbig) (h0 : 0 ≤ len ∧ len < 100000) (hs : zSH (n + 1) = (12, len.toNat)) (hz : ∀ j, j < len.toNat → g (n + 1) j = 0)
    (hn : n < 999) (hroom : n + 1 ≤ zM_n0 M + zM_mc M ∧ zSL n + len.toNat ≤ zSL (zM_n0 M) + zM_ms M) (kk : WP M Q (pc + 3) ls (vR (n + 1) :: st) (n + 1) g h) : WP M Q pc ls (vI len :: st) n g h := by
  intro p l e s m args below meth c H locs cells slots D cs B lA C R S hA e1 e2 L
  obtain ⟨hx, hb, -, -, -, -, hown, hts, hK, -, hAO⟩ := id C
  have zl : zin len := ⟨by omega, by omega⟩
  have hcl' : (Int32.ofInt len).toNatClampNeg = len.toNat := zin_clamp zl
  refine W.anew hx hb hown (hts _ hcl) (hAO (Or.inl hini)).2 (g := F0 m pc lA ((vI len :: st).map (zc B))) rfl hd rfl (fun q => ?_) ?_ ?_ ?_ fun cA kA comp f1 f2 f3 f4 => ?_
  · have := (zin_lt zl zin_0).mp q
    omega
  · rw [hcl']
    omega
  · show cells + 1 ≤ zM_mc M
    omega
  · rw [hcl']
    show slots + len.toNat ≤ zM_ms M
    omega
  · rw [hcl']
    have hcA : cA = cs.2.2 := by
      obtain ⟨kA', comp', q1, q2, q3, q4⟩ := (hK.2 2 _ rfl).2
      exact Option.some.inj (f1.symm.trans q4)
    have hR := z_anew (own := "") (Or.inr rfl) hs hz hn (cA := cA) (by rw [hcA]; rfl) R
    have k' := kk p l e s m args below meth c _ locs (cells + 1) (slots + len.toNat) D cs B lA C hR ⟨Nat.le_trans S.1 (by simp), fun q h1 h2 => (by
      have hq := Nat.lt_of_lt_of_le h1 S.1
      rw [Array.getElem?_push_lt hq, ← Array.getElem?_eq_getElem hq]
      exact S.2.1 q h1 h2), S.2.2⟩ hA (by omega) (by
      show slots + len.toNat + zSL (zM_n0 M) = zSL n + (zSH (n + 1)).2
      rw [hs]
      show slots + len.toNat + zSL (zM_n0 M) = zSL n + len.toNat
      omega) L
    rw [List.map_cons, zc_new (n := n) R.1 hn] at k'
    exact k'
theorem wp_anewI {len : Int} {idx : Nat} (hd : decode (zM_cc M) pc = .ok (.anewarray idx, 3)) (hini : zM_ini M = true) (hcl : Cond.classLink (zM_own M) idx "[I" ∈ zbig) (h0 : 0 ≤ len ∧ len < 100000) (hs : zSH (n + 1) = (11, len.toNat)) (hz : ∀ j, j < len.toNat → g (n + 1) j = 0)
    (hn : n < 999) (hroom : n + 1 ≤ zM_n0 M + zM_mc M ∧ zSL n + len.toNat ≤ zSL (zM_n0 M) + zM_ms M) (kk : WP M Q (pc + 3) ls (vR (n + 1) :: st) (n + 1) g h) : WP M Q pc ls (vI len :: st) n g h := by
  intro p l e s m args below meth c H locs cells slots D cs B lA C R S hA e1 e2 L
  obtain ⟨hx, hb, -, -, -, -, hown, hts, hK, -, hAO⟩ := id C
  have zl : zin len := ⟨by omega, by omega⟩
  have hcl' : (Int32.ofInt len).toNatClampNeg = len.toNat := zin_clamp zl
  intro T hT X
  have hfin : ∃ t, Steps p.tables e below (T.setTop (F0 m pc lA ((vI len :: st).map (zc B)))) t ∧ Q below args s D cs B t := by
    obtain ⟨vm₁, cA, kA, comp, hW, f1, f2, f3, f4, X', stp⟩ := Jvm.Stand.anewarrayArrK X hx (ty := .int) hown (hts _ hcl) (hAO (Or.inl hini)).1 (g := F0 m pc lA ((vI len :: st).map (zc B))) rfl (by rw [hb]; exact hd) (n := Int32.ofInt len) (rest := st.map (zc B)) rfl (fun q => by have := (zin_lt zl zin_0).mp q; omega) (by rw [hcl']; omega) (by show cells + 1 ≤ zM_mc M; omega) (by rw [hcl']; show slots + len.toNat ≤ zM_ms M; omega)
    rw [hcl'] at X' stp
    have hcA : cA = cs.2.1 := by
      have h1 := (hK.2 1 _ rfl).2
      exact Option.some.inj (f1.symm.trans h1)
    have hR := z_anew (own := "") (Or.inl rfl) hs hz hn (cA := cA) (by rw [hcA]; rfl) R
    obtain ⟨t, a1, b1⟩ := kk p l e s m args below meth c _ locs (cells + 1) (slots + len.toNat) D cs B lA C hR ⟨Nat.le_trans S.1 (by simp), fun q h1 h2 => (by
      have hq := Nat.lt_of_lt_of_le h1 S.1
      rw [Array.getElem?_push_lt hq, ← Array.getElem?_eq_getElem hq]
      exact S.2.1 q h1 h2), S.2.2⟩ hA (by omega) (by
      show slots + len.toNat + zSL (zM_n0 M) = zSL n + (zSH (n + 1)).2
      rw [hs]
      show slots + len.toNat + zSL (zM_n0 M) = zSL n + len.toNat
      omega) L _ (by subst hT; rfl) X'
    refine ⟨t, stp t ?_, b1⟩
    rw [List.map_cons, zc_new (n := n) R.1 hn, ← hT] at a1
    exact a1
  exact hfin
/-- the cells behind new int[a][b] -/
theorem zRep_rows {D : va_G} {cs : zcs} {B : Nat × Nat} {n N K : Nat} {g : zG} {h : zH} {H H1 : Heap} (R : zRep D cs B n g h H) (hz : H1.size = H.size + 1 + N) (ho : ∀ q, q < H.size → H1[q]? = H[q]?) (hn : va_at D vwCl (B.1 + (n + 1), zcell cs B g h (n + 1)) H1) (hr : ∀ i, i < N → va_at D vwCl (B.1 + (n + 2 + i), zcell cs B g h (n + 2 + i)) H1) : zRep D cs B (n + 1 + N) g h H1 := by
  refine ⟨by rw [hz, R.1]; omega, fun k q hq => ?_⟩
  obtain ⟨hk, rfl⟩ := zws_getK hq
  by_cases e : k < n
  · have h1 := R.2 k _ (by
      have := zws_get (cs := cs) (B := B) (g := g) (h := h) (a := k + 1) (n := n) (by omega) (by omega)
      simpa using this)
    refine h1.kept (ho _ ?_)
    show B.1 + (k + 1) < H.size
    rw [R.1]
    omega
  · by_cases e2 : k = n
    · subst e2
      exact hn
    · have := hr (k - (n + 1)) (by omega)
      rw [show n + 2 + (k - (n + 1)) = k + 1 by omega] at this
      exact this
theorem zSL_rows {N K : Nat} (hs : zSH (n + 1) = (11, N)) (hr : ∀ i, i < N → zSH (n + 2 + i) = (10, K)) : ∀ i, i ≤ N → zSL (n + 1 + i) = zSL n + N + i * K := by
  intro i
  induction i with
  | zero =>
    intro _
    show zSL n + (zSH (n + 1)).2 = _
    rw [hs]
    omega
  | succ i ih =>
    intro hi
    show zSL (n + 1 + i) + (zSH (n + 1 + i + 1)).2 = _
    rw [ih (by omega), show n + 1 + i + 1 = n + 2 + i by omega, hr i (by omega), Nat.succ_mul]
    omega
def zgr (g : zG) (n N : Nat) : zG := fun a j => if a = n + 1 ∧ j < N then n + 2 + j else g a j
theorem zgr_a {N a : Nat} (e : a ≠ n + 1) : zgr g n N a = g a := funext fun _ => if_neg fun q => e q.1
theorem wp_mna {dim k : Int} {idx : Nat} (hd : decode (zM_cc M) pc = .ok (.multianewarray idx 2, 4)) (hini : zM_ini M = true) (hcl : Cond.classLink (zM_own M) idx "[[I" ∈ zbig) (h0 : 0 ≤ dim ∧ dim < 1000) (h1 : 0 ≤ k ∧ k < 100000) (hs : zSH (n + 1) = (11, dim.toNat)) (hr : ∀ i, i < dim.toNat → zSH (n + 2 + i) = (10, k.toNat)) (hz : ∀ i j, i < dim.toNat → j < k.toNat → h (n + 2 + i) j = 0)
    (hn : n + 1 + dim.toNat < 999) (hroom : n + 1 + dim.toNat ≤ zM_n0 M + zM_mc M ∧ zSL (n + 1 + dim.toNat) ≤ zSL (zM_n0 M) + zM_ms M) (kk : WP M Q (pc + 4) ls (vR (n + 1) :: st) (n + 1 + dim.toNat) (zgr g n dim.toNat) h) : WP M Q pc ls (vI k :: vI dim :: st) n g h := by
  intro p l e s m args below meth c H locs cells slots D cs B lA C R S hA e1 e2 L
  obtain ⟨hx, hb, -, -, -, -, hown, hts, hK, -, hAO⟩ := id C
  have zd : zin dim := ⟨by omega, by omega⟩
  have zk : zin k := ⟨by omega, by omega⟩
  have cd : (Int32.ofInt dim).toNatClampNeg = dim.toNat := zin_clamp zd
  have ck : (Int32.ofInt k).toNatClampNeg = k.toNat := zin_clamp zk
  have hsl := zSL_rows hs hr dim.toNat (Nat.le_refl _)
  intro T hT X
  have hfin : ∃ t, Steps p.tables e below (T.setTop (F0 m pc lA ((vI k :: vI dim :: st).map (zc B)))) t ∧ Q below args s D cs B t := by
    obtain ⟨vm₁, cA, comp, hW, fA, fC, hO, hI, X', stp⟩ := Jvm.Stand.multianewarray2F X hx (ty := .int) hown (hts _ hcl) (hAO (Or.inl hini)).1 (hts _ mac_int) (g := F0 m pc lA ((vI k :: vI dim :: st).map (zc B))) rfl (by rw [hb]; exact hd) (n := Int32.ofInt dim) (k := Int32.ofInt k) (rest := st.map (zc B)) rfl (fun q => by have := (zin_lt zd zin_0).mp q; omega) (fun q => by have := (zin_lt zk zin_0).mp q; omega) (by rw [cd]; omega) (by rw [ck]; show k.toNat * 4 ≤ _; omega) (by rw [ck]; omega) rfl rfl (by rw [cd]; show cells + (1 + dim.toNat) ≤ zM_mc M; omega) (by rw [cd, ck]; show slots + (dim.toNat + dim.toNat * k.toNat) ≤ zM_ms M; omega)
    rw [cd, ck] at X' stp
    have hcA : cA = cs.2.1 := by
      have h1 := (hK.2 1 _ rfl).2
      exact Option.some.inj (fA.symm.trans h1)
    have hcC : comp = cs.1 := by
      have h1 := (hK.2 0 _ rfl).2
      exact Option.some.inj (fC.symm.trans h1)
    subst hcA
    subst hcC
    generalize hF : Jvm.Free.Multi.fill (T.setVm vm₁) cs.2.1 cs.1 dim.toNat k.toNat (defaultValue .int) dim.toNat = F at X' stp
    have hTh : (T.setVm vm₁).heap = H := hT
    obtain ⟨f1, f2, -, -⟩ := Jvm.Free.Multi.fill_facts (T.setVm vm₁) cs.2.1 cs.1 dim.toNat k.toNat (defaultValue .int) dim.toNat
    rw [hF, hTh] at f1 f2
    have hold : ∀ x : Nat, x < H.size → F.heap[x]? = H[x]? := fun x hx => by
      have := Jvm.Free.Multi.fill_old (T.setVm vm₁) cs.2.1 cs.1 dim.toNat k.toNat (defaultValue .int) (a := x) (by rw [hTh]; exact hx) dim.toNat
      rw [hF, hTh] at this
      exact this
    have hrow : ∀ j : Nat, j < dim.toNat → F.heap[H.size + 1 + j]? = some (Jvm.Free.Multi.innerC cs.1 k.toNat (defaultValue .int)) := fun j hj => by
      have := Jvm.Free.Multi.fill_inner (T.setVm vm₁) cs.2.1 cs.1 dim.toNat k.toNat (defaultValue .int) dim.toNat j hj
      rw [hF, hTh] at this
      exact this
    have hpos : B.1 + (n + 1) = H.size := by rw [R.1]; omega
    have hRg : zRep D cs B n (zgr g n dim.toNat) h H := zRep_congr R (fun b hb0 hb1 => by
      unfold zcell
      rw [zgr_a (by omega)])
    have hR : zRep D cs B (n + 1 + dim.toNat) (zgr g n dim.toNat) h F.heap := by
      refine zRep_rows (K := k.toNat) hRg f1 hold ?_ (fun i hi => ?_)
      · rw [zcell_q hs]
        show F.heap[B.1 + (n + 1)]? = some (arrV cs.2.1 dim.toNat (fun j => va_rf (zrq B (zgr g n dim.toNat (n + 1) j))))
        rw [hpos, f2, z_outer]
        congr 1
        unfold arrV
        congr 1
        apply Array.ext
        · simp
        · intro i h1 h2
          have hi : i < dim.toNat := by simpa using h2
          simp only [Array.getElem_ofFn]
          have e5 : zgr g n dim.toNat (n + 1) i = n + 2 + i := if_pos ⟨rfl, hi⟩
          rw [if_pos hi, e5]
          unfold zrq zad
          rw [if_neg (by omega), if_neg (by omega), ← hpos]
          have e7 : B.1 + (n + 1) + 1 + i = B.1 + (n + 2 + i) := by omega
          rw [e7]
          rfl
      · rw [zcell_i (hr i hi)]
        show F.heap[B.1 + (n + 2 + i)]? = some (arrV cs.1 k.toNat (fun j => .int (Int32.ofInt (h (n + 2 + i) j))))
        rw [show B.1 + (n + 2 + i) = H.size + 1 + i by omega, hrow i hi]
        congr 1
        unfold Jvm.Free.Multi.innerC
        rw [arrV_new]
        unfold arrV
        congr 1
        apply Array.ext
        · simp
        · intro j h1 h2
          simp only [Array.getElem_ofFn]
          rw [hz i j hi (by simpa using h2)]
          rfl
    obtain ⟨t, a1, b1⟩ := kk p l e s m args below meth c F.heap locs (cells + 1 + dim.toNat) (slots + dim.toNat + dim.toNat * k.toNat) D cs B lA C hR ⟨Nat.le_trans S.1 (by rw [f1]; omega), fun q h1 h2 => (hold q (Nat.lt_of_lt_of_le h1 S.1)).trans (S.2.1 q h1 h2), S.2.2⟩ hA (by omega) (by rw [hsl]; omega) L F rfl X'
    refine ⟨t, stp t ?_, b1⟩
    rw [List.map_cons, zc_new (n := n) R.1 (by omega), ← hT] at a1
    exact a1
  exact hfin
end
