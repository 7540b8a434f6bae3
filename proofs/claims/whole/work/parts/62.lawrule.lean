/-! THE CLAIM OUT OF ONE WALK OF THE LAW'S BODY. Your part is whole_start (and what it stands on); all else here is the same for every law, but numbers. -/
def R_law : String := "DixonEliminatorLaw"
def lw_P (b : Addr) (xs : List Int32) (args : Array Value) (s : State) : Prop := args = #[.ref b] ∧ s.IntsAt b xs ∧ xs.length ≤ 3584 ∧ (Jvm.Cond.and given_1 narrow_1).before args s = true
def lw_Q (_ : Array Value) (s : State) (o : Outcome) (t : State) : Prop := o = .returned (some (.int 1)) ∧ Framed s o t [] 600000 7302250
def lw_Z (below : List Frame) (a : Array Value) (s : State) : State → Prop := fun t => ∃ o, t.status = .running ∧ Ended t below o ∧ lw_Q a s o t
/-- the law's own end, with 1 on the stack, nothing written that was there before, its room as the claim has it -/
theorem lw_ret {p : Program} {l : Launch} {e : Env} {s : State} {m : MethodId} {below : List Frame} {meth : Method} {c : Code} {b : Nat} (hx : p.tables.exec = Jvm.exec) (hb : c.code = code) (hr : meth.sig.returnType = ret) (hlocks : meth.locks = false) {pc : Nat} {H : Heap} {ls : Array Slot} (hdg : decode code pc = .ok (.ireturn, 1)) : W p l e room_1 s m #[Value.ref b] below meth c H [] 600000 7302250 (lw_Z below #[Value.ref b] s) (F0 m pc ls [.int 1]) := by
  intro T hT X
  obtain ⟨fs, hret, hrun, hended, hW, hframe⟩ := X.leave (v := some (.int 1)) (hlocks := hlocks) (fun h => by rw [hr] at h; cases h)
  have hmeth' : T.vm.method? m = some meth := X.method'
  refine ⟨T.setFrames fs, ?_, .returned (some (.int 1)), hrun, hended, rfl, ⟨_, rfl⟩, hW, hframe⟩
  jvm_step X.here [X.here.top, hx, hb, hdg, hmeth', hr, ret, narrow_b1]
  (try refine ⟨rfl, ?_⟩); (try refine ⟨rfl, ?_⟩)
  first | (intro acts; rw [hret _ acts rfl rfl rfl]) | rw [hret _ _ rfl rfl rfl]
  exact Steps.refl _
/-- what holds at the law's entry: the machine, the code, the tables' words (any of lw_tbl by 'hts w (by decide +kernel)'), the script of L ints xs at the cell b, what the Statement gives of the start (any of its parts by flat_of_before) -/
def lw_At (p : Program) (s : State) (m : MethodId) (meth : Method) (c : Code) (b L : Nat) (xs : Nat → Int32) : Prop :=
  p.tables.exec = Jvm.exec ∧ c.code = code ∧ meth.sig.returnType = ret ∧ c.maxLocals = 4 ∧ s.vm.findClass R_law = some m.cls ∧ (∀ w ∈ lw_tbl, w.before #[Value.ref b] s = true) ∧ va_X b L xs s s.heap ∧ b < s.heap.size ∧ meth.locks = false ∧ (Jvm.Cond.and given_1 narrow_1).before #[Value.ref b] s = true
/-! ===== the law's machine ===== -/
theorem w_lret {p : Program} {l : Launch} {e : Env} {R : Room} {s : State} {m : MethodId} {args : Array Value} {below : List Frame} {meth : Method} {c : Code} (hx : p.tables.exec = Jvm.exec) (hb : c.code = code) (hr : meth.sig.returnType = ret) (hlocks : meth.locks = false) {pc : Nat} {H : Heap} {ls : Array Slot} (hdg : decode code pc = .ok (.ireturn, 1)) : W p l e R s m args below meth c H [] 600000 7302250 (lw_Z below args s) (F0 m pc ls [.int 1]) := by
  intro T hT X
  obtain ⟨fs, hret, hrun, hended, hW, hframe⟩ := X.leave (v := some (.int 1)) (hlocks := hlocks) (fun h => by rw [hr] at h; cases h)
  have hmeth' : T.vm.method? m = some meth := X.method'
  refine ⟨T.setFrames fs, ?_, .returned (some (.int 1)), hrun, hended, rfl, ⟨_, rfl⟩, hW, hframe⟩
  jvm_step X.here [X.here.top, hx, hb, hdg, hmeth', hr, ret, narrow_b1]
  (try refine ⟨rfl, ?_⟩); (try refine ⟨rfl, ?_⟩)
  first | (intro acts; rw [hret _ acts rfl rfl rfl]) | rw [hret _ _ rfl rfl rfl]
  exact Steps.refl _
def mlaw (L : Nat) (xs : Nat → Int32) : zM := (R_law0, cL_law, 4, some .boolean, false, 12, 600000, 7302250, 0, some (L, xs))
theorem mlaw_n0 {L : Nat} {xs : Nat → Int32} : zM_n0 (mlaw L xs) = 0 := rfl
theorem mlaw_mc {L : Nat} {xs : Nat → Int32} : zM_mc (mlaw L xs) = 600000 := rfl
theorem mlaw_ms {L : Nat} {xs : Nat → Int32} : zM_ms (mlaw L xs) = 7302250 := rfl
theorem mlaw_d {L : Nat} {xs : Nat → Int32} : zM_d (mlaw L xs) = 12 := rfl
def zLQ : zQT := fun below args s _ _ _ => lw_Z below args s
theorem z32 (x : Int32) : zin x.toInt := ⟨Int32.le_toInt x, Int32.toInt_lt x⟩
theorem zc_scr (B : Nat × Nat) : zc B (vR 1000) = .ref B.2 := by
  show zrf B 1000 = _
  unfold zrf zad
  rw [if_neg (by decide), if_pos rfl]
theorem zSL_N : zSL zN ≤ 7302250 := by decide +kernel
theorem zN_le : zN ≤ 600000 := Nat.le_of_ble_eq_true rfl
theorem lg_cmp_s (x : Int64) : lg_cmp x x = 0 := by
  unfold lg_cmp
  simp
section
variable {L : Nat} {xs : Nat → Int32} {Q : zQT} {pc n : Nat} {ls : List (Option zv)} {st : List zv} {g : zG} {h : zH}
theorem wp_slen (hd : decode cL_law pc = .ok (.arraylength, 1)) (k : WP (mlaw L xs) Q (pc + 1) ls (vI (L : Int) :: st) n g h) : WP (mlaw L xs) Q pc ls (vR 1000 :: st) n g h := by
  intro p l e s m args below meth c H locs cells slots D cs B lA C R S hA e1 e2 L'
  obtain ⟨hx, hb, -, -, -, -, hown, hts, hK, hsc, -⟩ := id C
  obtain ⟨hX, hbl, hb1⟩ := hsc _ rfl
  rw [List.map_cons, zc_scr]
  refine va_slen (A := zA B) hx hb hX hbl (fun q => by have : B.1 + 1 ≤ B.2 := q; omega) S hd ?_
  have k' := k p l e s m args below meth c H locs cells slots D cs B lA C R S hA e1 e2 L'
  rw [List.map_cons, show zc B (vI (L : Int)) = .int (Int32.ofNat L) from congrArg Value.int Int32.ofInt_eq_ofNat] at k'
  exact k'
theorem wp_sld {i : Int} (hd : decode cL_law pc = .ok (.iaload, 1)) (hi : 0 ≤ i ∧ i < L) (hL : L ≤ 3584) (k : WP (mlaw L xs) Q (pc + 1) ls (vI (xs i.toNat).toInt :: st) n g h) : WP (mlaw L xs) Q pc ls (vI i :: vR 1000 :: st) n g h := by
  intro p l e s m args below meth c H locs cells slots D cs B lA C R S hA e1 e2 L'
  obtain ⟨hx, hb, -, -, -, -, hown, hts, hK, hsc, -⟩ := id C
  obtain ⟨hX, hbl, hb1⟩ := hsc _ rfl
  rw [List.map_cons, List.map_cons, zc_scr]
  refine va_sld (A := zA B) hx hb hX hbl (fun q => by have : B.1 + 1 ≤ B.2 := q; omega) S (zin_vp hi.1 hi.2 (by omega)) hd ?_
  have k' := k p l e s m args below meth c H locs cells slots D cs B lA C R S hA e1 e2 L'
  rw [List.map_cons, show zc B (vI (xs i.toNat).toInt) = .int (xs i.toNat) from congrArg Value.int (Int32.ofInt_toInt _)] at k'
  rw [zin_clamp ⟨by omega, by omega⟩]
  exact k'
theorem wp_iandA {M : zM} {x y : Int} (hd : decode (zM_cc M) pc = .ok (.iand, 1)) (k : ∀ v, zin v → WP M Q (pc + 1) ls (vI v :: st) n g h) : WP M Q pc ls (vI y :: vI x :: st) n g h := by
  intro p l e s m args below meth c H locs cells slots D cs B lA C R S hA e1 e2 L'
  refine lv_iand C.1 C.2.1 hd ?_
  have k' := k (Int32.ofInt x &&& Int32.ofInt y).toInt (z32 _) p l e s m args below meth c H locs cells slots D cs B lA C R S hA e1 e2 L'
  rw [List.map_cons, show zc B (vI (Int32.ofInt x &&& Int32.ofInt y).toInt) = .int (Int32.ofInt x &&& Int32.ofInt y) from congrArg Value.int (Int32.ofInt_toInt _)] at k'
  exact k'
theorem wp_icmp_eqs {M : zM} {x off : Int} (tgt : Nat) (hd : decode (zM_cc M) pc = .ok (.if_icmp .eq off, 3)) (ht : (pc : Int) + off = (tgt : Int)) (k : WP M Q tgt ls st n g h) : WP M Q pc ls (vI x :: vI x :: st) n g h := by
  intro p l e s m args below meth c H locs cells slots D cs B lA C R S hA e1 e2 L'
  exact lv_icmp_eq C.1 C.2.1 hd ht (fun _ => k p l e s m args below meth c H locs cells slots D cs B lA C R S hA e1 e2 L') (fun q => absurd rfl q)
theorem wp_lcmps {M : zM} {x : Int} (hd : decode (zM_cc M) pc = .ok (.lcmp, 1)) (k : WP M Q (pc + 1) ls (vI 0 :: st) n g h) : WP M Q pc ls (vL x :: vL x :: st) n g h := by
  intro p l e s m args below meth c H locs cells slots D cs B lA C R S hA e1 e2 L'
  refine W.lcmp C.1 C.2.1 hd ?_
  rw [lg_cmp_s]
  exact k p l e s m args below meth c H locs cells slots D cs B lA C R S hA e1 e2 L'
theorem wp_lend (hd : decode cL_law pc = .ok (.ireturn, 1)) (hn : n ≤ 600000) (hs : zSL n ≤ 7302250) : WP (mlaw L xs) zLQ pc ls [vI 1] n g h := by
  intro p l e s m args below meth c H locs cells slots D cs B lA C R S hA e1 e2 L'
  have e1' : cells + 0 = n := e1
  have e2' : slots + 0 = zSL n := e2
  refine va_forget (fun q hq => ?_) ?_
  · have h1 : B.1 + 1 ≤ q.base := S.2.2 q hq
    have h2 : s.heap.size = B.1 + 1 + 0 := hA
    omega
  · refine W.widen (k := 600000) (n := 7302250) (by omega) (by omega) ?_
    exact w_lret C.1 C.2.1 C.2.2.2.1 C.2.2.2.2.1 hd
theorem l_call {y : MethodName} {M' : zM} {As rest : List zv} {K' : Option zv → Nat → zG → zH → Prop} {b idx ci N np : Nat} (hd : decode cL_law pc = .ok (.invokevirtual idx, 3)) (hlk : Cond.methodLink R_law0 idx y ∈ zbig) (hv : zV2 y M' np ci) (hnp : As.length = np) (hdep : zM_d M' < 12) (hs : zIs zN b (ci, N)) (hcat : zcat rest ≤ 8) (hst : st = As.reverse ++ vR b :: rest) (hc : CALL y M' (vR b :: As) zGR h K') (kk : ∀ r n' g' h', K' r n' g' h' → WP (mlaw L xs) Q (pc + 3) ls (r.toList ++ rest) n' g' h') : WP (mlaw L xs) Q pc ls st zN zGR h := by
  obtain ⟨a1, a2, a3, a4, a5, a6⟩ := hv
  refine wp_callV hd hlk a1 a2 hnp (by rw [mlaw_d]; exact hdep) hs a5 ⟨?_, ?_⟩ a6 hcat hst hc kk
  · rw [a3, mlaw_n0, mlaw_mc, Nat.add_zero, Nat.zero_add]
    exact zN_le
  · rw [a4, mlaw_n0, mlaw_ms, Nat.add_zero, show zSL 0 = 0 from rfl, Nat.zero_add]
    exact zSL_N
theorem l_ci {y : MethodName} {M' : zM} {P : Int → zH → Prop} {As rest : List zv} {b idx ci N np : Nat} (hd : decode cL_law pc = .ok (.invokevirtual idx, 3)) (hlk : Cond.methodLink R_law0 idx y ∈ zbig) (hv : zV2 y M' np ci) (hnp : As.length = np) (hdep : zM_d M' < 12) (hs : zIs zN b (ci, N)) (hcat : zcat rest ≤ 8) (hst : st = As.reverse ++ vR b :: rest) (hc : CALL y M' (vR b :: As) zGR h (zKI P)) (kk : ∀ x h', P x h' → WP (mlaw L xs) Q (pc + 3) ls (vI x :: rest) zN zGR h') : WP (mlaw L xs) Q pc ls st zN zGR h :=
  l_call hd hlk hv hnp hdep hs hcat hst hc (fun r n' g' h' q => by
    obtain ⟨x, rfl, rfl, rfl, hP⟩ := q
    exact kk x h' hP)
theorem l_cl {y : MethodName} {M' : zM} {P : Int → zH → Prop} {As rest : List zv} {b idx ci N np : Nat} (hd : decode cL_law pc = .ok (.invokevirtual idx, 3)) (hlk : Cond.methodLink R_law0 idx y ∈ zbig) (hv : zV2 y M' np ci) (hnp : As.length = np) (hdep : zM_d M' < 12) (hs : zIs zN b (ci, N)) (hcat : zcat rest ≤ 8) (hst : st = As.reverse ++ vR b :: rest) (hc : CALL y M' (vR b :: As) zGR h (zKL P)) (kk : ∀ x h', P x h' → WP (mlaw L xs) Q (pc + 3) ls (vL x :: rest) zN zGR h') : WP (mlaw L xs) Q pc ls st zN zGR h :=
  l_call hd hlk hv hnp hdep hs hcat hst hc (fun r n' g' h' q => by
    obtain ⟨x, rfl, rfl, rfl, hP⟩ := q
    exact kk x h' hP)
end
/-- both hold the same state -/
def zBo (s : zS) (h : zH) : Prop := zW s h ∧ zV s h
theorem zBo_1 {p : Int} {c : Nat → Nat → Int} {hs : List (Int × (Nat → Nat → Int))} {tx : Nat → Int} {L : Nat} {h h1 : zH} (V : zVd p c hs tx L h) (X : zFX h h1) : zVd p c hs tx L h1 := zVd_fr V (fun a j ha => X a j (by unfold zVFm zKnF zKoF at ha; omega))
theorem zBo_2 {s : zS} {h1 h2 : zH} (W : zW s h1) (V : zV s h2) (X : ∀ a j, a < 445 → h2 a j = h1 a j) : zBo s h2 := ⟨zWd_fr W (fun a j ha => X a j ha), V⟩
