/-- what is read off the tables of a method y -/
def zMF (y : MethodName) (M : zM) (np : Nat) : Prop := Cond.code y (zM_cc M) (zM_nL M) (zM_ret M) ∈ zbig ∧ Cond.initialized y.cls ∈ zbig ∧ (y.cls ≠ "java/lang/invoke/MethodHandle" ∧ y.cls ≠ "java/lang/invoke/VarHandle") ∧ (parseMethodDescriptor y.desc).map (fun d => d.parameters.length) = some np ∧ zM_nL M ≤ 19 ∧ plainName y.cls = true ∧ y.cls = zM_own M ∧ (zM_ini M = true → y.name = "<init>") ∧ zM_sc M = none
def zVF (y : MethodName) (ci : Nat) : Prop := Cond.instanceMethod y ∈ zbig ∧ Cond.selects y.cls y y ∈ zbig ∧ ci < 10 ∧ zR ci = y.cls
def zcat (st : List zv) : Nat := (st.map (fun v => if zsafe (some v) then 1 else 2)).sum
theorem zcat_eq (B : Nat × Nat) (st : List zv) : ((st.map (zc B)).map fun v => v.category).sum = zcat st := by
  unfold zcat
  rw [List.map_map]
  congr 1
  apply List.map_congr_left
  intro v _
  show (zc B v).category = _
  by_cases q : zsafe (some v) = true
  · rw [if_pos q, zc_cat q]
  · rw [if_neg q]
    rcases v with x | r | x
    · exact absurd rfl q
    · exact absurd rfl q
    · rfl
theorem lv_args_mem : ∀ (vs : List Value) (k i : Nat) (v : Value), (∀ w ∈ vs, w.category = 1) → vs[i]? = some v → (k + i, v) ∈ lv_args k vs := by
  intro vs
  induction vs with
  | nil => intro k i v _ h; simp at h
  | cons w t ih =>
    intro k i v hc h
    have hw : ¬ w.category = 2 := by have := hc w List.mem_cons_self; omega
    unfold lv_args
    rw [if_neg hw]
    cases i with
    | zero =>
      simp only [List.getElem?_cons_zero, Option.some.injEq] at h
      subst h
      exact List.mem_cons_self
    | succ i =>
      rw [List.getElem?_cons_succ] at h
      have := ih (k + 1) i v (fun z hz => hc z (List.mem_cons_of_mem _ hz)) h
      rw [show k + (i + 1) = k + 1 + i by omega]
      exact List.mem_cons_of_mem _ this
theorem zAO.moved {u U : State} (hvm : u.vm.Alike U.vm) (h : zAO u) : zAO U := ⟨Jvm.Stand.arrayOver_alikeB hvm h.1, va_AO.moved hvm h.2⟩
theorem CALL_intro {y : MethodName} {M : zM} {As : List zv} {g : zG} {h : zH} {K : Option zv → Nat → zG → zH → Prop} {np : Nat} (hmf : zMF y M np) (hsafe : As.all (fun v => zsafe (some v)) = true) (hlen : As.length ≤ zM_nL M)
    (hw : WP M (zMQ M K) 0 (As.map some ++ List.replicate (zM_nL M - As.length) none) [] (zM_n0 M) g h) : CALL y M As g h K := by
  intro l D cs B
  obtain ⟨-, -, -, -, -, hplain, hown, hini, hsc⟩ := hmf
  refine Met.ofW (cc := zM_cc M) (maxL := zM_nL M) (ret := zM_ret M) hplain rfl ?_
  intro p e s m args below meth c s₁ Bd hml hv
  obtain ⟨rfl, hK, hAO, hR⟩ := hv
  have hts := atoms_spec (ws := Cond.code y (zM_cc M) (zM_nL M) (zM_ret M) :: zbig) Bd.pre
  rw [lg_entry_eq]
  have hc1 : ∀ w ∈ As.map (zc B), w.category = 1 := by
    intro w hw
    obtain ⟨v, hv, rfl⟩ := List.mem_map.mp hw
    exact zc_cat (List.all_eq_true.mp hsafe v hv)
  have hsl : lg_sl (As.map (zc B)) = (As.map (zc B)).map Slot.val := by
    clear hlen hw hts
    revert hc1
    generalize As.map (zc B) = vs
    intro hc1
    induction vs with
    | nil => rfl
    | cons w t ih =>
      have hw : ¬ w.category = 2 := by have := hc1 w List.mem_cons_self; omega
      show (if w.category = 2 then [Slot.val w, .second] else [.val w]) ++ lg_sl t = _
      rw [if_neg hw, ih (fun z hz => hc1 z (List.mem_cons_of_mem _ hz))]
      rfl
  have hl := lv_entry (As.map (zc B)) (n := zM_nL M) (by rw [hsl]; simpa using hlen)
  generalize (lg_sl (As.map (zc B)) ++ List.replicate (zM_nL M - (lg_sl (As.map (zc B))).length) Slot.unset).toArray = lA at hl ⊢
  refine hw p l e s m _ below meth c s.heap [] 0 0 D cs B lA ⟨Bd.exec, Bd.bytes, hml, Bd.returns, Bd.notSynchronized, fun q => by rw [(name_of_methodNamed Bd.named Bd.method).1]; exact hini q, by rw [← hown]; exact findClass_of_methodNamed Bd.named, fun w h => hts w (List.mem_cons_of_mem _ h), hK, fun q hq => (by rw [hsc] at hq; cases hq), fun q => q.elim hAO (fun z => absurd hsc z)⟩ hR va_S.rf hR.1 (Nat.zero_add _) (Nat.zero_add _) ⟨hl.1, hl.2.1, fun i v hi => ?_⟩
  have h3 : As[i]? = some v := by
    by_cases q : i < As.length
    · rw [List.getElem?_append_left (by simpa using q), List.getElem?_map] at hi
      cases h4 : As[i]? with
      | none => rw [h4] at hi; cases hi
      | some u => rw [h4] at hi; simp only [Option.map_some, Option.some.injEq] at hi; rw [hi]
    · rw [List.getElem?_append_right (by simpa using q)] at hi
      have := List.mem_of_getElem? hi
      have := List.eq_of_mem_replicate this
      cases this
  have h5 := lv_args_mem (As.map (zc B)) 0 i (zc B v) hc1 (by rw [List.getElem?_map, h3]; rfl)
  rw [Nat.zero_add] at h5
  exact hl.2.2 _ h5
section
variable {M : zM} {Q : zQT} {pc n : Nat} {ls : List (Option zv)} {st : List zv} {g : zG} {h : zH}
theorem z_back {M' : zM} {K' : Option zv → Nat → zG → zH → Prop} {rest : List zv} (kk : ∀ r n' g' h', K' r n' g' h' → WP M Q (pc + 3) ls (r.toList ++ rest) n' g' h') (hn : zM_n0 M' = n)
    {p : Program} {l : Launch} {e : Env} {s : State} {m : MethodId} {args : Array Value} {below : List Frame} {meth : Method} {c : Code} {H : Heap} {locs : List Loc} {cells slots : Nat} {D : va_G} {cs : zcs} {B : Nat × Nat} {lA : Array Slot} {f : JFrame} {Aa : Array Value} {stv : List Value} (hf : f = F0 m pc lA stv)
    (C : zCtx M p s m args meth c D cs B) (S : va_S (zA B) s.heap H locs) (hA : s.heap.size = B.1 + 1 + zM_n0 M) (e1 : cells + zM_n0 M = n) (e2 : slots + zSL (zM_n0 M) = zSL n) (L : zL B (zM_nL M) lA ls)
    (hr : va_Run p l e (zRm (zM_d M) (zM_mc M) (zM_ms M)) s m args below meth c H locs cells slots (zM_mc M') (zM_ms M') f (rest.map (zc B)) (zQc M' D cs B K' Aa) (zA B)) : W p l e (zRm (zM_d M) (zM_mc M) (zM_ms M)) s m args below meth c H locs cells slots (Q below args s D cs B) f := by
  subst hf
  intro T hT X
  obtain ⟨v, st₀, t, T', L', h0, X', hL, e3, e4, ⟨r, n', g', h', hv, hK', hR', hn', hsl', hF⟩, stp⟩ := hr T hT X
  cases hv
  obtain ⟨hz, hk⟩ := hF
  rw [h0] at hz hk
  have k' := kk r n' g' h' hK' p l e s m args below meth c T'.heap (locs ++ L') (cells + zM_mc M') (slots + zM_ms M') D cs B lA C (by rw [e3]; exact hR')
    ⟨Nat.le_trans S.1 (by rw [e3]; exact hz), fun q h1 h2 => by rw [e3, hk q (Nat.lt_of_lt_of_le h1 S.1) h2]; exact S.2.1 q h1 h2, fun q hq => by
      rcases List.mem_append.mp hq with h | h
      · exact S.2.2 q h
      · exact hL q h⟩ hA (by omega) (by rw [hsl', hn]; omega) L
  obtain ⟨t2, a1, b1⟩ := k' T' rfl X'
  refine ⟨t2, stp t2 ?_, b1⟩
  have e9 : List.map (zc B) (r.toList ++ rest) = (r.map (zc B)).toList ++ List.map (zc B) rest := by
    rw [List.map_append]
    cases r <;> rfl
  rw [e9] at a1
  exact a1
theorem z_callB {y : MethodName} {M' : zM} {np idx : Nat} {s : State} {args : Array Value} (hts : ∀ w ∈ zbig, w.before args s = true) (hlk : Cond.methodLink (zM_own M) idx y ∈ zbig) (hmf : zMF y M' np) (hdep : zM_d M' < zM_d M) :
    CallB (zRm (zM_d M) (zM_mc M) (zM_ms M)) s args (zM_own M) idx y (zM_cc M') (zM_nL M') (zM_ret M') (Cond.code y (zM_cc M') (zM_nL M') (zM_ret M') :: zbig) (zRm (zM_d M') (zM_mc M') (zM_ms M')) (zM_mc M') (zM_ms M') np := by
  obtain ⟨hco, hin, hna, hnp, hnl, -⟩ := hmf
  refine ⟨rfl, rfl, hdep, ?_, pay_in hts (fun w hw => ?_), List.mem_cons_self, hts _ hco, hts _ hin, hna, fun sig h => ?_, hts _ hlk⟩
  · show 8 + (zM_nL M' + 11) + 38 * zM_d M' ≤ 38 * zM_d M
    omega
  · rcases List.mem_cons.mp hw with rfl | h
    · exact z_goodin _ hco
    · exact z_goodin _ h
  · rw [h] at hnp
    exact (Option.some.inj hnp).symm
theorem wp_callV {y : MethodName} {M' : zM} {As rest : List zv} {K' : Option zv → Nat → zG → zH → Prop} {b idx ci N np : Nat} (hd : decode (zM_cc M) pc = .ok (.invokevirtual idx, 3)) (hlk : Cond.methodLink (zM_own M) idx y ∈ zbig) (hmf : zMF y M' np) (hvf : zVF y ci) (hnp : As.length = np) (hdep : zM_d M' < zM_d M) (hs : zIs n b (ci, N)) (hn : zM_n0 M' = n)
    (hroom : n + zM_mc M' ≤ zM_n0 M + zM_mc M ∧ zSL n + zM_ms M' ≤ zSL (zM_n0 M) + zM_ms M) (hi : zM_ini M' = false) (hcat : zcat rest ≤ 8) (hst : st = As.reverse ++ vR b :: rest) (hc : CALL y M' (vR b :: As) g h K') (kk : ∀ r n' g' h', K' r n' g' h' → WP M Q (pc + 3) ls (r.toList ++ rest) n' g' h') : WP M Q pc ls st n g h := by
  intro p l e s m args below meth c H locs cells slots D cs B lA C R S hA e1 e2 L
  obtain ⟨hx, hb, hml, -, -, -, hown, hts, hK, -, hAO⟩ := id C
  obtain ⟨hvi, hvs, hci, hcl⟩ := hvf
  have hr99 : (ci, N).1 ≠ 99 := by show ci ≠ 99; omega
  subst hst
  have hcb := zc_ref (B := B) hs hr99
  have hM := hc l D cs B
  rw [List.map_cons, hcb] at hM
  have ha := zws_get (cs := cs) (B := B) (g := g) (h := h) hs.2.1 hs.2.2
  rw [zcell_o hs.1 hci] at ha
  refine z_back (M' := M') kk hn rfl C S hA e1 e2 L (va_runV (As := As.map (zc B)) (rest := rest.map (zc B)) ⟨hx, hb, hml, hown, hts⟩ hM ⟨z_callB hts hlk hmf hdep, hts _ hvi, hts _ hvs⟩ ⟨fun a U f mk q => ⟨q.1, va_K.moved (u := U) (U := U.calling f mk a) (Vm.Alike.refl U.vm) q.2.1, fun z => zAO.moved (u := U) (U := U.calling f mk a) (Vm.Alike.refl U.vm) (q.2.2.1 z), q.2.2.2⟩, ?_, fun U hU hW => ⟨rfl, va_K.moved hW.alike hK, fun z => absurd (hi.symm.trans z) (by decide), by rw [hU, hn]; exact R⟩⟩ rfl (by rw [List.length_map, hnp]) L.1 ?_ ?_ hd ⟨?_, ?_⟩)
  · have := va_recv hK R.2 (z_vw ci hci) ha
    rw [hcl] at this
    exact this
  · rw [List.map_append, List.map_cons, hcb, List.map_reverse]
  · exact lv_room (by rw [zcat_eq]; exact hcat)
  · show cells + zM_mc M' ≤ zM_mc M
    omega
  · show slots + zM_ms M' ≤ zM_ms M
    omega
theorem wp_callS {y : MethodName} {M' : zM} {As rest : List zv} {K' : Option zv → Nat → zG → zH → Prop} {idx np : Nat} (hd : decode (zM_cc M) pc = .ok (.invokestatic idx, 3)) (hlk : Cond.methodLink (zM_own M) idx y ∈ zbig) (hmf : zMF y M' np) (hsf : Cond.static y ∈ zbig) (hnp : As.length = np) (hdep : zM_d M' < zM_d M) (hn : zM_n0 M' = n)
    (hroom : n + zM_mc M' ≤ zM_n0 M + zM_mc M ∧ zSL n + zM_ms M' ≤ zSL (zM_n0 M) + zM_ms M) (hi : zM_ini M' = false) (hcat : zcat rest ≤ 8) (hst : st = As.reverse ++ rest) (hc : CALL y M' As g h K') (kk : ∀ r n' g' h', K' r n' g' h' → WP M Q (pc + 3) ls (r.toList ++ rest) n' g' h') : WP M Q pc ls st n g h := by
  intro p l e s m args below meth c H locs cells slots D cs B lA C R S hA e1 e2 L
  obtain ⟨hx, hb, hml, -, -, -, hown, hts, hK, -, hAO⟩ := id C
  subst hst
  have hM := hc l D cs B
  refine z_back (M' := M') kk hn rfl C S hA e1 e2 L (va_runS (As := As.map (zc B)) (rest := rest.map (zc B)) ⟨hx, hb, hml, hown, hts⟩ hM ⟨z_callB hts hlk hmf hdep, hts _ hsf⟩ ⟨fun a U f mk q => ⟨q.1, va_K.moved (u := U) (U := U.calling f mk a) (Vm.Alike.refl U.vm) q.2.1, fun z => zAO.moved (u := U) (U := U.calling f mk a) (Vm.Alike.refl U.vm) (q.2.2.1 z), q.2.2.2⟩, fun U hU hW => ⟨rfl, va_K.moved hW.alike hK, fun z => absurd (hi.symm.trans z) (by decide), by rw [hU, hn]; exact R⟩⟩ rfl (by rw [List.length_map, hnp]) L.1 ?_ ?_ hd ⟨?_, ?_⟩)
  · rw [List.map_append, List.map_reverse]
  · exact lv_room (by rw [zcat_eq]; exact hcat)
  · show cells + zM_mc M' ≤ zM_mc M
    omega
  · show slots + zM_ms M' ≤ zM_ms M
    omega
theorem wp_callI {y : MethodName} {M' : zM} {As rest : List zv} {K' : Option zv → Nat → zG → zH → Prop} {b idx np : Nat} {k : Nat × Nat} (hd : decode (zM_cc M) pc = .ok (.invokespecial idx, 3)) (hlk : Cond.methodLink (zM_own M) idx y ∈ zbig) (hmf : zMF y M' np) (hret : zM_ret M' = none) (hyn : y.name = "<init>") (hvf : Cond.instanceMethod y ∈ zbig) (hnp : As.length = np) (hdep : zM_d M' < zM_d M) (hs : zIs n b k) (hk : k.1 ≠ 99) (hn : zM_n0 M' = n)
    (hroom : n + zM_mc M' ≤ zM_n0 M + zM_mc M ∧ zSL n + zM_ms M' ≤ zSL (zM_n0 M) + zM_ms M) (hcx : zM_ini M = true ∨ zM_sc M ≠ none) (hcat : zcat rest ≤ 8) (hst : st = As.reverse ++ vR b :: rest) (hc : CALL y M' (vR b :: As) g h K') (kk : ∀ r n' g' h', K' r n' g' h' → WP M Q (pc + 3) ls (r.toList ++ rest) n' g' h') : WP M Q pc ls st n g h := by
  intro p l e s m args below meth c H locs cells slots D cs B lA C R S hA e1 e2 L
  obtain ⟨hx, hb, hml, -, -, -, hown, hts, hK, -, hAO⟩ := id C
  subst hst
  have hcb := zc_ref (B := B) hs hk
  have hM := hc l D cs B
  rw [List.map_cons, hcb] at hM
  have hcB := z_callB (M := M) hts hlk hmf hdep
  rw [hret] at hM hcB
  refine z_back (M' := M') kk hn rfl C S hA e1 e2 L (va_runI (As := As.map (zc B)) (rest := rest.map (zc B)) ⟨hx, hb, hml, hown, hts⟩ hM ⟨hcB, hyn, hts _ hvf⟩ ⟨fun a U f mk q => ⟨q.1, va_K.moved (u := U) (U := U.calling f mk a) (Vm.Alike.refl U.vm) q.2.1, fun z => zAO.moved (u := U) (U := U.calling f mk a) (Vm.Alike.refl U.vm) (q.2.2.1 z), q.2.2.2⟩, fun U hU hW => ⟨rfl, va_K.moved hW.alike hK, fun _ => zAO.moved hW.alike (hAO hcx), by rw [hU, hn]; exact R⟩⟩ rfl (by rw [List.length_map, hnp]) L.1 ?_ ?_ hd ⟨?_, ?_⟩)
  · rw [List.map_append, List.map_cons, hcb, List.map_reverse]
  · exact lv_room (by rw [zcat_eq]; exact hcat)
  · show cells + zM_mc M' ≤ zM_mc M
    omega
  · show slots + zM_ms M' ≤ zM_ms M
    omega
theorem z_ends {K : Option zv → Nat → zG → zH → Prop} {r : Option zv} {s : State} {H : Heap} {locs : List Loc} {D : va_G} {cs : zcs} {B : Nat × Nat} (hn : n = zM_n0 M + zM_mc M ∧ zSL n = zSL (zM_n0 M) + zM_ms M) (hK : K r n g h) (R : zRep D cs B n g h H) (S : va_S (zA B) s.heap H locs) {args : Array Value} :
    ∀ t : State, t.heap = H → s.WarmedH t.vm → zQc M D cs B K args s (.returned (r.map (zc B))) t := fun t ht _ => ⟨r, n, g, h, rfl, hK, by rw [ht]; exact R, hn.1, hn.2, S.F ht⟩
theorem wp_iret {K : Option zv → Nat → zG → zH → Prop} {x : Int} (hd : decode (zM_cc M) pc = .ok (.ireturn, 1)) (hr : zM_ret M = some .int) (hn : n = zM_n0 M + zM_mc M ∧ zSL n = zSL (zM_n0 M) + zM_ms M) (hK : K (some (vI x)) n g h) : WP M (zMQ M K) pc ls [vI x] n g h := by
  intro p l e s m args below meth c H locs cells slots D cs B lA C R S hA e1 e2 L
  obtain ⟨hx, hb, hml, hret, hlocks, -, hown, hts, hK2, -⟩ := id C
  obtain rfl : cells = zM_mc M := by omega
  obtain rfl : slots = zM_ms M := by omega
  exact W.iret hx hb (hret.trans hr) (z_ends (r := some (vI x)) hn hK R S) S.2.2 hd hlocks
theorem wp_zret {K : Option zv → Nat → zG → zH → Prop} {x : Int} (hd : decode (zM_cc M) pc = .ok (.ireturn, 1)) (hr : zM_ret M = some .boolean) (hx1 : x = 0 ∨ x = 1) (hn : n = zM_n0 M + zM_mc M ∧ zSL n = zSL (zM_n0 M) + zM_ms M) (hK : K (some (vI x)) n g h) : WP M (zMQ M K) pc ls [vI x] n g h := by
  intro p l e s m args below meth c H locs cells slots D cs B lA C R S hA e1 e2 L
  obtain ⟨hx, hb, hml, hret, hlocks, -, hown, hts, hK2, -⟩ := id C
  obtain rfl : cells = zM_mc M := by omega
  obtain rfl : slots = zM_ms M := by omega
  exact W.zret hx hb (hret.trans hr) (by rcases hx1 with rfl | rfl <;> rfl) (z_ends (r := some (vI x)) hn hK R S) S.2.2 hd hlocks
theorem wp_lret {K : Option zv → Nat → zG → zH → Prop} {x : Int} (hd : decode (zM_cc M) pc = .ok (.lreturn, 1)) (hr : zM_ret M = some .long) (hn : n = zM_n0 M + zM_mc M ∧ zSL n = zSL (zM_n0 M) + zM_ms M) (hK : K (some (vL x)) n g h) : WP M (zMQ M K) pc ls [vL x] n g h := by
  intro p l e s m args below meth c H locs cells slots D cs B lA C R S hA e1 e2 L
  obtain ⟨hx, hb, hml, hret, hlocks, -, hown, hts, hK2, -⟩ := id C
  obtain rfl : cells = zM_mc M := by omega
  obtain rfl : slots = zM_ms M := by omega
  exact W.lret hx hb (hret.trans hr) (z_ends (r := some (vL x)) hn hK R S) S.2.2 hd hlocks
theorem wp_aret {K : Option zv → Nat → zG → zH → Prop} {x : Nat} (hd : decode (zM_cc M) pc = .ok (.areturn, 1)) (hr : zM_ret M = some (.array .int)) (hn : n = zM_n0 M + zM_mc M ∧ zSL n = zSL (zM_n0 M) + zM_ms M) (hK : K (some (vR x)) n g h) : WP M (zMQ M K) pc ls [vR x] n g h := by
  intro p l e s m args below meth c H locs cells slots D cs B lA C R S hA e1 e2 L
  obtain ⟨hx, hb, hml, hret, hlocks, -, hown, hts, hK2, -⟩ := id C
  obtain rfl : cells = zM_mc M := by omega
  obtain rfl : slots = zM_ms M := by omega
  exact W.aret (v := zrf B x) hx hb (hret.trans hr) (Or.inr ⟨_, rfl⟩) (by unfold zrf; split <;> simp) (z_ends (r := some (vR x)) hn hK R S) S.2.2 hd hlocks
theorem wp_areto {co : String} {K : Option zv → Nat → zG → zH → Prop} {x : Nat} (hd : decode (zM_cc M) pc = .ok (.areturn, 1)) (hr : zM_ret M = some (.object co)) (hn : n = zM_n0 M + zM_mc M ∧ zSL n = zSL (zM_n0 M) + zM_ms M) (hK : K (some (vR x)) n g h) : WP M (zMQ M K) pc ls [vR x] n g h := by
  intro p l e s m args below meth c H locs cells slots D cs B lA C R S hA e1 e2 L
  obtain ⟨hx, hb, hml, hret, hlocks, -, hown, hts, hK2, -⟩ := id C
  obtain rfl : cells = zM_mc M := by omega
  obtain rfl : slots = zM_ms M := by omega
  exact W.aret (v := zrf B x) hx hb (hret.trans hr) (Or.inl ⟨_, rfl⟩) (by unfold zrf; split <;> simp) (z_ends (r := some (vR x)) hn hK R S) S.2.2 hd hlocks
theorem wp_vret {K : Option zv → Nat → zG → zH → Prop} (hd : decode (zM_cc M) pc = .ok (.return_, 1)) (hr : zM_ret M = none) (hn : n = zM_n0 M + zM_mc M ∧ zSL n = zSL (zM_n0 M) + zM_ms M) (hK : K none n g h) : WP M (zMQ M K) pc ls [] n g h := by
  intro p l e s m args below meth c H locs cells slots D cs B lA C R S hA e1 e2 L
  obtain ⟨hx, hb, hml, hret, hlocks, -, hown, hts, hK2, -⟩ := id C
  obtain rfl : cells = zM_mc M := by omega
  obtain rfl : slots = zM_ms M := by omega
  exact W.vret hx hb (hret.trans hr) (z_ends (r := none) hn hK R S) S.2.2 hd hlocks
end
/-! ===== methods of the run, when all cells are made: what they answer and the heap behind them ===== -/
def zKI (P : Int → zH → Prop) : Option zv → Nat → zG → zH → Prop := fun r n' g' h' => ∃ x, r = some (vI x) ∧ n' = zN ∧ g' = zGR ∧ P x h'
def zKL (P : Int → zH → Prop) : Option zv → Nat → zG → zH → Prop := fun r n' g' h' => ∃ x, r = some (vL x) ∧ n' = zN ∧ g' = zGR ∧ P x h'
def zKR (P : Nat → zH → Prop) : Option zv → Nat → zG → zH → Prop := fun r n' g' h' => ∃ x, r = some (vR x) ∧ n' = zN ∧ g' = zGR ∧ P x h'
def zKV (P : zH → Prop) : Option zv → Nat → zG → zH → Prop := fun r n' g' h' => r = none ∧ n' = zN ∧ g' = zGR ∧ P h'
abbrev CI (y : MethodName) (M : zM) (As : List zv) (h : zH) (P : Int → zH → Prop) : Prop := CALL y M As zGR h (zKI P)
abbrev CL (y : MethodName) (M : zM) (As : List zv) (h : zH) (P : Int → zH → Prop) : Prop := CALL y M As zGR h (zKL P)
abbrev CR (y : MethodName) (M : zM) (As : List zv) (h : zH) (P : Nat → zH → Prop) : Prop := CALL y M As zGR h (zKR P)
abbrev CV (y : MethodName) (M : zM) (As : List zv) (h : zH) (P : zH → Prop) : Prop := CALL y M As zGR h (zKV P)
/-- the facts of a method of the run -/
def zV2 (y : MethodName) (M : zM) (np ci : Nat) : Prop := zMF y M np ∧ zVF y ci ∧ zM_mc M = 0 ∧ zM_ms M = 0 ∧ zM_n0 M = zN ∧ zM_ini M = false
def zS2 (y : MethodName) (M : zM) (np : Nat) : Prop := zMF y M np ∧ Cond.static y ∈ zbig ∧ zM_mc M = 0 ∧ zM_ms M = 0 ∧ zM_n0 M = zN ∧ zM_ini M = false
abbrev zWP (M : zM) (K : Option zv → Nat → zG → zH → Prop) (pc : Nat) (ls : List (Option zv)) (st : List zv) (h : zH) : Prop := WP M (zMQ M K) pc ls st zN zGR h
theorem inV {y : MethodName} {M : zM} {np ci : Nat} {As : List zv} {h : zH} {K : Option zv → Nat → zG → zH → Prop} (ls : List (Option zv)) (hv : zV2 y M np ci) (hsafe : As.all (fun v => zsafe (some v)) = true) (hlen : As.length ≤ zM_nL M) (hls : As.map some ++ List.replicate (zM_nL M - As.length) none = ls) (hw : WP M (zMQ M K) 0 ls [] zN zGR h) : CALL y M As zGR h K := by
  subst hls
  exact CALL_intro hv.1 hsafe hlen (by rw [hv.2.2.2.2.1]; exact hw)
theorem inS {y : MethodName} {M : zM} {np : Nat} {As : List zv} {h : zH} {K : Option zv → Nat → zG → zH → Prop} (ls : List (Option zv)) (hv : zS2 y M np) (hsafe : As.all (fun v => zsafe (some v)) = true) (hlen : As.length ≤ zM_nL M) (hls : As.map some ++ List.replicate (zM_nL M - As.length) none = ls) (hw : WP M (zMQ M K) 0 ls [] zN zGR h) : CALL y M As zGR h K := by
  subst hls
  exact CALL_intro hv.1 hsafe hlen (by rw [hv.2.2.2.2.1]; exact hw)
section
variable {M : zM} {Q : zQT} {pc : Nat} {ls : List (Option zv)} {st : List zv} {h : zH}
def zE (M : zM) : Prop := zM_mc M = 0 ∧ zM_ms M = 0 ∧ zM_n0 M = zN
theorem zE_n (he : zE M) : zN = zM_n0 M + zM_mc M ∧ zSL zN = zSL (zM_n0 M) + zM_ms M := by
  obtain ⟨h1, h2, h3⟩ := he
  rw [h1, h2, h3]
  exact ⟨(Nat.add_zero _).symm, (Nat.add_zero _).symm⟩
theorem r_i {P : Int → zH → Prop} {x : Int} (hd : decode (zM_cc M) pc = .ok (.ireturn, 1)) (hr : zM_ret M = some .int) (he : zE M) (hP : P x h) : WP M (zMQ M (zKI P)) pc ls [vI x] zN zGR h := wp_iret hd hr (zE_n he) ⟨x, rfl, rfl, rfl, hP⟩
theorem r_z {P : Int → zH → Prop} {x : Int} (hd : decode (zM_cc M) pc = .ok (.ireturn, 1)) (hr : zM_ret M = some .boolean) (he : zE M) (hx : x = 0 ∨ x = 1) (hP : P x h) : WP M (zMQ M (zKI P)) pc ls [vI x] zN zGR h := wp_zret hd hr hx (zE_n he) ⟨x, rfl, rfl, rfl, hP⟩
theorem r_l {P : Int → zH → Prop} {x : Int} (hd : decode (zM_cc M) pc = .ok (.lreturn, 1)) (hr : zM_ret M = some .long) (he : zE M) (hP : P x h) : WP M (zMQ M (zKL P)) pc ls [vL x] zN zGR h := wp_lret hd hr (zE_n he) ⟨x, rfl, rfl, rfl, hP⟩
theorem r_a {P : Nat → zH → Prop} {x : Nat} (hd : decode (zM_cc M) pc = .ok (.areturn, 1)) (hr : zM_ret M = some (.array .int)) (he : zE M) (hP : P x h) : WP M (zMQ M (zKR P)) pc ls [vR x] zN zGR h := wp_aret hd hr (zE_n he) ⟨x, rfl, rfl, rfl, hP⟩
theorem r_ao {co : String} {P : Nat → zH → Prop} {x : Nat} (hd : decode (zM_cc M) pc = .ok (.areturn, 1)) (hr : zM_ret M = some (.object co)) (he : zE M) (hP : P x h) : WP M (zMQ M (zKR P)) pc ls [vR x] zN zGR h := wp_areto hd hr (zE_n he) ⟨x, rfl, rfl, rfl, hP⟩
theorem r_v {P : zH → Prop} (hd : decode (zM_cc M) pc = .ok (.return_, 1)) (hr : zM_ret M = none) (he : zE M) (hP : P h) : WP M (zMQ M (zKV P)) pc ls [] zN zGR h := wp_vret hd hr (zE_n he) ⟨rfl, rfl, rfl, hP⟩
theorem cv_core {y : MethodName} {M' : zM} {As rest : List zv} {K' : Option zv → Nat → zG → zH → Prop} {b idx ci N np : Nat} (hd : decode (zM_cc M) pc = .ok (.invokevirtual idx, 3)) (hlk : Cond.methodLink (zM_own M) idx y ∈ zbig) (hv : zV2 y M' np ci) (hnp : As.length = np) (hdep : zM_d M' < zM_d M) (he : zE M) (hs : zIs zN b (ci, N)) (hcat : zcat rest ≤ 8) (hst : st = As.reverse ++ vR b :: rest) (hc : CALL y M' (vR b :: As) zGR h K') (kk : ∀ r n' g' h', K' r n' g' h' → WP M Q (pc + 3) ls (r.toList ++ rest) n' g' h') : WP M Q pc ls st zN zGR h := by
  obtain ⟨h1, h2, h3, h4, h5, h7⟩ := hv
  have h6 := zE_n he
  exact wp_callV hd hlk h1 h2 hnp hdep hs h5 ⟨by have := h6.1; omega, by have := h6.2; omega⟩ h7 hcat hst hc kk
theorem cs_core {y : MethodName} {M' : zM} {As rest : List zv} {K' : Option zv → Nat → zG → zH → Prop} {idx np : Nat} (hd : decode (zM_cc M) pc = .ok (.invokestatic idx, 3)) (hlk : Cond.methodLink (zM_own M) idx y ∈ zbig) (hv : zS2 y M' np) (hnp : As.length = np) (hdep : zM_d M' < zM_d M) (he : zE M) (hcat : zcat rest ≤ 8) (hst : st = As.reverse ++ rest) (hc : CALL y M' As zGR h K') (kk : ∀ r n' g' h', K' r n' g' h' → WP M Q (pc + 3) ls (r.toList ++ rest) n' g' h') : WP M Q pc ls st zN zGR h := by
  obtain ⟨h1, h2, h3, h4, h5, h7⟩ := hv
  have h6 := zE_n he
  exact wp_callS hd hlk h1 h2 hnp hdep h5 ⟨by have := h6.1; omega, by have := h6.2; omega⟩ h7 hcat hst hc kk
theorem v_i0 {y : MethodName} {M' : zM} {P : Int → zH → Prop} {b idx ci N : Nat} (hd : decode (zM_cc M) pc = .ok (.invokevirtual idx, 3)) (hlk : Cond.methodLink (zM_own M) idx y ∈ zbig) (hv : zV2 y M' 0 ci) (hdep : zM_d M' < zM_d M) (he : zE M) (hs : zIs zN b (ci, N)) (hcat : zcat st ≤ 8) (hc : CALL y M' (vR b :: []) zGR h (zKI P)) (kk : ∀ x h', P x h' → WP M Q (pc + 3) ls (vI x :: st) zN zGR h') : WP M Q pc ls (vR b :: st) zN zGR h := cv_core hd hlk hv rfl hdep he hs hcat rfl hc (fun r n' g' h' hq => by obtain ⟨x, rfl, rfl, rfl, hP⟩ := hq; exact kk x h' hP)
theorem s_i0 {y : MethodName} {M' : zM} {P : Int → zH → Prop} {idx : Nat} (hd : decode (zM_cc M) pc = .ok (.invokestatic idx, 3)) (hlk : Cond.methodLink (zM_own M) idx y ∈ zbig) (hv : zS2 y M' 0) (hdep : zM_d M' < zM_d M) (he : zE M) (hcat : zcat st ≤ 8) (hc : CALL y M' [] zGR h (zKI P)) (kk : ∀ x h', P x h' → WP M Q (pc + 3) ls (vI x :: st) zN zGR h') : WP M Q pc ls (st) zN zGR h := cs_core hd hlk hv rfl hdep he hcat rfl hc (fun r n' g' h' hq => by obtain ⟨x, rfl, rfl, rfl, hP⟩ := hq; exact kk x h' hP)
theorem v_l0 {y : MethodName} {M' : zM} {P : Int → zH → Prop} {b idx ci N : Nat} (hd : decode (zM_cc M) pc = .ok (.invokevirtual idx, 3)) (hlk : Cond.methodLink (zM_own M) idx y ∈ zbig) (hv : zV2 y M' 0 ci) (hdep : zM_d M' < zM_d M) (he : zE M) (hs : zIs zN b (ci, N)) (hcat : zcat st ≤ 8) (hc : CALL y M' (vR b :: []) zGR h (zKL P)) (kk : ∀ x h', P x h' → WP M Q (pc + 3) ls (vL x :: st) zN zGR h') : WP M Q pc ls (vR b :: st) zN zGR h := cv_core hd hlk hv rfl hdep he hs hcat rfl hc (fun r n' g' h' hq => by obtain ⟨x, rfl, rfl, rfl, hP⟩ := hq; exact kk x h' hP)
theorem s_l0 {y : MethodName} {M' : zM} {P : Int → zH → Prop} {idx : Nat} (hd : decode (zM_cc M) pc = .ok (.invokestatic idx, 3)) (hlk : Cond.methodLink (zM_own M) idx y ∈ zbig) (hv : zS2 y M' 0) (hdep : zM_d M' < zM_d M) (he : zE M) (hcat : zcat st ≤ 8) (hc : CALL y M' [] zGR h (zKL P)) (kk : ∀ x h', P x h' → WP M Q (pc + 3) ls (vL x :: st) zN zGR h') : WP M Q pc ls (st) zN zGR h := cs_core hd hlk hv rfl hdep he hcat rfl hc (fun r n' g' h' hq => by obtain ⟨x, rfl, rfl, rfl, hP⟩ := hq; exact kk x h' hP)
theorem v_r0 {y : MethodName} {M' : zM} {P : Nat → zH → Prop} {b idx ci N : Nat} (hd : decode (zM_cc M) pc = .ok (.invokevirtual idx, 3)) (hlk : Cond.methodLink (zM_own M) idx y ∈ zbig) (hv : zV2 y M' 0 ci) (hdep : zM_d M' < zM_d M) (he : zE M) (hs : zIs zN b (ci, N)) (hcat : zcat st ≤ 8) (hc : CALL y M' (vR b :: []) zGR h (zKR P)) (kk : ∀ x h', P x h' → WP M Q (pc + 3) ls (vR x :: st) zN zGR h') : WP M Q pc ls (vR b :: st) zN zGR h := cv_core hd hlk hv rfl hdep he hs hcat rfl hc (fun r n' g' h' hq => by obtain ⟨x, rfl, rfl, rfl, hP⟩ := hq; exact kk x h' hP)
theorem s_r0 {y : MethodName} {M' : zM} {P : Nat → zH → Prop} {idx : Nat} (hd : decode (zM_cc M) pc = .ok (.invokestatic idx, 3)) (hlk : Cond.methodLink (zM_own M) idx y ∈ zbig) (hv : zS2 y M' 0) (hdep : zM_d M' < zM_d M) (he : zE M) (hcat : zcat st ≤ 8) (hc : CALL y M' [] zGR h (zKR P)) (kk : ∀ x h', P x h' → WP M Q (pc + 3) ls (vR x :: st) zN zGR h') : WP M Q pc ls (st) zN zGR h := cs_core hd hlk hv rfl hdep he hcat rfl hc (fun r n' g' h' hq => by obtain ⟨x, rfl, rfl, rfl, hP⟩ := hq; exact kk x h' hP)
theorem v_v0 {y : MethodName} {M' : zM} {P : zH → Prop} {b idx ci N : Nat} (hd : decode (zM_cc M) pc = .ok (.invokevirtual idx, 3)) (hlk : Cond.methodLink (zM_own M) idx y ∈ zbig) (hv : zV2 y M' 0 ci) (hdep : zM_d M' < zM_d M) (he : zE M) (hs : zIs zN b (ci, N)) (hcat : zcat st ≤ 8) (hc : CALL y M' (vR b :: []) zGR h (zKV P)) (kk : ∀ h', P h' → WP M Q (pc + 3) ls (st) zN zGR h') : WP M Q pc ls (vR b :: st) zN zGR h := cv_core hd hlk hv rfl hdep he hs hcat rfl hc (fun r n' g' h' hq => by obtain ⟨rfl, rfl, rfl, hP⟩ := hq; exact kk h' hP)
theorem s_v0 {y : MethodName} {M' : zM} {P : zH → Prop} {idx : Nat} (hd : decode (zM_cc M) pc = .ok (.invokestatic idx, 3)) (hlk : Cond.methodLink (zM_own M) idx y ∈ zbig) (hv : zS2 y M' 0) (hdep : zM_d M' < zM_d M) (he : zE M) (hcat : zcat st ≤ 8) (hc : CALL y M' [] zGR h (zKV P)) (kk : ∀ h', P h' → WP M Q (pc + 3) ls (st) zN zGR h') : WP M Q pc ls (st) zN zGR h := cs_core hd hlk hv rfl hdep he hcat rfl hc (fun r n' g' h' hq => by obtain ⟨rfl, rfl, rfl, hP⟩ := hq; exact kk h' hP)
theorem v_i1 {a1 : zv} {y : MethodName} {M' : zM} {P : Int → zH → Prop} {b idx ci N : Nat} (hd : decode (zM_cc M) pc = .ok (.invokevirtual idx, 3)) (hlk : Cond.methodLink (zM_own M) idx y ∈ zbig) (hv : zV2 y M' 1 ci) (hdep : zM_d M' < zM_d M) (he : zE M) (hs : zIs zN b (ci, N)) (hcat : zcat st ≤ 8) (hc : CALL y M' (vR b :: [a1]) zGR h (zKI P)) (kk : ∀ x h', P x h' → WP M Q (pc + 3) ls (vI x :: st) zN zGR h') : WP M Q pc ls (a1 :: vR b :: st) zN zGR h := cv_core hd hlk hv rfl hdep he hs hcat rfl hc (fun r n' g' h' hq => by obtain ⟨x, rfl, rfl, rfl, hP⟩ := hq; exact kk x h' hP)
theorem s_i1 {a1 : zv} {y : MethodName} {M' : zM} {P : Int → zH → Prop} {idx : Nat} (hd : decode (zM_cc M) pc = .ok (.invokestatic idx, 3)) (hlk : Cond.methodLink (zM_own M) idx y ∈ zbig) (hv : zS2 y M' 1) (hdep : zM_d M' < zM_d M) (he : zE M) (hcat : zcat st ≤ 8) (hc : CALL y M' [a1] zGR h (zKI P)) (kk : ∀ x h', P x h' → WP M Q (pc + 3) ls (vI x :: st) zN zGR h') : WP M Q pc ls (a1 :: st) zN zGR h := cs_core hd hlk hv rfl hdep he hcat rfl hc (fun r n' g' h' hq => by obtain ⟨x, rfl, rfl, rfl, hP⟩ := hq; exact kk x h' hP)
theorem v_l1 {a1 : zv} {y : MethodName} {M' : zM} {P : Int → zH → Prop} {b idx ci N : Nat} (hd : decode (zM_cc M) pc = .ok (.invokevirtual idx, 3)) (hlk : Cond.methodLink (zM_own M) idx y ∈ zbig) (hv : zV2 y M' 1 ci) (hdep : zM_d M' < zM_d M) (he : zE M) (hs : zIs zN b (ci, N)) (hcat : zcat st ≤ 8) (hc : CALL y M' (vR b :: [a1]) zGR h (zKL P)) (kk : ∀ x h', P x h' → WP M Q (pc + 3) ls (vL x :: st) zN zGR h') : WP M Q pc ls (a1 :: vR b :: st) zN zGR h := cv_core hd hlk hv rfl hdep he hs hcat rfl hc (fun r n' g' h' hq => by obtain ⟨x, rfl, rfl, rfl, hP⟩ := hq; exact kk x h' hP)
theorem s_l1 {a1 : zv} {y : MethodName} {M' : zM} {P : Int → zH → Prop} {idx : Nat} (hd : decode (zM_cc M) pc = .ok (.invokestatic idx, 3)) (hlk : Cond.methodLink (zM_own M) idx y ∈ zbig) (hv : zS2 y M' 1) (hdep : zM_d M' < zM_d M) (he : zE M) (hcat : zcat st ≤ 8) (hc : CALL y M' [a1] zGR h (zKL P)) (kk : ∀ x h', P x h' → WP M Q (pc + 3) ls (vL x :: st) zN zGR h') : WP M Q pc ls (a1 :: st) zN zGR h := cs_core hd hlk hv rfl hdep he hcat rfl hc (fun r n' g' h' hq => by obtain ⟨x, rfl, rfl, rfl, hP⟩ := hq; exact kk x h' hP)
theorem v_r1 {a1 : zv} {y : MethodName} {M' : zM} {P : Nat → zH → Prop} {b idx ci N : Nat} (hd : decode (zM_cc M) pc = .ok (.invokevirtual idx, 3)) (hlk : Cond.methodLink (zM_own M) idx y ∈ zbig) (hv : zV2 y M' 1 ci) (hdep : zM_d M' < zM_d M) (he : zE M) (hs : zIs zN b (ci, N)) (hcat : zcat st ≤ 8) (hc : CALL y M' (vR b :: [a1]) zGR h (zKR P)) (kk : ∀ x h', P x h' → WP M Q (pc + 3) ls (vR x :: st) zN zGR h') : WP M Q pc ls (a1 :: vR b :: st) zN zGR h := cv_core hd hlk hv rfl hdep he hs hcat rfl hc (fun r n' g' h' hq => by obtain ⟨x, rfl, rfl, rfl, hP⟩ := hq; exact kk x h' hP)
theorem s_r1 {a1 : zv} {y : MethodName} {M' : zM} {P : Nat → zH → Prop} {idx : Nat} (hd : decode (zM_cc M) pc = .ok (.invokestatic idx, 3)) (hlk : Cond.methodLink (zM_own M) idx y ∈ zbig) (hv : zS2 y M' 1) (hdep : zM_d M' < zM_d M) (he : zE M) (hcat : zcat st ≤ 8) (hc : CALL y M' [a1] zGR h (zKR P)) (kk : ∀ x h', P x h' → WP M Q (pc + 3) ls (vR x :: st) zN zGR h') : WP M Q pc ls (a1 :: st) zN zGR h := cs_core hd hlk hv rfl hdep he hcat rfl hc (fun r n' g' h' hq => by obtain ⟨x, rfl, rfl, rfl, hP⟩ := hq; exact kk x h' hP)
theorem v_v1 {a1 : zv} {y : MethodName} {M' : zM} {P : zH → Prop} {b idx ci N : Nat} (hd : decode (zM_cc M) pc = .ok (.invokevirtual idx, 3)) (hlk : Cond.methodLink (zM_own M) idx y ∈ zbig) (hv : zV2 y M' 1 ci) (hdep : zM_d M' < zM_d M) (he : zE M) (hs : zIs zN b (ci, N)) (hcat : zcat st ≤ 8) (hc : CALL y M' (vR b :: [a1]) zGR h (zKV P)) (kk : ∀ h', P h' → WP M Q (pc + 3) ls (st) zN zGR h') : WP M Q pc ls (a1 :: vR b :: st) zN zGR h := cv_core hd hlk hv rfl hdep he hs hcat rfl hc (fun r n' g' h' hq => by obtain ⟨rfl, rfl, rfl, hP⟩ := hq; exact kk h' hP)
theorem s_v1 {a1 : zv} {y : MethodName} {M' : zM} {P : zH → Prop} {idx : Nat} (hd : decode (zM_cc M) pc = .ok (.invokestatic idx, 3)) (hlk : Cond.methodLink (zM_own M) idx y ∈ zbig) (hv : zS2 y M' 1) (hdep : zM_d M' < zM_d M) (he : zE M) (hcat : zcat st ≤ 8) (hc : CALL y M' [a1] zGR h (zKV P)) (kk : ∀ h', P h' → WP M Q (pc + 3) ls (st) zN zGR h') : WP M Q pc ls (a1 :: st) zN zGR h := cs_core hd hlk hv rfl hdep he hcat rfl hc (fun r n' g' h' hq => by obtain ⟨rfl, rfl, rfl, hP⟩ := hq; exact kk h' hP)
theorem v_i2 {a1 a2 : zv} {y : MethodName} {M' : zM} {P : Int → zH → Prop} {b idx ci N : Nat} (hd : decode (zM_cc M) pc = .ok (.invokevirtual idx, 3)) (hlk : Cond.methodLink (zM_own M) idx y ∈ zbig) (hv : zV2 y M' 2 ci) (hdep : zM_d M' < zM_d M) (he : zE M) (hs : zIs zN b (ci, N)) (hcat : zcat st ≤ 8) (hc : CALL y M' (vR b :: [a1, a2]) zGR h (zKI P)) (kk : ∀ x h', P x h' → WP M Q (pc + 3) ls (vI x :: st) zN zGR h') : WP M Q pc ls (a2 :: a1 :: vR b :: st) zN zGR h := cv_core hd hlk hv rfl hdep he hs hcat rfl hc (fun r n' g' h' hq => by obtain ⟨x, rfl, rfl, rfl, hP⟩ := hq; exact kk x h' hP)
theorem s_i2 {a1 a2 : zv} {y : MethodName} {M' : zM} {P : Int → zH → Prop} {idx : Nat} (hd : decode (zM_cc M) pc = .ok (.invokestatic idx, 3)) (hlk : Cond.methodLink (zM_own M) idx y ∈ zbig) (hv : zS2 y M' 2) (hdep : zM_d M' < zM_d M) (he : zE M) (hcat : zcat st ≤ 8) (hc : CALL y M' [a1, a2] zGR h (zKI P)) (kk : ∀ x h', P x h' → WP M Q (pc + 3) ls (vI x :: st) zN zGR h') : WP M Q pc ls (a2 :: a1 :: st) zN zGR h := cs_core hd hlk hv rfl hdep he hcat rfl hc (fun r n' g' h' hq => by obtain ⟨x, rfl, rfl, rfl, hP⟩ := hq; exact kk x h' hP)
theorem v_l2 {a1 a2 : zv} {y : MethodName} {M' : zM} {P : Int → zH → Prop} {b idx ci N : Nat} (hd : decode (zM_cc M) pc = .ok (.invokevirtual idx, 3)) (hlk : Cond.methodLink (zM_own M) idx y ∈ zbig) (hv : zV2 y M' 2 ci) (hdep : zM_d M' < zM_d M) (he : zE M) (hs : zIs zN b (ci, N)) (hcat : zcat st ≤ 8) (hc : CALL y M' (vR b :: [a1, a2]) zGR h (zKL P)) (kk : ∀ x h', P x h' → WP M Q (pc + 3) ls (vL x :: st) zN zGR h') : WP M Q pc ls (a2 :: a1 :: vR b :: st) zN zGR h := cv_core hd hlk hv rfl hdep he hs hcat rfl hc (fun r n' g' h' hq => by obtain ⟨x, rfl, rfl, rfl, hP⟩ := hq; exact kk x h' hP)
theorem s_l2 {a1 a2 : zv} {y : MethodName} {M' : zM} {P : Int → zH → Prop} {idx : Nat} (hd : decode (zM_cc M) pc = .ok (.invokestatic idx, 3)) (hlk : Cond.methodLink (zM_own M) idx y ∈ zbig) (hv : zS2 y M' 2) (hdep : zM_d M' < zM_d M) (he : zE M) (hcat : zcat st ≤ 8) (hc : CALL y M' [a1, a2] zGR h (zKL P)) (kk : ∀ x h', P x h' → WP M Q (pc + 3) ls (vL x :: st) zN zGR h') : WP M Q pc ls (a2 :: a1 :: st) zN zGR h := cs_core hd hlk hv rfl hdep he hcat rfl hc (fun r n' g' h' hq => by obtain ⟨x, rfl, rfl, rfl, hP⟩ := hq; exact kk x h' hP)
theorem v_r2 {a1 a2 : zv} {y : MethodName} {M' : zM} {P : Nat → zH → Prop} {b idx ci N : Nat} (hd : decode (zM_cc M) pc = .ok (.invokevirtual idx, 3)) (hlk : Cond.methodLink (zM_own M) idx y ∈ zbig) (hv : zV2 y M' 2 ci) (hdep : zM_d M' < zM_d M) (he : zE M) (hs : zIs zN b (ci, N)) (hcat : zcat st ≤ 8) (hc : CALL y M' (vR b :: [a1, a2]) zGR h (zKR P)) (kk : ∀ x h', P x h' → WP M Q (pc + 3) ls (vR x :: st) zN zGR h') : WP M Q pc ls (a2 :: a1 :: vR b :: st) zN zGR h := cv_core hd hlk hv rfl hdep he hs hcat rfl hc (fun r n' g' h' hq => by obtain ⟨x, rfl, rfl, rfl, hP⟩ := hq; exact kk x h' hP)
theorem s_r2 {a1 a2 : zv} {y : MethodName} {M' : zM} {P : Nat → zH → Prop} {idx : Nat} (hd : decode (zM_cc M) pc = .ok (.invokestatic idx, 3)) (hlk : Cond.methodLink (zM_own M) idx y ∈ zbig) (hv : zS2 y M' 2) (hdep : zM_d M' < zM_d M) (he : zE M) (hcat : zcat st ≤ 8) (hc : CALL y M' [a1, a2] zGR h (zKR P)) (kk : ∀ x h', P x h' → WP M Q (pc + 3) ls (vR x :: st) zN zGR h') : WP M Q pc ls (a2 :: a1 :: st) zN zGR h := cs_core hd hlk hv rfl hdep he hcat rfl hc (fun r n' g' h' hq => by obtain ⟨x, rfl, rfl, rfl, hP⟩ := hq; exact kk x h' hP)
theorem v_v2 {a1 a2 : zv} {y : MethodName} {M' : zM} {P : zH → Prop} {b idx ci N : Nat} (hd : decode (zM_cc M) pc = .ok (.invokevirtual idx, 3)) (hlk : Cond.methodLink (zM_own M) idx y ∈ zbig) (hv : zV2 y M' 2 ci) (hdep : zM_d M' < zM_d M) (he : zE M) (hs : zIs zN b (ci, N)) (hcat : zcat st ≤ 8) (hc : CALL y M' (vR b :: [a1, a2]) zGR h (zKV P)) (kk : ∀ h', P h' → WP M Q (pc + 3) ls (st) zN zGR h') : WP M Q pc ls (a2 :: a1 :: vR b :: st) zN zGR h := cv_core hd hlk hv rfl hdep he hs hcat rfl hc (fun r n' g' h' hq => by obtain ⟨rfl, rfl, rfl, hP⟩ := hq; exact kk h' hP)
theorem s_v2 {a1 a2 : zv} {y : MethodName} {M' : zM} {P : zH → Prop} {idx : Nat} (hd : decode (zM_cc M) pc = .ok (.invokestatic idx, 3)) (hlk : Cond.methodLink (zM_own M) idx y ∈ zbig) (hv : zS2 y M' 2) (hdep : zM_d M' < zM_d M) (he : zE M) (hcat : zcat st ≤ 8) (hc : CALL y M' [a1, a2] zGR h (zKV P)) (kk : ∀ h', P h' → WP M Q (pc + 3) ls (st) zN zGR h') : WP M Q pc ls (a2 :: a1 :: st) zN zGR h := cs_core hd hlk hv rfl hdep he hcat rfl hc (fun r n' g' h' hq => by obtain ⟨rfl, rfl, rfl, hP⟩ := hq; exact kk h' hP)
theorem v_i3 {a1 a2 a3 : zv} {y : MethodName} {M' : zM} {P : Int → zH → Prop} {b idx ci N : Nat} (hd : decode (zM_cc M) pc = .ok (.invokevirtual idx, 3)) (hlk : Cond.methodLink (zM_own M) idx y ∈ zbig) (hv : zV2 y M' 3 ci) (hdep : zM_d M' < zM_d M) (he : zE M) (hs : zIs zN b (ci, N)) (hcat : zcat st ≤ 8) (hc : CALL y M' (vR b :: [a1, a2, a3]) zGR h (zKI P)) (kk : ∀ x h', P x h' → WP M Q (pc + 3) ls (vI x :: st) zN zGR h') : WP M Q pc ls (a3 :: a2 :: a1 :: vR b :: st) zN zGR h := cv_core hd hlk hv rfl hdep he hs hcat rfl hc (fun r n' g' h' hq => by obtain ⟨x, rfl, rfl, rfl, hP⟩ := hq; exact kk x h' hP)
theorem s_i3 {a1 a2 a3 : zv} {y : MethodName} {M' : zM} {P : Int → zH → Prop} {idx : Nat} (hd : decode (zM_cc M) pc = .ok (.invokestatic idx, 3)) (hlk : Cond.methodLink (zM_own M) idx y ∈ zbig) (hv : zS2 y M' 3) (hdep : zM_d M' < zM_d M) (he : zE M) (hcat : zcat st ≤ 8) (hc : CALL y M' [a1, a2, a3] zGR h (zKI P)) (kk : ∀ x h', P x h' → WP M Q (pc + 3) ls (vI x :: st) zN zGR h') : WP M Q pc ls (a3 :: a2 :: a1 :: st) zN zGR h := cs_core hd hlk hv rfl hdep he hcat rfl hc (fun r n' g' h' hq => by obtain ⟨x, rfl, rfl, rfl, hP⟩ := hq; exact kk x h' hP)
theorem v_l3 {a1 a2 a3 : zv} {y : MethodName} {M' : zM} {P : Int → zH → Prop} {b idx ci N : Nat} (hd : decode (zM_cc M) pc = .ok (.invokevirtual idx, 3)) (hlk : Cond.methodLink (zM_own M) idx y ∈ zbig) (hv : zV2 y M' 3 ci) (hdep : zM_d M' < zM_d M) (he : zE M) (hs : zIs zN b (ci, N)) (hcat : zcat st ≤ 8) (hc : CALL y M' (vR b :: [a1, a2, a3]) zGR h (zKL P)) (kk : ∀ x h', P x h' → WP M Q (pc + 3) ls (vL x :: st) zN zGR h') : WP M Q pc ls (a3 :: a2 :: a1 :: vR b :: st) zN zGR h := cv_core hd hlk hv rfl hdep he hs hcat rfl hc (fun r n' g' h' hq => by obtain ⟨x, rfl, rfl, rfl, hP⟩ := hq; exact kk x h' hP)
theorem s_l3 {a1 a2 a3 : zv} {y : MethodName} {M' : zM} {P : Int → zH → Prop} {idx : Nat} (hd : decode (zM_cc M) pc = .ok (.invokestatic idx, 3)) (hlk : Cond.methodLink (zM_own M) idx y ∈ zbig) (hv : zS2 y M' 3) (hdep : zM_d M' < zM_d M) (he : zE M) (hcat : zcat st ≤ 8) (hc : CALL y M' [a1, a2, a3] zGR h (zKL P)) (kk : ∀ x h', P x h' → WP M Q (pc + 3) ls (vL x :: st) zN zGR h') : WP M Q pc ls (a3 :: a2 :: a1 :: st) zN zGR h := cs_core hd hlk hv rfl hdep he hcat rfl hc (fun r n' g' h' hq => by obtain ⟨x, rfl, rfl, rfl, hP⟩ := hq; exact kk x h' hP)
theorem v_r3 {a1 a2 a3 : zv} {y : MethodName} {M' : zM} {P : Nat → zH → Prop} {b idx ci N : Nat} (hd : decode (zM_cc M) pc = .ok (.invokevirtual idx, 3)) (hlk : Cond.methodLink (zM_own M) idx y ∈ zbig) (hv : zV2 y M' 3 ci) (hdep : zM_d M' < zM_d M) (he : zE M) (hs : zIs zN b (ci, N)) (hcat : zcat st ≤ 8) (hc : CALL y M' (vR b :: [a1, a2, a3]) zGR h (zKR P)) (kk : ∀ x h', P x h' → WP M Q (pc + 3) ls (vR x :: st) zN zGR h') : WP M Q pc ls (a3 :: a2 :: a1 :: vR b :: st) zN zGR h := cv_core hd hlk hv rfl hdep he hs hcat rfl hc (fun r n' g' h' hq => by obtain ⟨x, rfl, rfl, rfl, hP⟩ := hq; exact kk x h' hP)
theorem s_r3 {a1 a2 a3 : zv} {y : MethodName} {M' : zM} {P : Nat → zH → Prop} {idx : Nat} (hd : decode (zM_cc M) pc = .ok (.invokestatic idx, 3)) (hlk : Cond.methodLink (zM_own M) idx y ∈ zbig) (hv : zS2 y M' 3) (hdep : zM_d M' < zM_d M) (he : zE M) (hcat : zcat st ≤ 8) (hc : CALL y M' [a1, a2, a3] zGR h (zKR P)) (kk : ∀ x h', P x h' → WP M Q (pc + 3) ls (vR x :: st) zN zGR h') : WP M Q pc ls (a3 :: a2 :: a1 :: st) zN zGR h := cs_core hd hlk hv rfl hdep he hcat rfl hc (fun r n' g' h' hq => by obtain ⟨x, rfl, rfl, rfl, hP⟩ := hq; exact kk x h' hP)
theorem v_v3 {a1 a2 a3 : zv} {y : MethodName} {M' : zM} {P : zH → Prop} {b idx ci N : Nat} (hd : decode (zM_cc M) pc = .ok (.invokevirtual idx, 3)) (hlk : Cond.methodLink (zM_own M) idx y ∈ zbig) (hv : zV2 y M' 3 ci) (hdep : zM_d M' < zM_d M) (he : zE M) (hs : zIs zN b (ci, N)) (hcat : zcat st ≤ 8) (hc : CALL y M' (vR b :: [a1, a2, a3]) zGR h (zKV P)) (kk : ∀ h', P h' → WP M Q (pc + 3) ls (st) zN zGR h') : WP M Q pc ls (a3 :: a2 :: a1 :: vR b :: st) zN zGR h := cv_core hd hlk hv rfl hdep he hs hcat rfl hc (fun r n' g' h' hq => by obtain ⟨rfl, rfl, rfl, hP⟩ := hq; exact kk h' hP)
theorem s_v3 {a1 a2 a3 : zv} {y : MethodName} {M' : zM} {P : zH → Prop} {idx : Nat} (hd : decode (zM_cc M) pc = .ok (.invokestatic idx, 3)) (hlk : Cond.methodLink (zM_own M) idx y ∈ zbig) (hv : zS2 y M' 3) (hdep : zM_d M' < zM_d M) (he : zE M) (hcat : zcat st ≤ 8) (hc : CALL y M' [a1, a2, a3] zGR h (zKV P)) (kk : ∀ h', P h' → WP M Q (pc + 3) ls (st) zN zGR h') : WP M Q pc ls (a3 :: a2 :: a1 :: st) zN zGR h := cs_core hd hlk hv rfl hdep he hcat rfl hc (fun r n' g' h' hq => by obtain ⟨rfl, rfl, rfl, hP⟩ := hq; exact kk h' hP)
theorem v_i4 {a1 a2 a3 a4 : zv} {y : MethodName} {M' : zM} {P : Int → zH → Prop} {b idx ci N : Nat} (hd : decode (zM_cc M) pc = .ok (.invokevirtual idx, 3)) (hlk : Cond.methodLink (zM_own M) idx y ∈ zbig) (hv : zV2 y M' 4 ci) (hdep : zM_d M' < zM_d M) (he : zE M) (hs : zIs zN b (ci, N)) (hcat : zcat st ≤ 8) (hc : CALL y M' (vR b :: [a1, a2, a3, a4]) zGR h (zKI P)) (kk : ∀ x h', P x h' → WP M Q (pc + 3) ls (vI x :: st) zN zGR h') : WP M Q pc ls (a4 :: a3 :: a2 :: a1 :: vR b :: st) zN zGR h := cv_core hd hlk hv rfl hdep he hs hcat rfl hc (fun r n' g' h' hq => by obtain ⟨x, rfl, rfl, rfl, hP⟩ := hq; exact kk x h' hP)
theorem s_i4 {a1 a2 a3 a4 : zv} {y : MethodName} {M' : zM} {P : Int → zH → Prop} {idx : Nat} (hd : decode (zM_cc M) pc = .ok (.invokestatic idx, 3)) (hlk : Cond.methodLink (zM_own M) idx y ∈ zbig) (hv : zS2 y M' 4) (hdep : zM_d M' < zM_d M) (he : zE M) (hcat : zcat st ≤ 8) (hc : CALL y M' [a1, a2, a3, a4] zGR h (zKI P)) (kk : ∀ x h', P x h' → WP M Q (pc + 3) ls (vI x :: st) zN zGR h') : WP M Q pc ls (a4 :: a3 :: a2 :: a1 :: st) zN zGR h := cs_core hd hlk hv rfl hdep he hcat rfl hc (fun r n' g' h' hq => by obtain ⟨x, rfl, rfl, rfl, hP⟩ := hq; exact kk x h' hP)
theorem v_l4 {a1 a2 a3 a4 : zv} {y : MethodName} {M' : zM} {P : Int → zH → Prop} {b idx ci N : Nat} (hd : decode (zM_cc M) pc = .ok (.invokevirtual idx, 3)) (hlk : Cond.methodLink (zM_own M) idx y ∈ zbig) (hv : zV2 y M' 4 ci) (hdep : zM_d M' < zM_d M) (he : zE M) (hs : zIs zN b (ci, N)) (hcat : zcat st ≤ 8) (hc : CALL y M' (vR b :: [a1, a2, a3, a4]) zGR h (zKL P)) (kk : ∀ x h', P x h' → WP M Q (pc + 3) ls (vL x :: st) zN zGR h') : WP M Q pc ls (a4 :: a3 :: a2 :: a1 :: vR b :: st) zN zGR h := cv_core hd hlk hv rfl hdep he hs hcat rfl hc (fun r n' g' h' hq => by obtain ⟨x, rfl, rfl, rfl, hP⟩ := hq; exact kk x h' hP)
theorem s_l4 {a1 a2 a3 a4 : zv} {y : MethodName} {M' : zM} {P : Int → zH → Prop} {idx : Nat} (hd : decode (zM_cc M) pc = .ok (.invokestatic idx, 3)) (hlk : Cond.methodLink (zM_own M) idx y ∈ zbig) (hv : zS2 y M' 4) (hdep : zM_d M' < zM_d M) (he : zE M) (hcat : zcat st ≤ 8) (hc : CALL y M' [a1, a2, a3, a4] zGR h (zKL P)) (kk : ∀ x h', P x h' → WP M Q (pc + 3) ls (vL x :: st) zN zGR h') : WP M Q pc ls (a4 :: a3 :: a2 :: a1 :: st) zN zGR h := cs_core hd hlk hv rfl hdep he hcat rfl hc (fun r n' g' h' hq => by obtain ⟨x, rfl, rfl, rfl, hP⟩ := hq; exact kk x h' hP)
theorem v_r4 {a1 a2 a3 a4 : zv} {y : MethodName} {M' : zM} {P : Nat → zH → Prop} {b idx ci N : Nat} (hd : decode (zM_cc M) pc = .ok (.invokevirtual idx, 3)) (hlk : Cond.methodLink (zM_own M) idx y ∈ zbig) (hv : zV2 y M' 4 ci) (hdep : zM_d M' < zM_d M) (he : zE M) (hs : zIs zN b (ci, N)) (hcat : zcat st ≤ 8) (hc : CALL y M' (vR b :: [a1, a2, a3, a4]) zGR h (zKR P)) (kk : ∀ x h', P x h' → WP M Q (pc + 3) ls (vR x :: st) zN zGR h') : WP M Q pc ls (a4 :: a3 :: a2 :: a1 :: vR b :: st) zN zGR h := cv_core hd hlk hv rfl hdep he hs hcat rfl hc (fun r n' g' h' hq => by obtain ⟨x, rfl, rfl, rfl, hP⟩ := hq; exact kk x h' hP)
theorem s_r4 {a1 a2 a3 a4 : zv} {y : MethodName} {M' : zM} {P : Nat → zH → Prop} {idx : Nat} (hd : decode (zM_cc M) pc = .ok (.invokestatic idx, 3)) (hlk : Cond.methodLink (zM_own M) idx y ∈ zbig) (hv : zS2 y M' 4) (hdep : zM_d M' < zM_d M) (he : zE M) (hcat : zcat st ≤ 8) (hc : CALL y M' [a1, a2, a3, a4] zGR h (zKR P)) (kk : ∀ x h', P x h' → WP M Q (pc + 3) ls (vR x :: st) zN zGR h') : WP M Q pc ls (a4 :: a3 :: a2 :: a1 :: st) zN zGR h := cs_core hd hlk hv rfl hdep he hcat rfl hc (fun r n' g' h' hq => by obtain ⟨x, rfl, rfl, rfl, hP⟩ := hq; exact kk x h' hP)
theorem v_v4 {a1 a2 a3 a4 : zv} {y : MethodName} {M' : zM} {P : zH → Prop} {b idx ci N : Nat} (hd : decode (zM_cc M) pc = .ok (.invokevirtual idx, 3)) (hlk : Cond.methodLink (zM_own M) idx y ∈ zbig) (hv : zV2 y M' 4 ci) (hdep : zM_d M' < zM_d M) (he : zE M) (hs : zIs zN b (ci, N)) (hcat : zcat st ≤ 8) (hc : CALL y M' (vR b :: [a1, a2, a3, a4]) zGR h (zKV P)) (kk : ∀ h', P h' → WP M Q (pc + 3) ls (st) zN zGR h') : WP M Q pc ls (a4 :: a3 :: a2 :: a1 :: vR b :: st) zN zGR h := cv_core hd hlk hv rfl hdep he hs hcat rfl hc (fun r n' g' h' hq => by obtain ⟨rfl, rfl, rfl, hP⟩ := hq; exact kk h' hP)
theorem s_v4 {a1 a2 a3 a4 : zv} {y : MethodName} {M' : zM} {P : zH → Prop} {idx : Nat} (hd : decode (zM_cc M) pc = .ok (.invokestatic idx, 3)) (hlk : Cond.methodLink (zM_own M) idx y ∈ zbig) (hv : zS2 y M' 4) (hdep : zM_d M' < zM_d M) (he : zE M) (hcat : zcat st ≤ 8) (hc : CALL y M' [a1, a2, a3, a4] zGR h (zKV P)) (kk : ∀ h', P h' → WP M Q (pc + 3) ls (st) zN zGR h') : WP M Q pc ls (a4 :: a3 :: a2 :: a1 :: st) zN zGR h := cs_core hd hlk hv rfl hdep he hcat rfl hc (fun r n' g' h' hq => by obtain ⟨rfl, rfl, rfl, hP⟩ := hq; exact kk h' hP)
theorem v_i5 {a1 a2 a3 a4 a5 : zv} {y : MethodName} {M' : zM} {P : Int → zH → Prop} {b idx ci N : Nat} (hd : decode (zM_cc M) pc = .ok (.invokevirtual idx, 3)) (hlk : Cond.methodLink (zM_own M) idx y ∈ zbig) (hv : zV2 y M' 5 ci) (hdep : zM_d M' < zM_d M) (he : zE M) (hs : zIs zN b (ci, N)) (hcat : zcat st ≤ 8) (hc : CALL y M' (vR b :: [a1, a2, a3, a4, a5]) zGR h (zKI P)) (kk : ∀ x h', P x h' → WP M Q (pc + 3) ls (vI x :: st) zN zGR h') : WP M Q pc ls (a5 :: a4 :: a3 :: a2 :: a1 :: vR b :: st) zN zGR h := cv_core hd hlk hv rfl hdep he hs hcat rfl hc (fun r n' g' h' hq => by obtain ⟨x, rfl, rfl, rfl, hP⟩ := hq; exact kk x h' hP)
theorem s_i5 {a1 a2 a3 a4 a5 : zv} {y : MethodName} {M' : zM} {P : Int → zH → Prop} {idx : Nat} (hd : decode (zM_cc M) pc = .ok (.invokestatic idx, 3)) (hlk : Cond.methodLink (zM_own M) idx y ∈ zbig) (hv : zS2 y M' 5) (hdep : zM_d M' < zM_d M) (he : zE M) (hcat : zcat st ≤ 8) (hc : CALL y M' [a1, a2, a3, a4, a5] zGR h (zKI P)) (kk : ∀ x h', P x h' → WP M Q (pc + 3) ls (vI x :: st) zN zGR h') : WP M Q pc ls (a5 :: a4 :: a3 :: a2 :: a1 :: st) zN zGR h := cs_core hd hlk hv rfl hdep he hcat rfl hc (fun r n' g' h' hq => by obtain ⟨x, rfl, rfl, rfl, hP⟩ := hq; exact kk x h' hP)
theorem v_l5 {a1 a2 a3 a4 a5 : zv} {y : MethodName} {M' : zM} {P : Int → zH → Prop} {b idx ci N : Nat} (hd : decode (zM_cc M) pc = .ok (.invokevirtual idx, 3)) (hlk : Cond.methodLink (zM_own M) idx y ∈ zbig) (hv : zV2 y M' 5 ci) (hdep : zM_d M' < zM_d M) (he : zE M) (hs : zIs zN b (ci, N)) (hcat : zcat st ≤ 8) (hc : CALL y M' (vR b :: [a1, a2, a3, a4, a5]) zGR h (zKL P)) (kk : ∀ x h', P x h' → WP M Q (pc + 3) ls (vL x :: st) zN zGR h') : WP M Q pc ls (a5 :: a4 :: a3 :: a2 :: a1 :: vR b :: st) zN zGR h := cv_core hd hlk hv rfl hdep he hs hcat rfl hc (fun r n' g' h' hq => by obtain ⟨x, rfl, rfl, rfl, hP⟩ := hq; exact kk x h' hP)
theorem s_l5 {a1 a2 a3 a4 a5 : zv} {y : MethodName} {M' : zM} {P : Int → zH → Prop} {idx : Nat} (hd : decode (zM_cc M) pc = .ok (.invokestatic idx, 3)) (hlk : Cond.methodLink (zM_own M) idx y ∈ zbig) (hv : zS2 y M' 5) (hdep : zM_d M' < zM_d M) (he : zE M) (hcat : zcat st ≤ 8) (hc : CALL y M' [a1, a2, a3, a4, a5] zGR h (zKL P)) (kk : ∀ x h', P x h' → WP M Q (pc + 3) ls (vL x :: st) zN zGR h') : WP M Q pc ls (a5 :: a4 :: a3 :: a2 :: a1 :: st) zN zGR h := cs_core hd hlk hv rfl hdep he hcat rfl hc (fun r n' g' h' hq => by obtain ⟨x, rfl, rfl, rfl, hP⟩ := hq; exact kk x h' hP)
theorem v_r5 {a1 a2 a3 a4 a5 : zv} {y : MethodName} {M' : zM} {P : Nat → zH → Prop} {b idx ci N : Nat} (hd : decode (zM_cc M) pc = .ok (.invokevirtual idx, 3)) (hlk : Cond.methodLink (zM_own M) idx y ∈ zbig) (hv : zV2 y M' 5 ci) (hdep : zM_d M' < zM_d M) (he : zE M) (hs : zIs zN b (ci, N)) (hcat : zcat st ≤ 8) (hc : CALL y M' (vR b :: [a1, a2, a3, a4, a5]) zGR h (zKR P)) (kk : ∀ x h', P x h' → WP M Q (pc + 3) ls (vR x :: st) zN zGR h') : WP M Q pc ls (a5 :: a4 :: a3 :: a2 :: a1 :: vR b :: st) zN zGR h := cv_core hd hlk hv rfl hdep he hs hcat rfl hc (fun r n' g' h' hq => by obtain ⟨x, rfl, rfl, rfl, hP⟩ := hq; exact kk x h' hP)
theorem s_r5 {a1 a2 a3 a4 a5 : zv} {y : MethodName} {M' : zM} {P : Nat → zH → Prop} {idx : Nat} (hd : decode (zM_cc M) pc = .ok (.invokestatic idx, 3)) (hlk : Cond.methodLink (zM_own M) idx y ∈ zbig) (hv : zS2 y M' 5) (hdep : zM_d M' < zM_d M) (he : zE M) (hcat : zcat st ≤ 8) (hc : CALL y M' [a1, a2, a3, a4, a5] zGR h (zKR P)) (kk : ∀ x h', P x h' → WP M Q (pc + 3) ls (vR x :: st) zN zGR h') : WP M Q pc ls (a5 :: a4 :: a3 :: a2 :: a1 :: st) zN zGR h := cs_core hd hlk hv rfl hdep he hcat rfl hc (fun r n' g' h' hq => by obtain ⟨x, rfl, rfl, rfl, hP⟩ := hq; exact kk x h' hP)
theorem v_v5 {a1 a2 a3 a4 a5 : zv} {y : MethodName} {M' : zM} {P : zH → Prop} {b idx ci N : Nat} (hd : decode (zM_cc M) pc = .ok (.invokevirtual idx, 3)) (hlk : Cond.methodLink (zM_own M) idx y ∈ zbig) (hv : zV2 y M' 5 ci) (hdep : zM_d M' < zM_d M) (he : zE M) (hs : zIs zN b (ci, N)) (hcat : zcat st ≤ 8) (hc : CALL y M' (vR b :: [a1, a2, a3, a4, a5]) zGR h (zKV P)) (kk : ∀ h', P h' → WP M Q (pc + 3) ls (st) zN zGR h') : WP M Q pc ls (a5 :: a4 :: a3 :: a2 :: a1 :: vR b :: st) zN zGR h := cv_core hd hlk hv rfl hdep he hs hcat rfl hc (fun r n' g' h' hq => by obtain ⟨rfl, rfl, rfl, hP⟩ := hq; exact kk h' hP)
theorem s_v5 {a1 a2 a3 a4 a5 : zv} {y : MethodName} {M' : zM} {P : zH → Prop} {idx : Nat} (hd : decode (zM_cc M) pc = .ok (.invokestatic idx, 3)) (hlk : Cond.methodLink (zM_own M) idx y ∈ zbig) (hv : zS2 y M' 5) (hdep : zM_d M' < zM_d M) (he : zE M) (hcat : zcat st ≤ 8) (hc : CALL y M' [a1, a2, a3, a4, a5] zGR h (zKV P)) (kk : ∀ h', P h' → WP M Q (pc + 3) ls (st) zN zGR h') : WP M Q pc ls (a5 :: a4 :: a3 :: a2 :: a1 :: st) zN zGR h := cs_core hd hlk hv rfl hdep he hcat rfl hc (fun r n' g' h' hq => by obtain ⟨rfl, rfl, rfl, hP⟩ := hq; exact kk h' hP)
theorem v_i6 {a1 a2 a3 a4 a5 a6 : zv} {y : MethodName} {M' : zM} {P : Int → zH → Prop} {b idx ci N : Nat} (hd : decode (zM_cc M) pc = .ok (.invokevirtual idx, 3)) (hlk : Cond.methodLink (zM_own M) idx y ∈ zbig) (hv : zV2 y M' 6 ci) (hdep : zM_d M' < zM_d M) (he : zE M) (hs : zIs zN b (ci, N)) (hcat : zcat st ≤ 8) (hc : CALL y M' (vR b :: [a1, a2, a3, a4, a5, a6]) zGR h (zKI P)) (kk : ∀ x h', P x h' → WP M Q (pc + 3) ls (vI x :: st) zN zGR h') : WP M Q pc ls (a6 :: a5 :: a4 :: a3 :: a2 :: a1 :: vR b :: st) zN zGR h := cv_core hd hlk hv rfl hdep he hs hcat rfl hc (fun r n' g' h' hq => by obtain ⟨x, rfl, rfl, rfl, hP⟩ := hq; exact kk x h' hP)
theorem s_i6 {a1 a2 a3 a4 a5 a6 : zv} {y : MethodName} {M' : zM} {P : Int → zH → Prop} {idx : Nat} (hd : decode (zM_cc M) pc = .ok (.invokestatic idx, 3)) (hlk : Cond.methodLink (zM_own M) idx y ∈ zbig) (hv : zS2 y M' 6) (hdep : zM_d M' < zM_d M) (he : zE M) (hcat : zcat st ≤ 8) (hc : CALL y M' [a1, a2, a3, a4, a5, a6] zGR h (zKI P)) (kk : ∀ x h', P x h' → WP M Q (pc + 3) ls (vI x :: st) zN zGR h') : WP M Q pc ls (a6 :: a5 :: a4 :: a3 :: a2 :: a1 :: st) zN zGR h := cs_core hd hlk hv rfl hdep he hcat rfl hc (fun r n' g' h' hq => by obtain ⟨x, rfl, rfl, rfl, hP⟩ := hq; exact kk x h' hP)
theorem v_l6 {a1 a2 a3 a4 a5 a6 : zv} {y : MethodName} {M' : zM} {P : Int → zH → Prop} {b idx ci N : Nat} (hd : decode (zM_cc M) pc = .ok (.invokevirtual idx, 3)) (hlk : Cond.methodLink (zM_own M) idx y ∈ zbig) (hv : zV2 y M' 6 ci) (hdep : zM_d M' < zM_d M) (he : zE M) (hs : zIs zN b (ci, N)) (hcat : zcat st ≤ 8) (hc : CALL y M' (vR b :: [a1, a2, a3, a4, a5, a6]) zGR h (zKL P)) (kk : ∀ x h', P x h' → WP M Q (pc + 3) ls (vL x :: st) zN zGR h') : WP M Q pc ls (a6 :: a5 :: a4 :: a3 :: a2 :: a1 :: vR b :: st) zN zGR h := cv_core hd hlk hv rfl hdep he hs hcat rfl hc (fun r n' g' h' hq => by obtain ⟨x, rfl, rfl, rfl, hP⟩ := hq; exact kk x h' hP)
theorem s_l6 {a1 a2 a3 a4 a5 a6 : zv} {y : MethodName} {M' : zM} {P : Int → zH → Prop} {idx : Nat} (hd : decode (zM_cc M) pc = .ok (.invokestatic idx, 3)) (hlk : Cond.methodLink (zM_own M) idx y ∈ zbig) (hv : zS2 y M' 6) (hdep : zM_d M' < zM_d M) (he : zE M) (hcat : zcat st ≤ 8) (hc : CALL y M' [a1, a2, a3, a4, a5, a6] zGR h (zKL P)) (kk : ∀ x h', P x h' → WP M Q (pc + 3) ls (vL x :: st) zN zGR h') : WP M Q pc ls (a6 :: a5 :: a4 :: a3 :: a2 :: a1 :: st) zN zGR h := cs_core hd hlk hv rfl hdep he hcat rfl hc (fun r n' g' h' hq => by obtain ⟨x, rfl, rfl, rfl, hP⟩ := hq; exact kk x h' hP)
theorem v_r6 {a1 a2 a3 a4 a5 a6 : zv} {y : MethodName} {M' : zM} {P : Nat → zH → Prop} {b idx ci N : Nat} (hd : decode (zM_cc M) pc = .ok (.invokevirtual idx, 3)) (hlk : Cond.methodLink (zM_own M) idx y ∈ zbig) (hv : zV2 y M' 6 ci) (hdep : zM_d M' < zM_d M) (he : zE M) (hs : zIs zN b (ci, N)) (hcat : zcat st ≤ 8) (hc : CALL y M' (vR b :: [a1, a2, a3, a4, a5, a6]) zGR h (zKR P)) (kk : ∀ x h', P x h' → WP M Q (pc + 3) ls (vR x :: st) zN zGR h') : WP M Q pc ls (a6 :: a5 :: a4 :: a3 :: a2 :: a1 :: vR b :: st) zN zGR h := cv_core hd hlk hv rfl hdep he hs hcat rfl hc (fun r n' g' h' hq => by obtain ⟨x, rfl, rfl, rfl, hP⟩ := hq; exact kk x h' hP)
theorem s_r6 {a1 a2 a3 a4 a5 a6 : zv} {y : MethodName} {M' : zM} {P : Nat → zH → Prop} {idx : Nat} (hd : decode (zM_cc M) pc = .ok (.invokestatic idx, 3)) (hlk : Cond.methodLink (zM_own M) idx y ∈ zbig) (hv : zS2 y M' 6) (hdep : zM_d M' < zM_d M) (he : zE M) (hcat : zcat st ≤ 8) (hc : CALL y M' [a1, a2, a3, a4, a5, a6] zGR h (zKR P)) (kk : ∀ x h', P x h' → WP M Q (pc + 3) ls (vR x :: st) zN zGR h') : WP M Q pc ls (a6 :: a5 :: a4 :: a3 :: a2 :: a1 :: st) zN zGR h := cs_core hd hlk hv rfl hdep he hcat rfl hc (fun r n' g' h' hq => by obtain ⟨x, rfl, rfl, rfl, hP⟩ := hq; exact kk x h' hP)
theorem v_v6 {a1 a2 a3 a4 a5 a6 : zv} {y : MethodName} {M' : zM} {P : zH → Prop} {b idx ci N : Nat} (hd : decode (zM_cc M) pc = .ok (.invokevirtual idx, 3)) (hlk : Cond.methodLink (zM_own M) idx y ∈ zbig) (hv : zV2 y M' 6 ci) (hdep : zM_d M' < zM_d M) (he : zE M) (hs : zIs zN b (ci, N)) (hcat : zcat st ≤ 8) (hc : CALL y M' (vR b :: [a1, a2, a3, a4, a5, a6]) zGR h (zKV P)) (kk : ∀ h', P h' → WP M Q (pc + 3) ls (st) zN zGR h') : WP M Q pc ls (a6 :: a5 :: a4 :: a3 :: a2 :: a1 :: vR b :: st) zN zGR h := cv_core hd hlk hv rfl hdep he hs hcat rfl hc (fun r n' g' h' hq => by obtain ⟨rfl, rfl, rfl, hP⟩ := hq; exact kk h' hP)
theorem s_v6 {a1 a2 a3 a4 a5 a6 : zv} {y : MethodName} {M' : zM} {P : zH → Prop} {idx : Nat} (hd : decode (zM_cc M) pc = .ok (.invokestatic idx, 3)) (hlk : Cond.methodLink (zM_own M) idx y ∈ zbig) (hv : zS2 y M' 6) (hdep : zM_d M' < zM_d M) (he : zE M) (hcat : zcat st ≤ 8) (hc : CALL y M' [a1, a2, a3, a4, a5, a6] zGR h (zKV P)) (kk : ∀ h', P h' → WP M Q (pc + 3) ls (st) zN zGR h') : WP M Q pc ls (a6 :: a5 :: a4 :: a3 :: a2 :: a1 :: st) zN zGR h := cs_core hd hlk hv rfl hdep he hcat rfl hc (fun r n' g' h' hq => by obtain ⟨rfl, rfl, rfl, hP⟩ := hq; exact kk h' hP)
end
