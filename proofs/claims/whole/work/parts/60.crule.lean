/-! ===== rules for constructors ===== -/
theorem zSL_mono : ∀ {b a : Nat}, a ≤ b → zSL a ≤ zSL b := by
  intro b
  induction b with
  | zero => intro a h; rw [show a = 0 by omega]; exact Nat.le_refl _
  | succ b ih =>
    intro a h
    by_cases e : a = b + 1
    · rw [e]; exact Nat.le_refl _
    · have := ih (a := a) (by omega)
      show zSL a ≤ zSL b + (zSH (b + 1)).2
      omega
def zZg (n : Nat) (g : zG) : Prop := ∀ a j, n < a → g a j = 0
def zZh (n : Nat) (h : zH) : Prop := ∀ a j, n < a → h a j = 0
theorem zZg.up {n m : Nat} {g : zG} (z : zZg n g) (h : n ≤ m) : zZg m g := fun a j ha => z a j (by omega)
theorem zZh.up {n m : Nat} {g : zH} (z : zZh n g) (h : n ≤ m) : zZh m g := fun a j ha => z a j (by omega)
theorem zZg.ug {n a k v : Nat} {g : zG} (z : zZg n g) (h : a ≤ n) : zZg n (zug g a k v) := fun b j hb => by rw [zug_o (by omega)]; exact z b j hb
theorem zZh.uh {n a k : Nat} {v : Int} {g : zH} (z : zZh n g) (h : a ≤ n) : zZh n (zup g a k v) := fun b j hb => by rw [zup_o (by omega)]; exact z b j hb
theorem zZg.gr {n N m : Nat} {g : zG} (z : zZg n g) (h : n + 1 + N ≤ m) : zZg m (zgr g n N) := fun b j hb => by rw [zgr_a (by omega)]; exact z b j (by omega)
theorem zrq_is {B : Nat × Nat} {n a : Nat} {s : Nat × Nat} (hs : zIs n a s) (hn : s.1 ≠ 99) : zrq B a = some (B.1 + a) := by
  unfold zrq zad
  rw [if_neg (by have := hs.2.1; omega), if_neg (zIs_ad (B := B) hs hn)]
/-- the machine's room is that of the cells it makes -/
def zOK (M : zM) : Prop := zSL (zM_n0 M + zM_mc M) = zSL (zM_n0 M) + zM_ms M
theorem zOK.le {M : zM} (h : zOK M) {n N : Nat} (h1 : n + N ≤ zM_n0 M + zM_mc M) : zSL (n + N) ≤ zSL (zM_n0 M) + zM_ms M := by
  have := zSL_mono h1
  unfold zOK at h
  omega
theorem zRep_cg {D : va_G} {cs : zcs} {B : Nat × Nat} {n : Nat} {g g' : zG} {h : zH} {H : Heap} (R : zRep D cs B n g h H) (hg : ∀ b, 0 < b → b ≤ n → (zSH b).1 ≠ 10 → ∀ j, j < (zSH b).2 → g' b j = g b j) : zRep D cs B n g' h H := by
  refine ⟨R.1, fun k q hq => ?_⟩
  obtain ⟨hk, rfl⟩ := zws_getK hq
  have h1 := R.2 k _ (by
    have := zws_get (cs := cs) (B := B) (g := g) (h := h) (a := k + 1) (n := n) (by omega) (by omega)
    simpa using this)
  have hgk := hg (k + 1) (by omega) (by omega)
  by_cases w : (zSH (k + 1)).1 < 10
  · have e : zcell cs B g' h (k + 1) = zcell cs B g h (k + 1) := by
      unfold zcell
      rw [if_pos w, if_pos w, List.map_congr_left (fun j hj => by rw [hgk (by omega) j (List.mem_range.mp hj)])]
    rw [e]
    exact h1
  · by_cases w2 : (zSH (k + 1)).1 = 10
    · have e : zcell cs B g' h (k + 1) = zcell cs B g h (k + 1) := by
        unfold zcell
        rw [if_neg w, if_neg w, if_pos w2, if_pos w2]
      rw [e]
      exact h1
    · have e1 : ∀ g : zG, zcell cs B g h (k + 1) = .inl (if (zSH (k + 1)).1 = 11 then cs.2.1 else cs.2.2, (zSH (k + 1)).2, .inr (.inr (.inr (.inr (fun j => zrq B (g (k + 1) j)))))) := fun g => by
        unfold zcell
        rw [if_neg w, if_neg w2]
      rw [e1] at h1 ⊢
      have h2 : H[B.1 + (k + 1)]? = some (arrV (if (zSH (k + 1)).1 = 11 then cs.2.1 else cs.2.2) (zSH (k + 1)).2 (fun j => va_rf (zrq B (g (k + 1) j)))) := h1
      show H[B.1 + (k + 1)]? = some (arrV (if (zSH (k + 1)).1 = 11 then cs.2.1 else cs.2.2) (zSH (k + 1)).2 (fun j => va_rf (zrq B (g' (k + 1) j))))
      rw [h2]
      congr 1
      unfold arrV
      congr 1
      apply Array.ext
      · simp
      · intro i h1 h2
        simp only [Array.getElem_ofFn]
        rw [hgk w2 i (by simpa using h2)]
theorem oi_i : Cond.instanceMethod Lib.objectInit ∈ zbig := mo_inst
theorem oi_c : Cond.code Lib.objectInit ⟨#[0xb1]⟩ 1 none ∈ zbig := mo_code
section
variable {M : zM} {Q : zQT} {pc n : Nat} {ls : List (Option zv)} {st : List zv} {g : zG} {h : zH}
theorem wp_cg {g' : zG} (hg : ∀ b, 0 < b → b ≤ n → (zSH b).1 ≠ 10 → ∀ j, j < (zSH b).2 → g' b j = g b j) (k : WP M Q pc ls st n g' h) : WP M Q pc ls st n g h := by
  intro p l e s m args below meth c H locs cells slots D cs B lA C R
  exact k p l e s m args below meth c H locs cells slots D cs B lA C (zRep_cg R hg)
theorem wp_oi {b idx : Nat} {k : Nat × Nat} (hd : decode (zM_cc M) pc = .ok (.invokespecial idx, 3)) (hlk : Cond.methodLink (zM_own M) idx Lib.objectInit ∈ zbig) (hs : zIs n b k) (hk : k.1 ≠ 99) (hdep : 0 < zM_d M) (hcat : zcat st ≤ 8) (kk : WP M Q (pc + 3) ls st n g h) : WP M Q pc ls (vR b :: st) n g h := by
  intro p l e s m args below meth c H locs cells slots D cs B lA C R S hA e1 e2 L
  obtain ⟨hx, hb, hml, -, -, -, hown, hts, hK, -, hAO⟩ := id C
  rw [List.map_cons, zc_ref hs hk]
  refine W.objInit hx hb hown (hts _ hlk) (hts _ oi_i) (hts _ oi_c) rfl (by rw [hml]; exact L.1) rfl hd hdep ?_ (kk p l e s m args below meth c H locs cells slots D cs B lA C R S hA e1 e2 L)
  show 2 * 0 + ((st.map (zc B)).map fun v => v.category).sum + 12 ≤ 38 * zM_d M
  rw [zcat_eq]
  omega
theorem wp_putrF {a ci k r idx : Nat} (hd : decode (zM_cc M) pc = .ok (.putfield idx, 3)) (hf : zFL (zM_own M) idx ci k 3) (hs : zIs n a (ci, zFN ci)) (hfin : (zT ci k).2.2.2 = true) (hini : zM_ini M = true) (hdecl : (zT ci k).1 = zM_own M) (kk : WP M Q (pc + 3) ls st n (zug g a k r) h) : WP M Q pc ls (vR r :: vR a :: st) n g h := by
  intro p l e s m args below meth c H locs cells slots D cs B lA C R S hA e1 e2 L
  obtain ⟨hx, hb, -, -, -, hmn, hown, hts, hK, -⟩ := id C
  obtain ⟨hc, hk, hl, ht1, ht3⟩ := hf
  rw [List.map_cons, List.map_cons, zc_ref hs (by show ci ≠ 99; omega)]
  have hv : zfv B (zty ci k) (zug g a k r a k) (h a k) = zc B (vR r) ∧ narrow (zty ci k) (zc B (vR r)) = zc B (vR r) ∧ fits (zty ci k) (zc B (vR r)) = true := by
    rw [zug_s]
    show zfv B (zty ci k) r (h a k) = zrf B r ∧ narrow (zty ci k) (zrf B r) = zrf B r ∧ fits (zty ci k) (zrf B r) = true
    have hall := z_tyall ci hc k hk
    rcases hall with (e | e | e) | ⟨x, e⟩ | ⟨x, e⟩ <;> rw [e] at ht3 ⊢
    · exact absurd ht3 (by decide)
    · exact absurd ht3 (by decide)
    · exact absurd ht3 (by decide)
    · refine ⟨rfl, ?_, ?_⟩ <;> (unfold zrf; split <;> rfl)
    · refine ⟨rfl, ?_, ?_⟩ <;> (unfold zrf; split <;> rfl)
  refine va_putF (D := D) (ci := ci) (v := zc B (vR r)) (ty := zty ci k) (C := zR ci) (T := zT ci) (N := zFN ci) hx hb hts (z_in ci hc) (zty ci) (z_ty ci hc) (z_nm ci hc) hown hK R.2 (zws_D cs B n g h) S (a - 1) (fs := (List.range (zFN ci)).map (fun j => zfv B (zty ci j) (g a j) (h a j))) (by rw [zws_get hs.2.1 hs.2.2, zcell_o hs.1 hc]) (z_vw ci hc) k hk (hts _ hl) (fun _ h9 => by rw [← ht1]; exact h9) hfin (hmn hini) hdecl (z_ty ci hc k hk) hv.2.1 hv.2.2 (by simpa using hk) hd (fun H1 locs1 hP1 hD1 hS1 => ?_)
  exact W_sized hP1 R hA e1 (fun hz => kk p l e s m args below meth c H1 locs1 cells slots D cs B lA C (zRep_of R hz hs.2.1 hs.2.2 hP1 (by rw [zcell_o hs.1 hc, z_set hk hv.1 (fun j hj => ⟨zug_o (fun q => hj q.2), rfl⟩)]) (fun b hb' => zcell_g b hb')) hS1 hA e1 e2 L)
theorem wp_aastP {a v N : Nat} {i : Int} (hd : decode (zM_cc M) pc = .ok (.aastore, 1)) (hs : zIs n a (12, N)) (hv : zIs n v (3, zFN 3)) (hi : 0 ≤ i ∧ i < N) (kk : WP M Q (pc + 1) ls st n (zug g a i.toNat v) h) : WP M Q pc ls (vR v :: vI i :: vR a :: st) n g h := by
  intro p l e s m args below meth c H locs cells slots D cs B lA C R S hA e1 e2 L
  obtain ⟨hx, hb, -, -, -, -, hown, hts, hK, -⟩ := id C
  have hN : N < 2147483648 := by have := zSH_small a; rw [hs.1] at this; exact this
  rw [List.map_cons, List.map_cons, List.map_cons, zc_ref hs (show (12 : Nat) ≠ 99 by decide), zc_ref hv (show (3 : Nat) ≠ 99 by decide)]
  refine va_astq (D := D) (cl := vwCl) (tys := ztys cs) hx hb hK R.2 (zws_D cs B n g h) S (a - 1) 2 (v - 1) 3 (r := (zR 3, zT 3, zFN 3)) (by rw [zws_get hs.2.1 hs.2.2, zcell_p hs.1]) rfl (by rw [zws_get hv.2.1 hv.2.2, zcell_o hv.1 (by decide)]) (z_vw 3 (by decide)) (zin_vp hi.1 hi.2 hN) hd (fun H1 locs1 hP1 hD1 hS1 => ?_)
  exact W_sized hP1 R hA e1 (fun hz => kk p l e s m args below meth c H1 locs1 cells slots D cs B lA C (zRep_of R hz hs.2.1 hs.2.2 hP1 (by
    rw [zcell_p hs.1]
    have e9 : (fun j => zrq B (zug g a i.toNat v a j)) = va_up (fun j => zrq B (g a j)) (Int32.ofInt i).toNatClampNeg (some (B.1 + v)) := by
      funext j
      rw [zin_clamp ⟨by omega, by omega⟩]
      unfold va_up zug
      by_cases q : j = i.toNat
      · simp [q, zrq_is (B := B) hv (show (3 : Nat) ≠ 99 by decide)]
      · simp [q]
    rw [e9]) (fun b hb' => zcell_g b hb')) hS1 hA e1 e2 L)
theorem wp_aastI {a v N K : Nat} {i : Int} (hd : decode (zM_cc M) pc = .ok (.aastore, 1)) (hini : zM_ini M = true) (hs : zIs n a (11, N)) (hv : zIs n v (10, K)) (hi : 0 ≤ i ∧ i < N) (kk : WP M Q (pc + 1) ls st n (zug g a i.toNat v) h) : WP M Q pc ls (vR v :: vI i :: vR a :: st) n g h := by
  intro p l e s m args below meth c H locs cells slots D cs B lA C R S hA e1 e2 L
  obtain ⟨hx, hb, -, -, -, -, hown, hts, hK, -, hAO⟩ := id C
  have hN : N < 2147483648 := by have := zSH_small a; rw [hs.1] at this; exact this
  rw [List.map_cons, List.map_cons, List.map_cons, zc_ref hs (show (11 : Nat) ≠ 99 by decide), zc_ref hv (show (10 : Nat) ≠ 99 by decide)]
  obtain ⟨comp, c2, kA, f1, f2, f3, f4⟩ := Cond.arrayOver_specA (hAO (Or.inl hini)).1
  have r0 := (hK.2 0 _ rfl).2
  have r1 := (hK.2 1 _ rfl).2
  have ec : comp = cs.1 := Option.some.inj (f1.symm.trans r0)
  have ec2 : c2 = cs.2.1 := Option.some.inj (f4.symm.trans r1)
  subst ec
  subst ec2
  obtain ⟨kE, hkE, -⟩ := Vm.findClass_spec r0
  have hvp := zin_vp hi.1 hi.2 hN
  have hcl : (Int32.ofInt i).toNatClampNeg = i.toNat := zin_clamp ⟨by omega, by omega⟩
  have ha := R.2 (a - 1) _ (zws_get (cs := cs) (B := B) (g := g) (h := h) hs.2.1 hs.2.2)
  rw [zcell_q hs.1] at ha
  have hva := R.2 (v - 1) _ (zws_get (cs := cs) (B := B) (g := g) (h := h) hv.2.1 hv.2.2)
  rw [zcell_i hv.1] at hva
  have he : (zws cs B n g h)[a - 1]? = some (B.1 + a, .inl (cs.2.1, N, .inr (.inr (.inr (.inr (fun j => zrq B (g a j))))))) := by rw [zws_get hs.2.1 hs.2.2, zcell_q hs.1]
  refine W.aast hx hb (show H[B.1 + a]? = some (arrV cs.2.1 N (fun j => va_rf (zrq B (g a j)))) from ha) (fun q h => by cases h) (fun h => by cases h) f2 f3 rfl hkE ⟨fun q => hvp (Or.inl q), by show _ < (arrV _ _ _).slots.size; rw [arrV_size, hcl]; omega⟩ (show H[B.1 + v]? = some (arrV cs.1 K (fun j => .int (Int32.ofInt (h v j)))) from hva) (fun q h => by cases h) hkE (by show Vm.assignableAux s.vm (255 + 1) cs.1 cs.1 = true; rw [Vm.assignableAux]; simp) rfl rfl hd fun H1 ee z oq => ?_
  have e9 : (fun j => zrq B (zug g a i.toNat v a j)) = va_up (fun j => zrq B (g a j)) (Int32.ofInt i).toNatClampNeg (some (B.1 + v)) := by
    funext j
    rw [hcl]
    unfold va_up zug
    by_cases q : j = i.toNat
    · simp [q, zrq_is (B := B) hv (show (10 : Nat) ≠ 99 by decide)]
    · simp [q]
  have hD := zws_D cs B n g h
  have hP1 := R.2.set (e := .inl (cs.2.1, N, .inr (.inr (.inr (.inr (va_up (fun j => zrq B (g a j)) (Int32.ofInt i).toNatClampNeg (some (B.1 + v)))))))) hD he (by
    show H1[B.1 + a]? = some (vp_cell _ _)
    rw [ee, vp_cell_q, arrV_store]
    congr 2
    funext q
    by_cases hq : q = (Int32.ofInt i).toNatClampNeg
    · subst hq
      simp [updV, va_up, va_rf]
    · simp [updV, va_up, hq]) oq
  exact kk p l e s m args below meth c H1 _ cells slots D cs B lA C (zRep_of R z hs.2.1 hs.2.2 hP1 (by rw [zcell_q hs.1, e9]) (fun b hb' => zcell_g b hb')) (S.put z oq (hD.2 _ _ he)) hA e1 e2 L
/-! the same with the number of the new cell said -/
theorem c_new {ci N idx : Nat} (m : Nat) (hm : m = n + 1) (hd : decode (zM_cc M) pc = .ok (.new idx, 3)) (hci : ci < 10) (hN : N = zFN ci) (hcl : Cond.classLink (zM_own M) idx (zR ci) ∈ zbig) (hin : Cond.instantiable (zR ci) N ∈ zbig) (hini : Cond.initialized (zR ci) ∈ zbig) (hs : zSH m = (ci, zFN ci)) (zg : zZg n g) (zh : zZh n h) (hn : n < 999) (ok : zOK M) (h1 : n + 1 ≤ zM_n0 M + zM_mc M) (kk : WP M Q (pc + 3) ls (vR m :: st) m g h) : WP M Q pc ls st n g h := by
  subst hm
  refine wp_new hd hci hN hcl hin hini hs (fun j _ => ⟨zg _ _ (by omega), zh _ _ (by omega)⟩) hn ⟨h1, ?_⟩ kk
  have := ok.le h1
  have e : zSL (n + 1) = zSL n + (zSH (n + 1)).2 := rfl
  rw [hs] at e
  show zSL n + N ≤ _
  rw [hN]
  have e2 : ((ci, zFN ci) : Nat × Nat).2 = zFN ci := rfl
  omega
theorem c_newa {len : Int} (m : Nat) (hm : m = n + 1) (hd : decode (zM_cc M) pc = .ok (.newarray .int, 2)) (h0 : 0 ≤ len ∧ len < 100000) (hs : zSH m = (10, len.toNat)) (zh : zZh n h) (hn : n < 999) (ok : zOK M) (h1 : n + 1 ≤ zM_n0 M + zM_mc M) (kk : WP M Q (pc + 2) ls (vR m :: st) m g h) : WP M Q pc ls (vI len :: st) n g h := by
  subst hm
  refine wp_newa hd h0 hs (fun j _ => zh _ _ (by omega)) hn ⟨h1, ?_⟩ kk
  have := ok.le h1
  have e : zSL (n + 1) = zSL n + (zSH (n + 1)).2 := rfl
  rw [hs] at e
  have e2 : ((10, len.toNat) : Nat × Nat).2 = len.toNat := rfl
  omega
theorem c_anewP {len : Int} {idx : Nat} (m : Nat) (hm : m = n + 1) (hd : decode (zM_cc M) pc = .ok (.anewarray idx, 3)) (hini : zM_ini M = true) (hcl : Cond.classLink (zM_own M) idx RX4 ∈ zbig) (h0 : 0 ≤ len ∧ len < 100000) (hs : zSH m = (12, len.toNat)) (zg : zZg n g) (hn : n < 999) (ok : zOK M) (h1 : n + 1 ≤ zM_n0 M + zM_mc M) (kk : WP M Q (pc + 3) ls (vR m :: st) m g h) : WP M Q pc ls (vI len :: st) n g h := by
  subst hm
  refine wp_anewP hd hini hcl h0 hs (fun j _ => zg _ _ (by omega)) hn ⟨h1, ?_⟩ kk
  have := ok.le h1
  have e : zSL (n + 1) = zSL n + (zSH (n + 1)).2 := rfl
  rw [hs] at e
  have e2 : ((12, len.toNat) : Nat × Nat).2 = len.toNat := rfl
  omega
theorem c_anewI {len : Int} {idx : Nat} (m : Nat) (hm : m = n + 1) (hd : decode (zM_cc M) pc = .ok (.anewarray idx, 3)) (hini : zM_ini M = true) (hcl : Cond.classLink (zM_own M) idx "[I" ∈ zbig) (h0 : 0 ≤ len ∧ len < 100000) (hs : zSH m = (11, len.toNat)) (zg : zZg n g) (hn : n < 999) (ok : zOK M) (h1 : n + 1 ≤ zM_n0 M + zM_mc M) (kk : WP M Q (pc + 3) ls (vR m :: st) m g h) : WP M Q pc ls (vI len :: st) n g h := by
  subst hm
  refine wp_anewI hd hini hcl h0 hs (fun j _ => zg _ _ (by omega)) hn ⟨h1, ?_⟩ kk
  have := ok.le h1
  have e : zSL (n + 1) = zSL n + (zSH (n + 1)).2 := rfl
  rw [hs] at e
  have e2 : ((11, len.toNat) : Nat × Nat).2 = len.toNat := rfl
  omega
theorem c_mna {dim k : Int} {idx : Nat} (m m2 : Nat) (hm : m = n + 1) (hm2 : m2 = n + 1 + dim.toNat) (hd : decode (zM_cc M) pc = .ok (.multianewarray idx 2, 4)) (hini : zM_ini M = true) (hcl : Cond.classLink (zM_own M) idx "[[I" ∈ zbig) (h0 : 0 ≤ dim ∧ dim < 1000) (h1 : 0 ≤ k ∧ k < 100000) (hs : zSH m = (11, dim.toNat)) (hr : ∀ i, i < dim.toNat → zSH (n + 2 + i) = (10, k.toNat)) (zh : zZh n h) (hn : n + 1 + dim.toNat < 999) (ok : zOK M) (h2 : n + 1 + dim.toNat ≤ zM_n0 M + zM_mc M) (kk : WP M Q (pc + 4) ls (vR m :: st) m2 (zgr g n dim.toNat) h) : WP M Q pc ls (vI k :: vI dim :: st) n g h := by
  subst hm
  subst hm2
  exact wp_mna hd hini hcl h0 h1 hs hr (fun i j _ _ => zh _ _ (by omega)) hn ⟨h2, ok.le (n := n + 1) h2⟩ kk
theorem c_callI {y : MethodName} {M' : zM} {As rest : List zv} {g1 : zG} {h1 : zH} {b idx np : Nat} {k : Nat × Nat} (m : Nat) (hm : m = n + zM_mc M') (hd : decode (zM_cc M) pc = .ok (.invokespecial idx, 3)) (hlk : Cond.methodLink (zM_own M) idx y ∈ zbig) (hmf : zMF y M' np) (hret : zM_ret M' = none) (hyn : y.name = "<init>") (hvf : Cond.instanceMethod y ∈ zbig) (hnp : As.length = np) (hdep : zM_d M' < zM_d M) (hs : zIs n b k) (hk : k.1 ≠ 99) (hn : zM_n0 M' = n) (ok : zOK M) (ok' : zOK M')
    (hroom : n + zM_mc M' ≤ zM_n0 M + zM_mc M) (hcx : zM_ini M = true ∨ zM_sc M ≠ none) (hcat : zcat rest ≤ 8) (hst : st = As.reverse ++ vR b :: rest) (hc : CALL y M' (vR b :: As) g h (fun r n' g' h' => r = none ∧ n' = m ∧ g' = g1 ∧ h' = h1)) (kk : WP M Q (pc + 3) ls rest m g1 h1) : WP M Q pc ls st n g h := by
  subst hm
  refine wp_callI hd hlk hmf hret hyn hvf hnp hdep hs hk hn ⟨hroom, ?_⟩ hcx hcat hst hc (fun r n' g' h' q => ?_)
  · have h1 := ok.le hroom
    unfold zOK at ok'
    rw [hn] at ok'
    omega
  · obtain ⟨rfl, rfl, rfl, rfl⟩ := q
    exact kk
theorem c_ret {n1 : Nat} {g1 : zG} {h1 : zH} (hd : decode (zM_cc M) pc = .ok (.return_, 1)) (hr : zM_ret M = none) (ok : zOK M) (hn : n = zM_n0 M + zM_mc M) (e1 : n = n1) (e2 : g = g1) (e3 : h = h1) : WP M (zMQ M (fun r n' g' h' => r = none ∧ n' = n1 ∧ g' = g1 ∧ h' = h1)) pc ls [] n g h := wp_vret hd hr ⟨hn, by rw [hn]; exact ok⟩ ⟨rfl, e1, e2, e3⟩
end
