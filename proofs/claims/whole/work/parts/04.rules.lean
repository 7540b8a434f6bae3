def zFk : FieldType → Nat
  | .int => 0
  | .boolean => 1
  | .long => 2
  | _ => 3
/-- the entry idx of own's constant pool is the field k (kind t) of class ci -/
def zFL (own : String) (idx ci k t : Nat) : Prop := ci < 10 ∧ k < zFN ci ∧ Cond.fieldLink own idx (zR ci) (zT ci k).2.1 (zT ci k).2.2.1 ∈ zbig ∧ (zT ci k).1 = zR ci ∧ zFk (zty ci k) = t
def zIs (n a : Nat) (s : Nat × Nat) : Prop := zSH a = s ∧ 0 < a ∧ a ≤ n
theorem zSH_small : ∀ a, (zSH a).2 < 2147483648 := by
  intro a
  unfold zSH
  split
  · decide
  · rw [List.getD_eq_getElem?_getD]
    cases h : zSHL[a - 1]? with
    | none => decide
    | some q =>
      have h2 : ∀ q ∈ zSHL, q.2 < 2147483648 := by decide +kernel
      exact h2 q (List.mem_of_getElem? h)
section
variable {M : zM} {Q : zQT} {pc n : Nat} {ls : List (Option zv)} {st : List zv} {g : zG} {h : zH}
theorem wp_nop2 {A Bq : Prop} {tgt len : Nat} {st' : List zv}
    (f : ∀ (p : Program) (l : Launch) (e : Env) (R : Room) (s : State) (m : MethodId) (args : Array Value) (below : List Frame) (meth : Method) (c : Code) (H : Heap) (locs : List Loc) (cells slots : Nat) (B : Nat × Nat) (lA : Array Slot) (QQ : State → Prop), p.tables.exec = Jvm.exec → c.code = zM_cc M → zL B (zM_nL M) lA ls →
      (A → W p l e R s m args below meth c H locs cells slots QQ (F0 m tgt lA (st'.map (zc B)))) → (Bq → W p l e R s m args below meth c H locs cells slots QQ (F0 m (pc + len) lA (st'.map (zc B)))) → W p l e R s m args below meth c H locs cells slots QQ (F0 m pc lA (st.map (zc B))))
    (k1 : A → WP M Q tgt ls st' n g h) (k2 : Bq → WP M Q (pc + len) ls st' n g h) : WP M Q pc ls st n g h := by
  intro p l e s m args below meth c H locs cells slots D cs B lA C R S hA e1 e2 L
  exact f p l e _ s m args below meth c H locs cells slots B lA _ C.1 C.2.1 L (fun q => k1 q p l e s m args below meth c H locs cells slots D cs B lA C R S hA e1 e2 L) (fun q => k2 q p l e s m args below meth c H locs cells slots D cs B lA C R S hA e1 e2 L)
theorem wp_icmp_eq {x y off : Int} (tgt : Nat) (hd : decode (zM_cc M) pc = .ok (.if_icmp .eq off, 3)) (ht : (pc : Int) + off = (tgt : Int)) (hx : zin x) (hy : zin y) (k1 : x = y → WP M Q tgt ls st n g h) (k2 : x ≠ y → WP M Q (pc + 3) ls st n g h) : WP M Q pc ls (vI y :: vI x :: st) n g h :=
  wp_nop2 (fun _ _ _ _ _ _ _ _ _ _ _ _ _ _ _ _ _ hxx hb _ kt kf => lv_icmp_eq hxx hb hd ht (fun c => kt ((zin_eq hx hy).mp c)) (fun c => kf (fun q => c ((zin_eq hx hy).mpr q)))) k1 k2
theorem wp_if_eq {x off : Int} (tgt : Nat) (hd : decode (zM_cc M) pc = .ok (.ifCond .eq off, 3)) (ht : (pc : Int) + off = (tgt : Int)) (hx : zin x) (k1 : x = 0 → WP M Q tgt ls st n g h) (k2 : x ≠ 0 → WP M Q (pc + 3) ls st n g h) : WP M Q pc ls (vI x :: st) n g h :=
  wp_nop2 (fun _ _ _ _ _ _ _ _ _ _ _ _ _ _ _ _ _ hxx hb _ kt kf => lv_if_eq hxx hb hd ht (fun c => kt ((zin_eq hx zin_0).mp c)) (fun c => kf (fun q => c ((zin_eq hx zin_0).mpr q)))) k1 k2
theorem wp_icmp_ne {x y off : Int} (tgt : Nat) (hd : decode (zM_cc M) pc = .ok (.if_icmp .ne off, 3)) (ht : (pc : Int) + off = (tgt : Int)) (hx : zin x) (hy : zin y) (k1 : x ≠ y → WP M Q tgt ls st n g h) (k2 : x = y → WP M Q (pc + 3) ls st n g h) : WP M Q pc ls (vI y :: vI x :: st) n g h :=
  wp_nop2 (fun _ _ _ _ _ _ _ _ _ _ _ _ _ _ _ _ _ hxx hb _ kt kf => lv_icmp_ne hxx hb hd ht (fun c => kt (fun q => c ((zin_eq hx hy).mpr q))) (fun c => kf ((zin_eq hx hy).mp (by first | exact c | exact Classical.not_not.mp c)))) k1 k2
theorem wp_if_ne {x off : Int} (tgt : Nat) (hd : decode (zM_cc M) pc = .ok (.ifCond .ne off, 3)) (ht : (pc : Int) + off = (tgt : Int)) (hx : zin x) (k1 : x ≠ 0 → WP M Q tgt ls st n g h) (k2 : x = 0 → WP M Q (pc + 3) ls st n g h) : WP M Q pc ls (vI x :: st) n g h :=
  wp_nop2 (fun _ _ _ _ _ _ _ _ _ _ _ _ _ _ _ _ _ hxx hb _ kt kf => lv_if_ne hxx hb hd ht (fun c => kt (fun q => c ((zin_eq hx zin_0).mpr q))) (fun c => kf ((zin_eq hx zin_0).mp (by first | exact c | exact Classical.not_not.mp c)))) k1 k2
theorem wp_icmp_lt {x y off : Int} (tgt : Nat) (hd : decode (zM_cc M) pc = .ok (.if_icmp .lt off, 3)) (ht : (pc : Int) + off = (tgt : Int)) (hx : zin x) (hy : zin y) (k1 : x < y → WP M Q tgt ls st n g h) (k2 : y ≤ x → WP M Q (pc + 3) ls st n g h) : WP M Q pc ls (vI y :: vI x :: st) n g h :=
  wp_nop2 (fun _ _ _ _ _ _ _ _ _ _ _ _ _ _ _ _ _ hxx hb _ kt kf => lv_icmp_lt hxx hb hd ht (fun c => kt ((zin_lt hx hy).mp c)) (fun c => kf (by have q1 : ¬ _ := fun q => c ((zin_lt hx hy).mpr q); omega))) k1 k2
theorem wp_if_lt {x off : Int} (tgt : Nat) (hd : decode (zM_cc M) pc = .ok (.ifCond .lt off, 3)) (ht : (pc : Int) + off = (tgt : Int)) (hx : zin x) (k1 : x < 0 → WP M Q tgt ls st n g h) (k2 : 0 ≤ x → WP M Q (pc + 3) ls st n g h) : WP M Q pc ls (vI x :: st) n g h :=
  wp_nop2 (fun _ _ _ _ _ _ _ _ _ _ _ _ _ _ _ _ _ hxx hb _ kt kf => lv_if_lt hxx hb hd ht (fun c => kt ((zin_lt hx zin_0).mp c)) (fun c => kf (by have q1 : ¬ _ := fun q => c ((zin_lt hx zin_0).mpr q); omega))) k1 k2
theorem wp_icmp_ge {x y off : Int} (tgt : Nat) (hd : decode (zM_cc M) pc = .ok (.if_icmp .ge off, 3)) (ht : (pc : Int) + off = (tgt : Int)) (hx : zin x) (hy : zin y) (k1 : y ≤ x → WP M Q tgt ls st n g h) (k2 : x < y → WP M Q (pc + 3) ls st n g h) : WP M Q pc ls (vI y :: vI x :: st) n g h :=
  wp_nop2 (fun _ _ _ _ _ _ _ _ _ _ _ _ _ _ _ _ _ hxx hb _ kt kf => lv_icmp_ge hxx hb hd ht (fun c => kt ((zin_le hy hx).mp c)) (fun c => kf (by have q1 : ¬ _ := fun q => c ((zin_le hy hx).mpr q); omega))) k1 k2
theorem wp_if_ge {x off : Int} (tgt : Nat) (hd : decode (zM_cc M) pc = .ok (.ifCond .ge off, 3)) (ht : (pc : Int) + off = (tgt : Int)) (hx : zin x) (k1 : 0 ≤ x → WP M Q tgt ls st n g h) (k2 : x < 0 → WP M Q (pc + 3) ls st n g h) : WP M Q pc ls (vI x :: st) n g h :=
  wp_nop2 (fun _ _ _ _ _ _ _ _ _ _ _ _ _ _ _ _ _ hxx hb _ kt kf => lv_if_ge hxx hb hd ht (fun c => kt ((zin_le zin_0 hx).mp c)) (fun c => kf (by have q1 : ¬ _ := fun q => c ((zin_le zin_0 hx).mpr q); omega))) k1 k2
theorem wp_icmp_gt {x y off : Int} (tgt : Nat) (hd : decode (zM_cc M) pc = .ok (.if_icmp .gt off, 3)) (ht : (pc : Int) + off = (tgt : Int)) (hx : zin x) (hy : zin y) (k1 : y < x → WP M Q tgt ls st n g h) (k2 : x ≤ y → WP M Q (pc + 3) ls st n g h) : WP M Q pc ls (vI y :: vI x :: st) n g h :=
  wp_nop2 (fun _ _ _ _ _ _ _ _ _ _ _ _ _ _ _ _ _ hxx hb _ kt kf => lv_icmp_gt hxx hb hd ht (fun c => kt ((zin_lt hy hx).mp c)) (fun c => kf (by have q1 : ¬ _ := fun q => c ((zin_lt hy hx).mpr q); omega))) k1 k2
theorem wp_if_gt {x off : Int} (tgt : Nat) (hd : decode (zM_cc M) pc = .ok (.ifCond .gt off, 3)) (ht : (pc : Int) + off = (tgt : Int)) (hx : zin x) (k1 : 0 < x → WP M Q tgt ls st n g h) (k2 : x ≤ 0 → WP M Q (pc + 3) ls st n g h) : WP M Q pc ls (vI x :: st) n g h :=
  wp_nop2 (fun _ _ _ _ _ _ _ _ _ _ _ _ _ _ _ _ _ hxx hb _ kt kf => lv_if_gt hxx hb hd ht (fun c => kt ((zin_lt zin_0 hx).mp c)) (fun c => kf (by have q1 : ¬ _ := fun q => c ((zin_lt zin_0 hx).mpr q); omega))) k1 k2
theorem wp_icmp_le {x y off : Int} (tgt : Nat) (hd : decode (zM_cc M) pc = .ok (.if_icmp .le off, 3)) (ht : (pc : Int) + off = (tgt : Int)) (hx : zin x) (hy : zin y) (k1 : x ≤ y → WP M Q tgt ls st n g h) (k2 : y < x → WP M Q (pc + 3) ls st n g h) : WP M Q pc ls (vI y :: vI x :: st) n g h :=
  wp_nop2 (fun _ _ _ _ _ _ _ _ _ _ _ _ _ _ _ _ _ hxx hb _ kt kf => lv_icmp_le hxx hb hd ht (fun c => kt ((zin_le hx hy).mp c)) (fun c => kf (by have q1 : ¬ _ := fun q => c ((zin_le hx hy).mpr q); omega))) k1 k2
theorem wp_if_le {x off : Int} (tgt : Nat) (hd : decode (zM_cc M) pc = .ok (.ifCond .le off, 3)) (ht : (pc : Int) + off = (tgt : Int)) (hx : zin x) (k1 : x ≤ 0 → WP M Q tgt ls st n g h) (k2 : 0 < x → WP M Q (pc + 3) ls st n g h) : WP M Q pc ls (vI x :: st) n g h :=
  wp_nop2 (fun _ _ _ _ _ _ _ _ _ _ _ _ _ _ _ _ _ hxx hb _ kt kf => lv_if_le hxx hb hd ht (fun c => kt ((zin_le hx zin_0).mp c)) (fun c => kf (by have q1 : ¬ _ := fun q => c ((zin_le hx zin_0).mpr q); omega))) k1 k2
theorem wp_goto {off : Int} (tgt : Nat) (hd : decode (zM_cc M) pc = .ok (.goto off, 3)) (ht : (pc : Int) + off = (tgt : Int)) (k : WP M Q tgt ls st n g h) : WP M Q pc ls st n g h := by
  intro p l e s m args below meth c H locs cells slots D cs B lA C R S hA e1 e2 L
  exact lv_goto C.1 C.2.1 hd ht (k p l e s m args below meth c H locs cells slots D cs B lA C R S hA e1 e2 L)
theorem wp_ifnull {x : Nat} {off : Int} (hd : decode (zM_cc M) pc = .ok (.ifnull off, 3)) (hx : x ≠ 0) (k : WP M Q (pc + 3) ls st n g h) : WP M Q pc ls (vR x :: st) n g h :=
  wp_nop1 (ins := .iadd) (fun _ _ _ _ _ _ _ _ _ _ _ _ _ _ B _ _ hxx hb _ kk => by
    have e : zc B (vR x) = .ref (zad B x) := if_neg hx
    rw [List.map_cons, e]
    exact lv_ifnull hxx hb hd kk) k
theorem wp_ifnonnull {x tgt : Nat} {off : Int} (hd : decode (zM_cc M) pc = .ok (.ifnonnull off, 3)) (ht : (pc : Int) + off = (tgt : Int)) (hx : x ≠ 0) (k : WP M Q tgt ls st n g h) : WP M Q pc ls (vR x :: st) n g h := by
  intro p l e s m args below meth c H locs cells slots D cs B lA C R S hA e1 e2 L
  have e9 : zc B (vR x) = .ref (zad B x) := if_neg hx
  rw [List.map_cons, e9]
  exact lv_ifnonnull C.1 C.2.1 hd ht (k p l e s m args below meth c H locs cells slots D cs B lA C R S hA e1 e2 L)
theorem wp_dup {v : zv} (hd : decode (zM_cc M) pc = .ok (.dup, 1)) (hs : zsafe (some v) = true) (k : WP M Q (pc + 1) ls (v :: v :: st) n g h) : WP M Q pc ls (v :: st) n g h :=
  wp_nop1 (ins := .iadd) (fun _ _ _ _ _ _ _ _ _ _ _ _ _ _ _ _ _ hxx hb _ kk => lv_dup hxx hb hd (zc_cat hs) kk) k
theorem wp_dup2 {v w : zv} (hd : decode (zM_cc M) pc = .ok (.dup2, 1)) (hs : zsafe (some v) = true) (hs2 : zsafe (some w) = true) (k : WP M Q (pc + 1) ls (v :: w :: v :: w :: st) n g h) : WP M Q pc ls (v :: w :: st) n g h :=
  wp_nop1 (ins := .iadd) (fun _ _ _ _ _ _ _ _ _ _ _ _ _ _ _ _ _ hxx hb _ kk => lv_dup2_11 hxx hb hd (zc_cat hs) (zc_cat hs2) kk) k
theorem wp_pop {v : zv} (hd : decode (zM_cc M) pc = .ok (.pop, 1)) (hs : zsafe (some v) = true) (k : WP M Q (pc + 1) ls st n g h) : WP M Q pc ls (v :: st) n g h :=
  wp_nop1 (ins := .iadd) (fun _ _ _ _ _ _ _ _ _ _ _ _ _ _ _ _ _ hxx hb _ kk => lv_pop hxx hb hd (zc_cat hs) kk) k
theorem wp_i2l {x : Int} (hd : decode (zM_cc M) pc = .ok (.i2l, 1)) (hx : zin x) (k : WP M Q (pc + 1) ls (vL x :: st) n g h) : WP M Q pc ls (vI x :: st) n g h :=
  wp_nop1 (ins := .iadd) (fun _ _ _ _ _ _ _ _ _ _ _ _ _ _ _ _ _ hxx hb _ kk => lv_i2l hxx hb hd (Int32.toInt64_ofInt hx.1 (Int.le_of_lt_add_one hx.2)) kk) k
theorem wp_ladd {x y : Int} (hd : decode (zM_cc M) pc = .ok (.ladd, 1)) (k : WP M Q (pc + 1) ls (vL (x + y) :: st) n g h) : WP M Q pc ls (vL y :: vL x :: st) n g h :=
  wp_nop1 (ins := .iadd) (fun _ _ _ _ _ _ _ _ _ _ _ _ _ _ _ _ _ hxx hb _ kk => lv_ladd hxx hb hd (by rw [← Int64.ofInt_add]; exact kk)) k
theorem wp_lmul {x y : Int} (hd : decode (zM_cc M) pc = .ok (.lmul, 1)) (k : WP M Q (pc + 1) ls (vL (x * y) :: st) n g h) : WP M Q pc ls (vL y :: vL x :: st) n g h :=
  wp_nop1 (ins := .iadd) (fun _ _ _ _ _ _ _ _ _ _ _ _ _ _ _ _ _ hxx hb _ kk => lv_lmul hxx hb hd (by rw [← Int64.ofInt_mul]; exact kk)) k
theorem wp_lstoren {kf : Fin 4} {x : Int} {ls' : List (Option zv)} (i : Nat) (hs : zok ls i = true) (hi : (kf : Nat) = i) (hset : (ls.set i (some (vL x))).set (i + 1) none = ls') (hn : i + 1 < zM_nL M) (hd : decode (zM_cc M) pc = .ok (.lstore_n kf, 1)) (k : WP M Q (pc + 1) ls' st n g h) : WP M Q pc ls (vL x :: st) n g h := by
  intro p l e s m args below meth c H locs cells slots D cs B lA C R S hA e1 e2 L
  subst hset
  refine lv_lstore_n C.1 C.2.1 hd hi L.has hn rfl (fun lA' hL => k p l e s m args below meth c H locs cells slots D cs B lA' C R S hA e1 e2 ⟨hL.1, hL.2.1, fun j u hj => ?_⟩)
  rw [List.getElem?_set] at hj
  by_cases q : i + 1 = j
  · rw [if_pos q] at hj
    split at hj <;> cases hj
  · rw [if_neg q, List.getElem?_set] at hj
    by_cases q2 : i = j
    · rw [if_pos q2] at hj
      split at hj
      · cases hj
        subst q2
        exact hL.2.2 _ List.mem_cons_self
      · cases hj
    · rw [if_neg q2] at hj
      refine hL.2.2 (j, zc B u) (List.mem_cons_of_mem _ (List.mem_filter.mpr ⟨zpr_mem hj, ?_⟩))
      have e3 : ¬ j = i := fun z => q2 z.symm
      have e4 : ¬ j = i + 1 := fun z => q z.symm
      by_cases e5 : j + 1 = i
      · subst e5
        have hsu : zsafe (some u) = true := by
          have h3 : ls.getD j none = some u := by rw [List.getD_eq_getElem?_getD, hj]; rfl
          have h4 : zsafe (ls.getD j none) = true := hs
          rw [h3] at h4
          exact h4
        simp [zc_cat hsu, e4]
      · simp [e3, e4, e5]
theorem wp_ldc2 {v : Int} {idx : Nat} (hd : decode (zM_cc M) pc = .ok (.ldc2_w idx, 3)) (hc : Cond.constantLong (zM_own M) idx (Int64.ofInt v) ∈ zbig) (k : WP M Q (pc + 3) ls (vL v :: st) n g h) : WP M Q pc ls st n g h := by
  intro p l e s m args below meth c H locs cells slots D cs B lA C R S hA e1 e2 L
  obtain ⟨hx, hb, -, -, -, -, hown, hts, -⟩ := id C
  exact lv_ldc2 hx hb hown (hts _ hc) hd (k p l e s m args below meth c H locs cells slots D cs B lA C R S hA e1 e2 L)
theorem wp_ldc {v : Int} {idx : Nat} (hd : decode (zM_cc M) pc = .ok (.ldc idx, 2)) (hc : Cond.constant (zM_own M) idx (Int32.ofInt v) ∈ zbig) (k : WP M Q (pc + 2) ls (vI v :: st) n g h) : WP M Q pc ls st n g h := by
  intro p l e s m args below meth c H locs cells slots D cs B lA C R S hA e1 e2 L
  obtain ⟨hx, hb, -, -, -, -, hown, hts, -⟩ := id C
  exact lv_ldc hx hb hown (hts _ hc) hd (k p l e s m args below meth c H locs cells slots D cs B lA C R S hA e1 e2 L)
theorem wp_ldcw {v : Int} {idx : Nat} (hd : decode (zM_cc M) pc = .ok (.ldc_w idx, 3)) (hc : Cond.constant (zM_own M) idx (Int32.ofInt v) ∈ zbig) (k : WP M Q (pc + 3) ls (vI v :: st) n g h) : WP M Q pc ls st n g h := by
  intro p l e s m args below meth c H locs cells slots D cs B lA C R S hA e1 e2 L
  obtain ⟨hx, hb, -, -, -, -, hown, hts, -⟩ := id C
  exact lv_ldcw hx hb hown (hts _ hc) hd (k p l e s m args below meth c H locs cells slots D cs B lA C R S hA e1 e2 L)
theorem zcell_o {cs : zcs} {B : Nat × Nat} {a ci N : Nat} (hs : zSH a = (ci, N)) (hc : ci < 10) : zcell cs B g h a = .inr (ci, (List.range N).map (fun j => zfv B (zty ci j) (g a j) (h a j))) := by
  unfold zcell
  rw [hs, if_pos hc]
theorem zcell_i {cs : zcs} {B : Nat × Nat} {a N : Nat} (hs : zSH a = (10, N)) : zcell cs B g h a = .inl (cs.1, N, .inl (fun j => Int32.ofInt (h a j))) := by
  unfold zcell
  rw [hs]
  rfl
theorem zcell_q {cs : zcs} {B : Nat × Nat} {a N : Nat} (hs : zSH a = (11, N)) : zcell cs B g h a = .inl (cs.2.1, N, .inr (.inr (.inr (.inr (fun j => zrq B (g a j)))))) := by
  unfold zcell
  rw [hs]
  rfl
theorem zcell_p {cs : zcs} {B : Nat × Nat} {a N : Nat} (hs : zSH a = (12, N)) : zcell cs B g h a = .inl (cs.2.2, N, .inr (.inr (.inr (.inr (fun j => zrq B (g a j)))))) := by
  unfold zcell
  rw [hs]
  rfl
theorem zIs_ad {B : Nat × Nat} {a : Nat} {s : Nat × Nat} (hs : zIs n a s) (hn : s.1 ≠ 99) : a ≠ 1000 := by
  rintro rfl
  obtain ⟨h1, -, -⟩ := hs
  have h2 : zSH 1000 = (99, 0) := by decide +kernel
  rw [h2] at h1
  exact hn (by rw [← h1])
theorem zc_ref {B : Nat × Nat} {a : Nat} {s : Nat × Nat} (hs : zIs n a s) (hn : s.1 ≠ 99) : zc B (vR a) = .ref (B.1 + a) := by
  show zrf B a = _
  unfold zrf zad
  rw [if_neg (by have := hs.2.1; omega), if_neg (zIs_ad (B := B) hs hn)]
theorem wp_getf {a ci k t idx : Nat} {v : zv} (hd : decode (zM_cc M) pc = .ok (.getfield idx, 3)) (hf : zFL (zM_own M) idx ci k t) (hs : zIs n a (ci, zFN ci)) (hv : ∀ B, zfv B (zty ci k) (g a k) (h a k) = zc B v) (kk : WP M Q (pc + 3) ls (v :: st) n g h) : WP M Q pc ls (vR a :: st) n g h := by
  intro p l e s m args below meth c H locs cells slots D cs B lA C R S hA e1 e2 L
  obtain ⟨hx, hb, -, -, -, -, hown, hts, hK, -⟩ := id C
  obtain ⟨hc, hk, hl, ht1, -⟩ := hf
  rw [List.map_cons, zc_ref hs (by show ci ≠ 99; omega)]
  refine va_get (D := D) (ci := ci) (v := zc B v) (C := zR ci) (T := zT ci) (N := zFN ci) hx hb hts (z_in ci hc) hown hK R.2 (a - 1) (fs := (List.range (zFN ci)).map (fun j => zfv B (zty ci j) (g a j) (h a j))) (by rw [zws_get hs.2.1 hs.2.2, zcell_o hs.1 hc]) (z_vw ci hc) k hk (hts _ hl) (fun _ h9 => by rw [← ht1]; exact h9) ?_ hd (kk p l e s m args below meth c H locs cells slots D cs B lA C R S hA e1 e2 L)
  rw [List.getElem?_map, List.getElem?_range hk]
  exact congrArg some (hv B)
theorem wp_geti {a ci k idx : Nat} (hd : decode (zM_cc M) pc = .ok (.getfield idx, 3)) (hf : zFL (zM_own M) idx ci k 0) (hs : zIs n a (ci, zFN ci)) (kk : WP M Q (pc + 3) ls (vI (h a k) :: st) n g h) : WP M Q pc ls (vR a :: st) n g h :=
  wp_getf hd hf hs (v := vI (h a k)) (fun B => by
    have h1 := hf.2.2.2.2
    unfold zfv
    generalize zty ci k = ty at h1
    cases ty <;> first | rfl | (cases h1; done)) kk
theorem wp_getz {a ci k idx : Nat} (hd : decode (zM_cc M) pc = .ok (.getfield idx, 3)) (hf : zFL (zM_own M) idx ci k 1) (hs : zIs n a (ci, zFN ci)) (kk : WP M Q (pc + 3) ls (vI (h a k) :: st) n g h) : WP M Q pc ls (vR a :: st) n g h :=
  wp_getf hd hf hs (v := vI (h a k)) (fun B => by
    have h1 := hf.2.2.2.2
    unfold zfv
    generalize zty ci k = ty at h1
    cases ty <;> first | rfl | (cases h1; done)) kk
theorem wp_getl {a ci k idx : Nat} (hd : decode (zM_cc M) pc = .ok (.getfield idx, 3)) (hf : zFL (zM_own M) idx ci k 2) (hs : zIs n a (ci, zFN ci)) (kk : WP M Q (pc + 3) ls (vL (h a k) :: st) n g h) : WP M Q pc ls (vR a :: st) n g h :=
  wp_getf hd hf hs (v := vL (h a k)) (fun B => by
    have h1 := hf.2.2.2.2
    unfold zfv
    generalize zty ci k = ty at h1
    cases ty <;> first | rfl | (cases h1; done)) kk
theorem z_ty3 {ci k : Nat} {B : Nat × Nat} {r : Nat} {x : Int} (h1 : zFk (zty ci k) = 3) : zfv B (zty ci k) r x = zrf B r := by
  unfold zfv
  generalize zty ci k = ty at h1
  cases ty <;> first | rfl | (cases h1; done)
theorem wp_getr {a ci k idx : Nat} (v : Nat) (hd : decode (zM_cc M) pc = .ok (.getfield idx, 3)) (hf : zFL (zM_own M) idx ci k 3) (hs : zIs n a (ci, zFN ci)) (hv : g a k = v) (kk : WP M Q (pc + 3) ls (vR v :: st) n g h) : WP M Q pc ls (vR a :: st) n g h :=
  wp_getf hd hf hs (v := vR v) (fun B => by rw [z_ty3 hf.2.2.2.2, hv]; rfl) kk
theorem z_set {B : Nat × Nat} {ci k a N : Nat} {g' : zG} {h' : zH} {w : Value} (hk : k < N) (hw : zfv B (zty ci k) (g' a k) (h' a k) = w) (ho : ∀ j, j ≠ k → g' a j = g a j ∧ h' a j = h a j) : (List.range N).map (fun j => zfv B (zty ci j) (g' a j) (h' a j)) = ((List.range N).map (fun j => zfv B (zty ci j) (g a j) (h a j))).set k w := by
  apply List.ext_getElem?
  intro j
  rw [List.getElem?_set, List.getElem?_map]
  by_cases e : k = j
  · subst e
    rw [if_pos rfl, if_pos (by simpa using hk), List.getElem?_range hk, ← hw]
    rfl
  · rw [if_neg e, List.getElem?_map]
    obtain ⟨q1, q2⟩ := ho j (fun z => e z.symm)
    by_cases hj : j < N
    · rw [List.getElem?_range hj]
      simp only [Option.map_some, q1, q2]
    · rw [List.getElem?_eq_none (by simpa using hj)]
      rfl
theorem W_sized {p : Program} {l : Launch} {e : Env} {R0 : Room} {s : State} {m : MethodId} {args : Array Value} {below : List Frame} {meth : Method} {c : Code} {H H1 : Heap} {locs : List Loc} {cells slots : Nat} {QQ : State → Prop} {f : JFrame} {D : va_G} {cs : zcs} {B : Nat × Nat} {a : Nat} {x : Nat × va_E} {n0 : Nat} (hP : va_P D vwCl ((zws cs B n g h).set (a - 1) x) H1) (R : zRep D cs B n g h H) (hA : s.heap.size = B.1 + 1 + n0) (e1 : cells + n0 = n)
    (k : H1.size = H.size → W p l e R0 s m args below meth c H1 locs cells slots QQ f) (hx : x.1 = B.1 + a := by rfl) (h0 : 0 < a ∧ a ≤ n := by first | exact ⟨by assumption, by assumption⟩ | (constructor <;> simp_all [zIs])) : W p l e R0 s m args below meth c H1 locs cells slots QQ f := by
  intro T hT X
  refine k ?_ T hT X
  have h1 : H1.size ≤ s.heap.size + cells := hT ▸ X.heapSize
  have h2 : B.1 + n < H1.size := by
    have h3 : ∃ y, ((zws cs B n g h).set (a - 1) x)[n - 1]? = some y ∧ y.1 = B.1 + n := by
      rw [List.getElem?_set]
      by_cases q : a - 1 = n - 1
      · exact ⟨x, by rw [if_pos q, if_pos (by simp [zws]; omega)], by rw [hx]; omega⟩
      · exact ⟨_, by rw [if_neg q, zws_get (by omega) (Nat.le_refl n)], rfl⟩
    obtain ⟨y, hy, hy1⟩ := h3
    have := (hP _ _ hy).lt
    omega
  have := R.1
  omega
theorem wp_putf {a ci k t idx : Nat} {v : zv} {g' : zG} {h' : zH} (hd : decode (zM_cc M) pc = .ok (.putfield idx, 3)) (hf : zFL (zM_own M) idx ci k t) (hs : zIs n a (ci, zFN ci)) (hnf : (zT ci k).2.2.2 = false) (hv : ∀ B, zfv B (zty ci k) (g' a k) (h' a k) = zc B v ∧ narrow (zty ci k) (zc B v) = zc B v ∧ fits (zty ci k) (zc B v) = true)
    (ho : ∀ j, j ≠ k → g' a j = g a j ∧ h' a j = h a j) (hb' : ∀ cs B, ∀ b, b ≠ a → zcell cs B g' h' b = zcell cs B g h b) (kk : WP M Q (pc + 3) ls st n g' h') : WP M Q pc ls (v :: vR a :: st) n g h := by
  intro p l e s m args below meth c H locs cells slots D cs B lA C R S hA e1 e2 L
  obtain ⟨hx, hb, -, -, -, -, hown, hts, hK, -⟩ := id C
  obtain ⟨hc, hk, hl, ht1, -⟩ := hf
  rw [List.map_cons, List.map_cons, zc_ref hs (by show ci ≠ 99; omega)]
  refine va_put (D := D) (ci := ci) (v := zc B v) (ty := zty ci k) (C := zR ci) (T := zT ci) (N := zFN ci) hx hb hts (z_in ci hc) (zty ci) (z_ty ci hc) (z_nm ci hc) hown hK R.2 (zws_D cs B n g h) S (a - 1) (fs := (List.range (zFN ci)).map (fun j => zfv B (zty ci j) (g a j) (h a j))) (by rw [zws_get hs.2.1 hs.2.2, zcell_o hs.1 hc]) (z_vw ci hc) k hk (hts _ hl) (fun _ h9 => by rw [← ht1]; exact h9) hnf (z_ty ci hc k hk) (hv B).2.1 (hv B).2.2 (by simpa using hk) hd (fun H1 locs1 hP1 hD1 hS1 => ?_)
  exact W_sized hP1 R hA e1 (fun hz => kk p l e s m args below meth c H1 locs1 cells slots D cs B lA C (zRep_of R hz hs.2.1 hs.2.2 hP1 (by rw [zcell_o hs.1 hc, z_set hk (hv B).1 ho]) (hb' cs B)) hS1 hA e1 e2 L)
theorem z_tyi {ci k : Nat} (h1 : zFk (zty ci k) = 0) : zty ci k = .int := by
  generalize zty ci k = ty at h1
  cases ty <;> first | rfl | (cases h1; done)
theorem z_tyz {ci k : Nat} (h1 : zFk (zty ci k) = 1) : zty ci k = .boolean := by
  generalize zty ci k = ty at h1
  cases ty <;> first | rfl | (cases h1; done)
theorem z_tyl {ci k : Nat} (h1 : zFk (zty ci k) = 2) : zty ci k = .long := by
  generalize zty ci k = ty at h1
  cases ty <;> first | rfl | (cases h1; done)
theorem wp_puti {a ci k idx : Nat} {x : Int} (hd : decode (zM_cc M) pc = .ok (.putfield idx, 3)) (hf : zFL (zM_own M) idx ci k 0) (hs : zIs n a (ci, zFN ci)) (hnf : (zT ci k).2.2.2 = false) (kk : WP M Q (pc + 3) ls st n g (zup h a k x)) : WP M Q pc ls (vI x :: vR a :: st) n g h :=
  wp_putf hd hf hs hnf (fun B => by rw [z_tyi hf.2.2.2.2, zup_s]; exact ⟨rfl, rfl, rfl⟩) (fun j hj => ⟨rfl, zup_o (fun q => hj q.2)⟩) (fun cs B b hb => zcell_h b hb) kk
theorem wp_putz {a ci k idx : Nat} {x : Int} (hd : decode (zM_cc M) pc = .ok (.putfield idx, 3)) (hf : zFL (zM_own M) idx ci k 1) (hs : zIs n a (ci, zFN ci)) (hnf : (zT ci k).2.2.2 = false) (hx : x = 0 ∨ x = 1) (kk : WP M Q (pc + 3) ls st n g (zup h a k x)) : WP M Q pc ls (vI x :: vR a :: st) n g h :=
  wp_putf hd hf hs hnf (fun B => by rw [z_tyz hf.2.2.2.2, zup_s]; rcases hx with rfl | rfl <;> exact ⟨rfl, rfl, rfl⟩) (fun j hj => ⟨rfl, zup_o (fun q => hj q.2)⟩) (fun cs B b hb => zcell_h b hb) kk
theorem wp_putl {a ci k idx : Nat} {x : Int} (hd : decode (zM_cc M) pc = .ok (.putfield idx, 3)) (hf : zFL (zM_own M) idx ci k 2) (hs : zIs n a (ci, zFN ci)) (hnf : (zT ci k).2.2.2 = false) (kk : WP M Q (pc + 3) ls st n g (zup h a k x)) : WP M Q pc ls (vL x :: vR a :: st) n g h :=
  wp_putf hd hf hs hnf (fun B => by rw [z_tyl hf.2.2.2.2, zup_s]; exact ⟨rfl, rfl, rfl⟩) (fun j hj => ⟨rfl, zup_o (fun q => hj q.2)⟩) (fun cs B b hb => zcell_h b hb) kk
theorem wp_iald {a N : Nat} {i : Int} (hd : decode (zM_cc M) pc = .ok (.iaload, 1)) (hs : zIs n a (10, N)) (hi : 0 ≤ i ∧ i < N) (kk : WP M Q (pc + 1) ls (vI (h a i.toNat) :: st) n g h) : WP M Q pc ls (vI i :: vR a :: st) n g h := by
  intro p l e s m args below meth c H locs cells slots D cs B lA C R S hA e1 e2 L
  obtain ⟨hx, hb, -, -, -, -, hown, hts, hK, -⟩ := id C
  have hN : N < 2147483648 := by have := zSH_small a; rw [hs.1] at this; exact this
  rw [List.map_cons, List.map_cons, zc_ref hs (show (10 : Nat) ≠ 99 by decide)]
  refine va_iald (D := D) (cl := vwCl) (tys := ztys cs) hx hb hK R.2 (a - 1) 0 (by rw [zws_get hs.2.1 hs.2.2, zcell_i hs.1]) rfl (zin_vp hi.1 hi.2 hN) hd ?_
  rw [zin_clamp ⟨by omega, by omega⟩]
  exact kk p l e s m args below meth c H locs cells slots D cs B lA C R S hA e1 e2 L
theorem wp_iast {a N : Nat} {i x : Int} (hd : decode (zM_cc M) pc = .ok (.iastore, 1)) (hs : zIs n a (10, N)) (hi : 0 ≤ i ∧ i < N) (kk : WP M Q (pc + 1) ls st n g (zup h a i.toNat x)) : WP M Q pc ls (vI x :: vI i :: vR a :: st) n g h := by
  intro p l e s m args below meth c H locs cells slots D cs B lA C R S hA e1 e2 L
  obtain ⟨hx, hb, -, -, -, -, hown, hts, hK, -⟩ := id C
  have hN : N < 2147483648 := by have := zSH_small a; rw [hs.1] at this; exact this
  rw [List.map_cons, List.map_cons, List.map_cons, zc_ref hs (show (10 : Nat) ≠ 99 by decide)]
  refine va_iast (D := D) (cl := vwCl) (tys := ztys cs) hx hb hK R.2 (zws_D cs B n g h) S (a - 1) 0 (by rw [zws_get hs.2.1 hs.2.2, zcell_i hs.1]) rfl (zin_vp hi.1 hi.2 hN) hd (fun H1 locs1 hP1 hD1 hS1 => ?_)
  exact W_sized hP1 R hA e1 (fun hz => kk p l e s m args below meth c H1 locs1 cells slots D cs B lA C (zRep_of R hz hs.2.1 hs.2.2 hP1 (by
    rw [zcell_i hs.1]
    have e9 : (fun j => Int32.ofInt (zup h a i.toNat x a j)) = upd (fun j => Int32.ofInt (h a j)) (Int32.ofInt i).toNatClampNeg (Int32.ofInt x) := by
      funext j
      rw [zin_clamp ⟨by omega, by omega⟩]
      unfold upd zup
      by_cases q : j = i.toNat
      · simp [q]
      · simp [q]
    rw [e9]) (fun b hb => zcell_h b hb)) hS1 hA e1 e2 L)
theorem wp_alen {a k N : Nat} (hd : decode (zM_cc M) pc = .ok (.arraylength, 1)) (hs : zIs n a (k, N)) (hk : 10 ≤ k ∧ k ≤ 12) (kk : WP M Q (pc + 1) ls (vI (N : Int) :: st) n g h) : WP M Q pc ls (vR a :: st) n g h := by
  intro p l e s m args below meth c H locs cells slots D cs B lA C R S hA e1 e2 L
  obtain ⟨hx, hb, -, -, -, -, hown, hts, hK, -⟩ := id C
  rw [List.map_cons, zc_ref hs (by show k ≠ 99; omega)]
  have k' := kk p l e s m args below meth c H locs cells slots D cs B lA C R S hA e1 e2 L
  rcases (show k = 10 ∨ k = 11 ∨ k = 12 by omega) with rfl | rfl | rfl
  · have ha := zws_get (cs := cs) (B := B) (g := g) (h := h) hs.2.1 hs.2.2
    rw [zcell_i hs.1] at ha
    exact va_alen (D := D) (cl := vwCl) (tys := ztys cs) hx hb hK R.2 (a - 1) 0 ha rfl (v := Int32.ofInt (N : Int)) (by show Int32.ofNat N = _; exact Int32.ofInt_eq_ofNat.symm) hd k'
  · have ha := zws_get (cs := cs) (B := B) (g := g) (h := h) hs.2.1 hs.2.2
    rw [zcell_q hs.1] at ha
    exact va_alen (D := D) (cl := vwCl) (tys := ztys cs) hx hb hK R.2 (a - 1) 1 ha rfl (v := Int32.ofInt (N : Int)) (by show Int32.ofNat N = _; exact Int32.ofInt_eq_ofNat.symm) hd k'
  · have ha := zws_get (cs := cs) (B := B) (g := g) (h := h) hs.2.1 hs.2.2
    rw [zcell_p hs.1] at ha
    exact va_alen (D := D) (cl := vwCl) (tys := ztys cs) hx hb hK R.2 (a - 1) 2 ha rfl (v := Int32.ofInt (N : Int)) (by show Int32.ofNat N = _; exact Int32.ofInt_eq_ofNat.symm) hd k'
theorem zrq_rf (B : Nat × Nat) (r : Nat) : va_rf (zrq B r) = zrf B r := by
  unfold zrq zrf
  split <;> rfl
theorem wp_aald {a k N : Nat} {i : Int} (v : Nat) (hd : decode (zM_cc M) pc = .ok (.aaload, 1)) (hs : zIs n a (k, N)) (hk : k = 11 ∨ k = 12) (hi : 0 ≤ i ∧ i < N) (hv : g a i.toNat = v) (kk : WP M Q (pc + 1) ls (vR v :: st) n g h) : WP M Q pc ls (vI i :: vR a :: st) n g h := by
  intro p l e s m args below meth c H locs cells slots D cs B lA C R S hA e1 e2 L
  obtain ⟨hx, hb, -, -, -, -, hown, hts, hK, -⟩ := id C
  have hN : N < 2147483648 := by have := zSH_small a; rw [hs.1] at this; exact this
  rw [List.map_cons, List.map_cons, zc_ref hs (by show k ≠ 99; omega)]
  have k' := kk p l e s m args below meth c H locs cells slots D cs B lA C R S hA e1 e2 L
  have hin := zin_vp hi.1 hi.2 hN
  have hcl : (Int32.ofInt i).toNatClampNeg = i.toNat := zin_clamp ⟨by omega, by omega⟩
  have hlt : (Int32.ofInt i).toNatClampNeg < N := by rw [hcl]; omega
  rcases hk with rfl | rfl
  · have ha := R.2 (a - 1) _ (zws_get (cs := cs) (B := B) (g := g) (h := h) hs.2.1 hs.2.2)
    rw [zcell_q hs.1] at ha
    refine W.aald (v := zrf B v) (ty := .array .int) hx hb (show H[B.1 + a]? = some (arrV _ N (fun j => va_rf (zrq B (g a j)))) from ha) ((hK.2 1 _ rfl).1 N (fun j => va_rf (zrq B (g a j)))) rfl (fun q => by cases q) (by show ¬ (_ ∨ (arrV _ _ _).slots.size ≤ _); rw [arrV_size]; exact hin) (by show (arrV _ _ _).slots[_]? = _; rw [arrV_read _ _ hlt, hcl, zrq_rf, hv]) rfl rfl hd k'
  · have ha := R.2 (a - 1) _ (zws_get (cs := cs) (B := B) (g := g) (h := h) hs.2.1 hs.2.2)
    rw [zcell_p hs.1] at ha
    refine W.aald (v := zrf B v) (ty := .object RX4) hx hb (show H[B.1 + a]? = some (arrV _ N (fun j => va_rf (zrq B (g a j)))) from ha) ((hK.2 2 _ rfl).1 N (fun j => va_rf (zrq B (g a j)))) rfl (fun q => by cases q) (by show ¬ (_ ∨ (arrV _ _ _).slots.size ≤ _); rw [arrV_size]; exact hin) (by show (arrV _ _ _).slots[_]? = _; rw [arrV_read _ _ hlt, hcl, zrq_rf, hv]) rfl rfl hd k'
end
