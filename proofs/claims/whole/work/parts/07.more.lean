theorem mstat_max : Cond.static yJ9_max_7cf53 ∈ zbig := zmem 486 (by decide +kernel) (by decide +kernel)
theorem mcode_max : Cond.code yJ9_max_7cf53 cJ9_max_7cf53 2 (some .int) ∈ zbig := zmem 487 (by decide +kernel) (by decide +kernel)
theorem mstat_min : Cond.static yJ9_min_7cf53 ∈ zbig := zmem 412 (by decide +kernel) (by decide +kernel)
theorem mcode_min : Cond.code yJ9_min_7cf53 cJ9_min_7cf53 2 (some .int) ∈ zbig := zmem 413 (by decide +kernel) (by decide +kernel)
theorem mini_math : Cond.initialized "java/lang/Math" ∈ zbig := zmem 84 (by decide +kernel) (by decide +kernel)
theorem mini_sys : Cond.initialized "java/lang/System" ∈ zbig := zmem 87 (by decide +kernel) (by decide +kernel)
theorem mstat_copy : Cond.static arraycopyName ∈ zbig := zmem 712 (by decide +kernel) (by decide +kernel)
theorem mnat_copy : Cond.native arraycopyName ∈ zbig := zmem 713 (by decide +kernel) (by decide +kernel)
theorem lk_RX1_106 : Cond.methodLink RX1 106 arraycopyName ∈ zbig := zmem 797 (by decide +kernel) (by decide +kernel)
theorem lk_RX7_57 : Cond.methodLink RX7 57 arraycopyName ∈ zbig := zmem 711 (by decide +kernel) (by decide +kernel)
theorem mo_inst : Cond.instanceMethod Lib.objectInit ∈ zbig := zmem 94 (by decide +kernel) (by decide +kernel)
theorem mo_code : Cond.code Lib.objectInit ⟨#[0xb1]⟩ 1 none ∈ zbig := zmem 95 (by decide +kernel) (by decide +kernel)
theorem lo_RX9_1 : Cond.methodLink RX9 1 Lib.objectInit ∈ zbig := zmem 93 (by decide +kernel) (by decide +kernel)
theorem lo_RX0_3 : Cond.methodLink RX0 3 Lib.objectInit ∈ zbig := zmem 122 (by decide +kernel) (by decide +kernel)
theorem lo_RX1_3 : Cond.methodLink RX1 3 Lib.objectInit ∈ zbig := zmem 310 (by decide +kernel) (by decide +kernel)
theorem lo_RX2_3 : Cond.methodLink RX2 3 Lib.objectInit ∈ zbig := zmem 246 (by decide +kernel) (by decide +kernel)
theorem lo_RX4_3 : Cond.methodLink RX4 3 Lib.objectInit ∈ zbig := zmem 101 (by decide +kernel) (by decide +kernel)
theorem lo_RX5_3 : Cond.methodLink RX5 3 Lib.objectInit ∈ zbig := zmem 158 (by decide +kernel) (by decide +kernel)
theorem lo_RX6_3 : Cond.methodLink RX6 3 Lib.objectInit ∈ zbig := zmem 287 (by decide +kernel) (by decide +kernel)
theorem lo_RX7_3 : Cond.methodLink RX7 3 Lib.objectInit ∈ zbig := zmem 164 (by decide +kernel) (by decide +kernel)
theorem lo_RX8_3 : Cond.methodLink RX8 3 Lib.objectInit ∈ zbig := zmem 266 (by decide +kernel) (by decide +kernel)
theorem lo_RX10_1 : Cond.methodLink RX10 1 Lib.objectInit ∈ zbig := zmem 930 (by decide +kernel) (by decide +kernel)
theorem zbv (x : Int) : (Int32.ofInt x).toBitVec.toNat = (x % 4294967296).toNat := by
  show (BitVec.ofInt 32 x).toNat = _
  rw [BitVec.toNat_ofInt]
  rfl
theorem zbv_in {x : Int} (h : 0 ≤ x ∧ x < 2147483648) : (Int32.ofInt x).toBitVec.toNat = x.toNat := by
  rw [zbv, Int.emod_eq_of_lt h.1 (by omega)]
theorem zi_ext {a : Int32} {x : Int} (h : a.toBitVec.toNat = (x % 4294967296).toNat) : a = Int32.ofInt x := by
  apply Int32.toBitVec_inj.mp
  apply BitVec.eq_of_toNat_eq
  rw [h, zbv]
theorem z_amt : ∀ k, k < 32 → ((Int32.ofNat k &&& 31).toBitVec.smod 32).toNat = k := by decide +kernel
theorem z_amtu : ∀ k, k < 32 → (((Int32.ofNat k).toUInt32 &&& Int32.toUInt32 31).toBitVec % 32).toNat = k := by decide +kernel
theorem z_ofInt {y : Int} (h : 0 ≤ y) : Int32.ofInt y = Int32.ofNat y.toNat := by
  have e : y = ((y.toNat : Nat) : Int) := by omega
  rw [e]
  exact Int32.ofInt_eq_ofNat
section
variable {M : zM} {Q : zQT} {pc n : Nat} {ls : List (Option zv)} {st : List zv} {g : zG} {h : zH}
theorem wp_ishl {x y : Int} (hd : decode (zM_cc M) pc = .ok (.ishl, 1)) (hy : 0 ≤ y ∧ y < 32) (k : WP M Q (pc + 1) ls (vI (x * 2 ^ y.toNat) :: st) n g h) : WP M Q pc ls (vI y :: vI x :: st) n g h :=
  wp_nop1 (ins := .iadd) (fun _ _ _ _ _ _ _ _ _ _ _ _ _ _ _ _ _ hxx hb _ kk => lv_ishl hxx hb hd (by
    have e : Int32.ofInt x <<< (Int32.ofInt y &&& 31) = Int32.ofInt (x * 2 ^ y.toNat) := by
      apply zi_ext
      rw [z_ofInt hy.1, pk_shl _ _ y.toNat (z_amt _ (by omega)), zbv]
      have h0 : 0 ≤ x % 4294967296 := Int.emod_nonneg _ (by decide)
      have h1 : ((x % 4294967296).toNat * 2 ^ y.toNat % 2 ^ 32 : Nat) = ((x % 4294967296 * 2 ^ y.toNat) % 4294967296).toNat := by
        apply Int.ofNat.inj
        show ((((x % 4294967296).toNat * 2 ^ y.toNat % 2 ^ 32 : Nat)) : Int) = (((x % 4294967296 * 2 ^ y.toNat) % 4294967296).toNat : Int)
        rw [Int.toNat_of_nonneg (Int.emod_nonneg _ (by decide))]
        simp [Int.toNat_of_nonneg h0]
      rw [h1, Int.mul_emod, Int.emod_emod, ← Int.mul_emod]
    rw [e]
    exact kk)) k
theorem wp_ishr {x y : Int} (hd : decode (zM_cc M) pc = .ok (.ishr, 1)) (hx : zin x) (hy : 0 ≤ y ∧ y < 32) (k : WP M Q (pc + 1) ls (vI (x / 2 ^ y.toNat) :: st) n g h) : WP M Q pc ls (vI y :: vI x :: st) n g h :=
  wp_nop1 (ins := .iadd) (fun _ _ _ _ _ _ _ _ _ _ _ _ _ _ _ _ _ hxx hb _ kk => lv_ishr hxx hb hd (by
    have e : Int32.ofInt x >>> (Int32.ofInt y &&& 31) = Int32.ofInt (x / 2 ^ y.toNat) := by
      apply Int32.toInt_inj.mp
      rw [z_ofInt hy.1, pk_shr _ _ y.toNat (z_amt _ (by omega)), zin_toInt hx, Int.shiftRight_eq_div_pow]
      have hp : (0 : Int) < 2 ^ y.toNat := Int.pow_pos (by decide)
      rw [zin_toInt]
      · simp
      · have h1 := hx.1
        have h2 := hx.2
        rcases Int.le_total 0 x with q | q
        · have h3 := Int.ediv_le_self (2 ^ y.toNat) q
          have h4 := Int.ediv_nonneg q (Int.le_of_lt hp)
          exact ⟨by omega, by omega⟩
        · have h5 : x ≤ x / 2 ^ y.toNat := by
            have h6 : x * 2 ^ y.toNat ≤ x := by
              have h7 : (1 : Int) ≤ 2 ^ y.toNat := hp
              have := Int.mul_le_mul_of_nonpos_left q h7
              rwa [Int.mul_one] at this
            exact Int.le_ediv_of_mul_le hp h6
          have h8 : x / 2 ^ y.toNat ≤ 0 := by
            have := Int.ediv_le_ediv hp q
            rwa [Int.zero_ediv] at this
          exact ⟨by omega, by omega⟩
    rw [e]
    exact kk)) k
theorem wp_iushr {x y : Int} (hd : decode (zM_cc M) pc = .ok (.iushr, 1)) (hy : 0 ≤ y ∧ y < 32) (k : WP M Q (pc + 1) ls (vI ((x % 4294967296) / 2 ^ y.toNat) :: st) n g h) : WP M Q pc ls (vI y :: vI x :: st) n g h :=
  wp_nop1 (ins := .iadd) (fun _ _ _ _ _ _ _ _ _ _ _ _ _ _ _ _ _ hxx hb _ kk => lv_iushr hxx hb hd (v := Int32.ofInt ((x % 4294967296) / 2 ^ y.toNat)) (by
    apply zi_ext
    rw [z_ofInt hy.1, pk_ushr _ _ y.toNat (z_amtu _ (by omega)), zbv]
    have h0 : 0 ≤ x % 4294967296 := Int.emod_nonneg _ (by decide)
    have h1 : x % 4294967296 < 4294967296 := Int.emod_lt_of_pos _ (by decide)
    have h2 := Int.ediv_le_self (2 ^ y.toNat) h0
    have hp : (0 : Int) < 2 ^ y.toNat := Int.pow_pos (by decide)
    have h3 := Int.ediv_nonneg h0 (Int.le_of_lt hp)
    rw [Int.emod_eq_of_lt h3 (by omega)]
    apply Int.ofNat.inj
    show (((x % 4294967296).toNat / 2 ^ y.toNat : Nat) : Int) = ((x % 4294967296 / 2 ^ y.toNat).toNat : Int)
    rw [Int.toNat_of_nonneg h3]
    simp [Int.toNat_of_nonneg h0]) kk) k
theorem z_nat32 {k : Nat} (h : k < 4294967296) : ((k : Int) % 4294967296).toNat = k := by omega
theorem wp_iand {x y : Int} (hd : decode (zM_cc M) pc = .ok (.iand, 1)) (hx : 0 ≤ x ∧ x < 2147483648) (hy : 0 ≤ y ∧ y < 2147483648) (k : WP M Q (pc + 1) ls (vI ((x.toNat &&& y.toNat : Nat) : Int) :: st) n g h) : WP M Q pc ls (vI y :: vI x :: st) n g h :=
  wp_nop1 (ins := .iadd) (fun _ _ _ _ _ _ _ _ _ _ _ _ _ _ _ _ _ hxx hb _ kk => lv_iand hxx hb hd (by
    have e : Int32.ofInt x &&& Int32.ofInt y = Int32.ofInt ((x.toNat &&& y.toNat : Nat) : Int) := by
      apply zi_ext
      rw [Int32.toBitVec_and, BitVec.toNat_and, zbv_in hx, zbv_in hy, z_nat32]
      exact Nat.lt_of_le_of_lt Nat.and_le_left (by omega)
    rw [e]
    exact kk)) k
theorem wp_ior {x y : Int} (hd : decode (zM_cc M) pc = .ok (.ior, 1)) (hx : 0 ≤ x ∧ x < 2147483648) (hy : 0 ≤ y ∧ y < 2147483648) (k : WP M Q (pc + 1) ls (vI ((x.toNat ||| y.toNat : Nat) : Int) :: st) n g h) : WP M Q pc ls (vI y :: vI x :: st) n g h :=
  wp_nop1 (ins := .iadd) (fun _ _ _ _ _ _ _ _ _ _ _ _ _ _ _ _ _ hxx hb _ kk => lv_ior hxx hb hd (by
    have e : Int32.ofInt x ||| Int32.ofInt y = Int32.ofInt ((x.toNat ||| y.toNat : Nat) : Int) := by
      apply zi_ext
      rw [Int32.toBitVec_or, BitVec.toNat_or, zbv_in hx, zbv_in hy, z_nat32]
      exact Nat.or_lt_two_pow (n := 32) (by omega) (by omega)
    rw [e]
    exact kk)) k
theorem wp_ixor {x y : Int} (hd : decode (zM_cc M) pc = .ok (.ixor, 1)) (hx : 0 ≤ x ∧ x < 2147483648) (hy : 0 ≤ y ∧ y < 2147483648) (k : WP M Q (pc + 1) ls (vI ((x.toNat ^^^ y.toNat : Nat) : Int) :: st) n g h) : WP M Q pc ls (vI y :: vI x :: st) n g h :=
  wp_nop1 (ins := .iadd) (fun _ _ _ _ _ _ _ _ _ _ _ _ _ _ _ _ _ hxx hb _ kk => lv_ixor hxx hb hd (by
    have e : Int32.ofInt x ^^^ Int32.ofInt y = Int32.ofInt ((x.toNat ^^^ y.toNat : Nat) : Int) := by
      apply zi_ext
      rw [Int32.toBitVec_xor, BitVec.toNat_xor, zbv_in hx, zbv_in hy, z_nat32]
      exact Nat.xor_lt_two_pow (n := 32) (by omega) (by omega)
    rw [e]
    exact kk)) k
/-- x ^ -1 -/
theorem wp_inot {x : Int} (hd : decode (zM_cc M) pc = .ok (.ixor, 1)) (k : WP M Q (pc + 1) ls (vI (-1 - x) :: st) n g h) : WP M Q pc ls (vI (-1) :: vI x :: st) n g h :=
  wp_nop1 (ins := .iadd) (fun _ _ _ _ _ _ _ _ _ _ _ _ _ _ _ _ _ hxx hb _ kk => lv_ixor hxx hb hd (by
    have e : Int32.ofInt x ^^^ Int32.ofInt (-1) = Int32.ofInt (-1 - x) := by
      rw [Int32.ofInt_sub]
      generalize Int32.ofInt x = a
      apply Int32.toBitVec_inj.mp
      show a.toBitVec ^^^ BitVec.allOnes 32 = -1#32 - a.toBitVec
      rw [BitVec.xor_allOnes, BitVec.not_eq_neg_add]
      generalize a.toBitVec = b
      rw [BitVec.sub_eq_add_neg, BitVec.sub_eq_add_neg, BitVec.add_comm]
    rw [e]
    exact kk)) k
/-- x & ~w -/
theorem wp_iandn {x w : Int} (hd : decode (zM_cc M) pc = .ok (.iand, 1)) (hx : 0 ≤ x ∧ x < 2147483648) (hw : 0 ≤ w ∧ w < 2147483648) (k : WP M Q (pc + 1) ls (vI ((x.toNat ^^^ (x.toNat &&& w.toNat) : Nat) : Int) :: st) n g h) : WP M Q pc ls (vI (-1 - w) :: vI x :: st) n g h :=
  wp_nop1 (ins := .iadd) (fun _ _ _ _ _ _ _ _ _ _ _ _ _ _ _ _ _ hxx hb _ kk => lv_iand hxx hb hd (by
    have e : Int32.ofInt x &&& Int32.ofInt (-1 - w) = Int32.ofInt ((x.toNat ^^^ (x.toNat &&& w.toNat) : Nat) : Int) := by
      apply zi_ext
      have e2 : (Int32.ofInt (-1 - w)).toBitVec = ~~~ (Int32.ofInt w).toBitVec := by
        rw [Int32.ofInt_sub]
        show -1#32 - (Int32.ofInt w).toBitVec = _
        generalize (Int32.ofInt w).toBitVec = b
        rw [BitVec.not_eq_neg_add, BitVec.sub_eq_add_neg, BitVec.sub_eq_add_neg, BitVec.add_comm]
      rw [Int32.toBitVec_and, e2]
      have e3 : ∀ a b : BitVec 32, a &&& ~~~b = a ^^^ (a &&& b) := by
        intro a b
        ext i hi
        simp
        cases a[i] <;> cases b[i] <;> rfl
      rw [e3, BitVec.toNat_xor, BitVec.toNat_and, zbv_in hx, zbv_in hw, z_nat32]
      exact Nat.xor_lt_two_pow (n := 32) (by omega) (Nat.lt_of_le_of_lt Nat.and_le_left (by omega))
    rw [e]
    exact kk)) k
theorem wp_mmax {x y : Int} {idx : Nat} (hd : decode (zM_cc M) pc = .ok (.invokestatic idx, 3)) (hlk : Cond.methodLink (zM_own M) idx yJ9_max_7cf53 ∈ zbig) (hx : zin x) (hy : zin y) (hdep : 0 < zM_d M) (hcat : zcat st ≤ 8) (he : n ≤ zM_n0 M + zM_mc M ∧ zSL n ≤ zSL (zM_n0 M) + zM_ms M) (k : WP M Q (pc + 3) ls (vI (max x y) :: st) n g h) : WP M Q pc ls (vI y :: vI x :: st) n g h := by
  intro p l e s m args below meth c H locs cells slots D cs B lA C R S hA e1 e2 L
  obtain ⟨hxx, hb, hml, -, -, -, hown, hts, hK, -⟩ := id C
  have m1 : Cond.static yJ9_max_7cf53 ∈ zbig := mstat_max
  have m2 : Cond.initialized "java/lang/Math" ∈ zbig := mini_math
  have m3 : Cond.code yJ9_max_7cf53 cJ9_max_7cf53 2 (some .int) ∈ zbig := mcode_max
  refine va_mmax hxx hb (hml.trans L.1.symm) hown (hts _ hlk) (hts _ m1) (hts _ m2) (hts _ m3) (by show 1 ≤ zM_d M; exact hdep) ?_ ?_ ?_ hd ?_
  · rw [zcat_eq]
    show zcat st + 13 ≤ 38 * zM_d M
    omega
  · show cells ≤ zM_mc M
    omega
  · show slots ≤ zM_ms M
    omega
  · have e9 : (if Int32.ofInt x < Int32.ofInt y then Int32.ofInt y else Int32.ofInt x) = Int32.ofInt (max x y) := by
      by_cases q : x < y
      · rw [if_pos ((zin_lt hx hy).mpr q), Int.max_eq_right (Int.le_of_lt q)]
      · rw [if_neg (fun z => q ((zin_lt hx hy).mp z)), Int.max_eq_left (by omega)]
    rw [e9]
    exact k p l e s m args below meth c H locs cells slots D cs B lA C R S hA e1 e2 L
theorem wp_mmin {x y : Int} {idx : Nat} (hd : decode (zM_cc M) pc = .ok (.invokestatic idx, 3)) (hlk : Cond.methodLink (zM_own M) idx yJ9_min_7cf53 ∈ zbig) (hx : zin x) (hy : zin y) (hdep : 0 < zM_d M) (hcat : zcat st ≤ 8) (he : n ≤ zM_n0 M + zM_mc M ∧ zSL n ≤ zSL (zM_n0 M) + zM_ms M) (k : WP M Q (pc + 3) ls (vI (min x y) :: st) n g h) : WP M Q pc ls (vI y :: vI x :: st) n g h := by
  intro p l e s m args below meth c H locs cells slots D cs B lA C R S hA e1 e2 L
  obtain ⟨hxx, hb, hml, -, -, -, hown, hts, hK, -⟩ := id C
  have m1 : Cond.static yJ9_min_7cf53 ∈ zbig := mstat_min
  have m2 : Cond.initialized "java/lang/Math" ∈ zbig := mini_math
  have m3 : Cond.code yJ9_min_7cf53 cJ9_min_7cf53 2 (some .int) ∈ zbig := mcode_min
  refine va_mmin hxx hb (hml.trans L.1.symm) hown (hts _ hlk) (hts _ m1) (hts _ m2) (hts _ m3) (by show 1 ≤ zM_d M; exact hdep) ?_ ?_ ?_ hd ?_
  · rw [zcat_eq]
    show zcat st + 13 ≤ 38 * zM_d M
    omega
  · show cells ≤ zM_mc M
    omega
  · show slots ≤ zM_ms M
    omega
  · have e9 : (if Int32.ofInt y < Int32.ofInt x then Int32.ofInt y else Int32.ofInt x) = Int32.ofInt (min x y) := by
      by_cases q : y < x
      · rw [if_pos ((zin_lt hy hx).mpr q), Int.min_eq_right (Int.le_of_lt q)]
      · rw [if_neg (fun z => q ((zin_lt hy hx).mp z)), Int.min_eq_left (by omega)]
    rw [e9]
    exact k p l e s m args below meth c H locs cells slots D cs B lA C R S hA e1 e2 L
theorem wp_tswOut {x dflt lo hi : Int} {offs : Array Int} {len : Nat} (tgt : Nat) (hd : decode (zM_cc M) pc = .ok (.tableswitch dflt lo hi offs, len)) (hx : zin x) (h1 : x < lo ∨ hi < x) (ht : (pc : Int) + dflt = (tgt : Int)) (k : WP M Q tgt ls st n g h) : WP M Q pc ls (vI x :: st) n g h := by
  intro p l e s m args below meth c H locs cells slots D cs B lA C R S hA e1 e2 L
  exact lv_tableOut C.1 C.2.1 hd (by rw [zin_toInt hx]; exact h1) ht (k p l e s m args below meth c H locs cells slots D cs B lA C R S hA e1 e2 L)
theorem wp_tswIn {x dflt lo hi off : Int} {offs : Array Int} {len : Nat} (tgt : Nat) (hd : decode (zM_cc M) pc = .ok (.tableswitch dflt lo hi offs, len)) (hx : zin x) (h1 : lo ≤ x) (h2 : x ≤ hi) (ho : offs[(x - lo).toNat]? = some off) (ht : (pc : Int) + off = (tgt : Int)) (k : WP M Q tgt ls st n g h) : WP M Q pc ls (vI x :: st) n g h := by
  intro p l e s m args below meth c H locs cells slots D cs B lA C R S hA e1 e2 L
  exact lv_tableIn C.1 C.2.1 hd (by rw [zin_toInt hx]; omega) (by rw [zin_toInt hx]; omega) (by rw [zin_toInt hx]; exact ho) ht (k p l e s m args below meth c H locs cells slots D cs B lA C R S hA e1 e2 L)
def zcpy (h : zH) (b sp a dp k : Nat) : zH := fun a' j => if a' = a ∧ dp ≤ j ∧ j < dp + k then h b (sp + (j - dp)) else h a' j
theorem zcpy_a {h : zH} {b sp a dp k c : Nat} (e : c ≠ a) : zcpy h b sp a dp k c = h c := funext fun j => if_neg fun q => e q.1
theorem wp_copy {a b N N' idx : Nat} {sp dp k : Int} (hd : decode (zM_cc M) pc = .ok (.invokestatic idx, 3)) (hlk : Cond.methodLink (zM_own M) idx arraycopyName ∈ zbig) (hs : zIs n a (10, N)) (hs' : zIs n b (10, N')) (h1 : 0 ≤ sp ∧ sp + k ≤ N') (h2 : 0 ≤ dp ∧ dp + k ≤ N) (h3 : 0 ≤ k) (hdep : 0 < zM_d M) (hcat : zcat st ≤ 8) (kk : WP M Q (pc + 3) ls st n g (zcpy h b sp.toNat a dp.toNat k.toNat)) : WP M Q pc ls (vI k :: vI dp :: vR a :: vI sp :: vR b :: st) n g h := by
  intro p l e s m args below meth c H locs cells slots D cs B lA C R S hA e1 e2 L
  obtain ⟨hxx, hb, hml, -, -, -, hown, hts, hK, -⟩ := id C
  have hN : N < 2147483648 := by have := zSH_small a; rw [hs.1] at this; exact this
  have hN' : N' < 2147483648 := by have := zSH_small b; rw [hs'.1] at this; exact this
  rw [List.map_cons, List.map_cons, List.map_cons, List.map_cons, List.map_cons, zc_ref hs (show (10 : Nat) ≠ 99 by decide), zc_ref hs' (show (10 : Nat) ≠ 99 by decide)]
  have z1 : zin sp := ⟨by omega, by omega⟩
  have z2 : zin dp := ⟨by omega, by omega⟩
  have z3 : zin k := ⟨by omega, by omega⟩
  have c1 := zin_clamp z1
  have c2 := zin_clamp z2
  have c3 := zin_clamp z3
  have n0 : ∀ {x : Int}, zin x → 0 ≤ x → ¬ Int32.ofInt x < 0 := fun hx q z => by
    have := (zin_lt hx zin_0).mp z
    omega
  have ha := zws_get (cs := cs) (B := B) (g := g) (h := h) hs.2.1 hs.2.2
  rw [zcell_i hs.1] at ha
  have ha' := zws_get (cs := cs) (B := B) (g := g) (h := h) hs'.2.1 hs'.2.2
  rw [zcell_i hs'.1] at ha'
  refine va_copyi (D := D) (cl := vwCl) (tys := ztys cs) (A := zA B) hxx hb (hml.trans L.1.symm) hown (hts _ hlk) (hts _ mnat_copy) (hts _ mstat_copy) (hts _ mini_sys) hK R.2 (zws_D cs B n g h) S (b - 1) (a - 1) 0 0 ha' ha rfl rfl rfl (n0 z1 h1.1) (n0 z2 h2.1) (n0 z3 h3) (by rw [c1, c3]; omega) (by rw [c2, c3]; omega) (fun i hi => rfl) (show 1 ≤ zM_d M by omega) ?_ hd (fun H1 locs1 hP1 hD1 hS1 => ?_)
  · rw [zcat_eq]
    have h9 : nativeFrameWords "java/lang/System" "arraycopy" 5 ≤ 8 := by decide +kernel
    show zcat st + (nativeFrameWords "java/lang/System" "arraycopy" 5 + 11) ≤ 38 * zM_d M
    omega
  · refine W_sized hP1 R hA e1 (fun hz => kk p l e s m args below meth c H1 locs1 cells slots D cs B lA C (zRep_of R hz hs.2.1 hs.2.2 hP1 ?_ (fun b' hb' => ?_)) hS1 hA e1 e2 L) rfl ⟨hs.2.1, hs.2.2⟩
    · rw [zcell_i hs.1, c1, c2, c3]
      have e9 : (fun j => Int32.ofInt (zcpy h b sp.toNat a dp.toNat k.toNat a j)) = va_cpy (fun j => Int32.ofInt (h b j)) (fun j => Int32.ofInt (h a j)) sp.toNat dp.toNat k.toNat := by
        funext j
        unfold zcpy
        by_cases q : dp.toNat ≤ j ∧ j < dp.toNat + k.toNat
        · rw [if_pos ⟨rfl, q⟩, pk_cpy_in q.1 q.2]
        · rw [if_neg (fun z => q z.2), pk_cpy_out (by omega)]
      rw [e9]
    · unfold zcell
      rw [zcpy_a hb']
end
