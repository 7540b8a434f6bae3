/-! ===== what the class and the model find is the same ===== -/
theorem zgd_12 {c : Nat → Nat → Int} (h : zsd c ≠ 0) : (zgd c 0 = 1 ∨ zgd c 0 = 2) ∧ zgd c 0 < zsd c := by
  have g0 := zgd_le c 0
  have g1 := zgd_le c 1
  have e := zsd_v h
  have a1 : zgd c 0 ≠ 0 := fun w => by rw [w] at e; omega
  have a2 : zgd c 1 ≠ 0 := fun w => by rw [w] at e; omega
  rcases (show zgd c 0 = 1 ∨ zgd c 0 = 2 by omega) with w | w <;> rw [w] at e ⊢ <;> omega
theorem zDd_en {p : Int} {c : Nat → Nat → Int} (hs : zSt p c) (hz : zsd c ≠ 0) {r q e : Nat} (hr : r < zsd c) (hq : q < zsd c) (he : e < 7) : zDd p c (zps9 (zgd c 0) r q + e) = zEn p c (8 * r + q) e := by
  have hp := hs.p
  have es := zsd_v hz
  have g1 := zgd_le c 1
  have m12 := (zgd_12 hz).1
  have n12 : zgd c 1 = 1 ∨ zgd c 1 = 2 := by
    have a2 : zgd c 1 ≠ 0 := fun w => by rw [w] at es; omega
    omega
  rw [es] at hr hq
  exact ((zDd_1 m12 n12 hr hq he).tr zEn_1.sy).inj (z_mod (by omega) _) (z_mod (by omega) _)
theorem zmrk_rk {p : Int} {c : Nat → Nat → Int} (hs : zSt p c) (hz : zsd c ≠ 0) {t : Nat} (ht : (t : Int) < p) : zmrk p (zsd c) (zEn p c) t = zrk p c t := zmrk_eq hs.1 hz t
theorem zmrk_max {p : Int} {c : Nat → Nat → Int} (hs : zSt p c) (hz : zsd c ≠ 0) : zgmx (zmrk p (zsd c) (zEn p c)) p.toNat = zgP p c := (zgmx_gt (fun t => zmrk_eq hs.1 hz t) p.toNat).1
theorem zmrk_piv {p : Int} {c : Nat → Nat → Int} (hs : zSt p c) (hz : zsd c ≠ 0) : zgpv (zmrk p (zsd c) (zEn p c)) p.toNat = zpP p c := (zgmx_gt (fun t => zmrk_eq hs.1 hz t) p.toNat).2
theorem zmrw_max {p : Int} {c : Nat → Nat → Int} (hs : zSt p c) (hz : zsd c ≠ 0) : zgmx (zmrw p (zsd c) (zEn p c)) p.toNat = zgw p c p.toNat := zgmx_gw (fun t => zmrw_eq hs.1 hz t) p.toNat
theorem zIp_row {p : Int} {c : Nat → Nat → Int} (hs : zSt p c) (hz : zsd c ≠ 0) : zmk (zIp p (zsd c) (zRV p (zEn p c) (zpP p c : Int)) 0) (zsd c) = zmk (zTfl p (zRw p c (zpP p c))) (zsd c) := zmk_congr (zsd c) (fun i hi => zIp_r hs.1 _ hi)
theorem zIp_col {p : Int} {c : Nat → Nat → Int} (hs : zSt p c) (hz : zsd c ≠ 0) : zmk (zIp p (zsd c) (zCV p (zEn p c) (zpP p c : Int)) 0) (zsd c) = zmk (zTfl p (zCl p c (zpP p c))) (zsd c) := zmk_congr (zsd c) (fun i hi => zIp_c hs.1 _ hi)
theorem zRowO_gP {p : Int} {c : Nat → Nat → Int} (hs : zSt p c) (hz : zsd c ≠ 0) : zRowO p c = zgP p c := (zRowO_eq hs.1 hz).1
