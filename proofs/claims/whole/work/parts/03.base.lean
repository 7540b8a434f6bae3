/-! ===== the cells that the two constructors make: kind (0..9 a class of vwCl, 10 int[], 11 int[][], 12 Polynomials[]) and size, by number from 1 ===== -/
def zSHL : List (Nat × Nat) := [(8, 7), (3, 2), (11, 3), (10, 27), (10, 27), (10, 27), (0, 8), (11, 64), (10, 7), (10, 7), (10, 7), (10, 7), (10, 7), (10, 7), (10, 7), (10, 7), (10, 7), (10, 7), (10, 7), (10, 7), (10, 7), (10, 7), (10, 7), (10, 7), (10, 7), (10, 7), (10, 7), (10, 7), (10, 7), (10, 7), (10, 7), (10, 7), (10, 7), (10, 7), (10, 7), (10, 7), (10, 7), (10, 7), (10, 7), (10, 7), (10, 7), (10, 7), (10, 7), (10, 7), (10, 7), (10, 7), (10, 7), (10, 7), (10, 7), (10, 7), (10, 7), (10, 7), (10, 7), (10, 7), (10, 7), (10, 7), (10, 7), (10, 7), (10, 7), (10, 7), (10, 7), (10, 7), (10, 7), (10, 7), (10, 7), (10, 7), (10, 7), (10, 7), (10, 7), (10, 7), (10, 7), (10, 7), (11, 3), (10, 5), (10, 5), (10, 5), (10, 7), (4, 15), (6, 6), (10, 16), (10, 8), (11, 8), (10, 16), (10, 16), (10, 16), (10, 16), (10, 16), (10, 16), (10, 16), (10, 16), (10, 8), (10, 31), (10, 31), (10, 31), (10, 31), (2, 3), (12, 8), (3, 2), (11, 3), (10, 27), (10, 27), (10, 27), (3, 2), (11, 3), (10, 27), (10, 27), (10, 27), (3, 2), (11, 3), (10, 27), (10, 27), (10, 27), (3, 2), (11, 3), (10, 27), (10, 27), (10, 27), (3, 2), (11, 3), (10, 27), (10, 27), (10, 27), (3, 2), (11, 3), (10, 27), (10, 27), (10, 27), (3, 2), (11, 3), (10, 27), (10, 27), (10, 27), (3, 2), (11, 3), (10, 27), (10, 27), (10, 27), (7, 4), (10, 27), (10, 60), (5, 5), (11, 31), (10, 31), (10, 31), (10, 31), (10, 31), (10, 31), (10, 31), (10, 31), (10, 31), (10, 31), (10, 31), (10, 31), (10, 31), (10, 31), (10, 31), (10, 31), (10, 31), (10, 31), (10, 31), (10, 31), (10, 31), (10, 31), (10, 31), (10, 31), (10, 31), (10, 31), (10, 31), (10, 31), (10, 31), (10, 31), (10, 31), (10, 31), (11, 3), (10, 9), (10, 9), (10, 9), (11, 3), (10, 3), (10, 3), (10, 3), (1, 12), (10, 49), (10, 49), (10, 49), (10, 8), (10, 8), (11, 256), (10, 1), (10, 7), (10, 7), (10, 13), (10, 7), (10, 13), (10, 13), (10, 19), (10, 7), (10, 13), (10, 13), (10, 19), (10, 13), (10, 19), (10, 19), (10, 25), (10, 7), (10, 13), (10, 13), (10, 19), (10, 13), (10, 19), (10, 19), (10, 25), (10, 13), (10, 19), (10, 19), (10, 25), (10, 19), (10, 25), (10, 25), (10, 31), (10, 7), (10, 13), (10, 13), (10, 19), (10, 13), (10, 19), (10, 19), (10, 25), (10, 13), (10, 19), (10, 19), (10, 25), (10, 19), (10, 25), (10, 25), (10, 31), (10, 13), (10, 19), (10, 19), (10, 25), (10, 19), (10, 25), (10, 25), (10, 31), (10, 19), (10, 25), (10, 25), (10, 31), (10, 25), (10, 31), (10, 31), (10, 37), (10, 7), (10, 13), (10, 13), (10, 19), (10, 13), (10, 19), (10, 19), (10, 25), (10, 13), (10, 19), (10, 19), (10, 25), (10, 19), (10, 25), (10, 25), (10, 31), (10, 13), (10, 19), (10, 19), (10, 25), (10, 19), (10, 25), (10, 25), (10, 31), (10, 19), (10, 25), (10, 25), (10, 31), (10, 25), (10, 31), (10, 31), (10, 37), (10, 13), (10, 19), (10, 19), (10, 25), (10, 19), (10, 25), (10, 25), (10, 31), (10, 19), (10, 25), (10, 25), (10, 31), (10, 25), (10, 31), (10, 31), (10, 37), (10, 19), (10, 25), (10, 25), (10, 31), (10, 25), (10, 31), (10, 31), (10, 37), (10, 25), (10, 31), (10, 31), (10, 37), (10, 31), (10, 37), (10, 37), (10, 43), (10, 7), (10, 13), (10, 13), (10, 19), (10, 13), (10, 19), (10, 19), (10, 25), (10, 13), (10, 19), (10, 19), (10, 25), (10, 19), (10, 25), (10, 25), (10, 31), (10, 13), (10, 19), (10, 19), (10, 25), (10, 19), (10, 25), (10, 25), (10, 31), (10, 19), (10, 25), (10, 25), (10, 31), (10, 25), (10, 31), (10, 31), (10, 37), (10, 13), (10, 19), (10, 19), (10, 25), (10, 19), (10, 25), (10, 25), (10, 31), (10, 19), (10, 25), (10, 25), (10, 31), (10, 25), (10, 31), (10, 31), (10, 37), (10, 19), (10, 25), (10, 25), (10, 31), (10, 25), (10, 31), (10, 31), (10, 37), (10, 25), (10, 31), (10, 31), (10, 37), (10, 31), (10, 37), (10, 37), (10, 43), (10, 13), (10, 19), (10, 19), (10, 25), (10, 19), (10, 25), (10, 25), (10, 31), (10, 19), (10, 25), (10, 25), (10, 31), (10, 25), (10, 31), (10, 31), (10, 37), (10, 19), (10, 25), (10, 25), (10, 31), (10, 25), (10, 31), (10, 31), (10, 37), (10, 25), (10, 31), (10, 31), (10, 37), (10, 31), (10, 37), (10, 37), (10, 43), (10, 19), (10, 25), (10, 25), (10, 31), (10, 25), (10, 31), (10, 31), (10, 37), (10, 25), (10, 31), (10, 31), (10, 37), (10, 31), (10, 37), (10, 37), (10, 43), (10, 25), (10, 31), (10, 31), (10, 37), (10, 31), (10, 37), (10, 37), (10, 43), (10, 31), (10, 37), (10, 37), (10, 43), (10, 37), (10, 43), (10, 43), (10, 49), (9, 41), (10, 82), (10, 656), (10, 60), (10, 27), (10, 108), (10, 108), (10, 640), (10, 1344), (10, 448), (10, 31), (10, 49), (10, 49), (10, 72), (10, 64), (10, 8), (10, 12544), (10, 49), (10, 31), (10, 27), (10, 9), (10, 8), (10, 64)]
def zSH (a : Nat) : Nat × Nat := if a = 0 then (99, 0) else zSHL.getD (a - 1) (99, 0)
def zN : Nat := 467
abbrev zG : Type := Nat → Nat → Nat
abbrev zH : Type := Nat → Nat → Int
def zGR : zG := fun a j => if a = 3 then 4 + j else if a = 8 then 9 + j else if a = 73 then 74 + j else if a = 82 then 83 + j else if a = 97 then 98 + 5 * j else if a = 99 then 100 + j else if a = 104 then 105 + j else if a = 109 then 110 + j else if a = 114 then 115 + j else if a = 119 then 120 + j else if a = 124 then 125 + j else if a = 129 then 130 + j else if a = 134 then 135 + j else if a = 142 then 143 + j else if a = 174 then 175 + j else if a = 178 then 179 + j else if a = 188 then 189 + j else if a = 1 then ([2, 96, 138, 141, 7, 78, 182] : List Nat).getD j 0 else if a = 2 then ([0, 3] : List Nat).getD j 0 else if a = 7 then ([0, 0, 0, 0, 2, 8, 73, 77] : List Nat).getD j 0 else if a = 78 then ([0, 0, 0, 0, 0, 0, 2, 7, 79, 92, 93, 94, 95] : List Nat).getD j 0 else if a = 79 then ([0, 80, 81, 82, 91] : List Nat).getD j 0 else if a = 96 then ([0, 0, 97] : List Nat).getD j 0 else if a = 98 then ([0, 99] : List Nat).getD j 0 else if a = 103 then ([0, 104] : List Nat).getD j 0 else if a = 108 then ([0, 109] : List Nat).getD j 0 else if a = 113 then ([0, 114] : List Nat).getD j 0 else if a = 118 then ([0, 119] : List Nat).getD j 0 else if a = 123 then ([0, 124] : List Nat).getD j 0 else if a = 128 then ([0, 129] : List Nat).getD j 0 else if a = 133 then ([0, 134] : List Nat).getD j 0 else if a = 138 then ([0, 139, 140] : List Nat).getD j 0 else if a = 141 then ([2, 142, 174, 178] : List Nat).getD j 0 else if a = 182 then ([183, 184, 0, 2, 7, 78, 185, 186, 187, 188] : List Nat).getD j 0 else if a = 445 then ([446, 447, 0, 448, 0, 0, 0, 449, 0, 0, 0, 0, 450, 451, 452, 453, 454, 455, 0, 0, 0, 0, 0, 456, 457, 0, 458, 0, 459, 460, 461, 462, 0, 0, 0, 463, 464, 465, 466, 467, 0] : List Nat).getD j 0 else 0
def zSL : Nat → Nat
  | 0 => 0
  | a + 1 => zSL a + (zSH (a + 1)).2
/-! ===== values: an int (any number of its class mod 2^32), a reference (0: null; 1000: the law's script), a long ===== -/
abbrev zv : Type := Int ⊕ (Nat ⊕ Int)
abbrev vI (x : Int) : zv := .inl x
abbrev vR (r : Nat) : zv := .inr (.inl r)
abbrev vL (x : Int) : zv := .inr (.inr x)
def zad (B : Nat × Nat) (r : Nat) : Nat := if r = 1000 then B.2 else B.1 + r
def zrf (B : Nat × Nat) (r : Nat) : Value := if r = 0 then .null else .ref (zad B r)
def zc (B : Nat × Nat) : zv → Value
  | .inl x => .int (Int32.ofInt x)
  | .inr (.inl r) => zrf B r
  | .inr (.inr x) => .long (Int64.ofInt x)
def zin (x : Int) : Prop := -2147483648 ≤ x ∧ x < 2147483648
theorem zin_toInt {x : Int} (h : zin x) : (Int32.ofInt x).toInt = x := Int32.toInt_ofInt_of_le h.1 h.2
theorem zin_eq {x y : Int} (hx : zin x) (hy : zin y) : Int32.ofInt x = Int32.ofInt y ↔ x = y := ⟨fun e => by rw [← zin_toInt hx, ← zin_toInt hy, e], fun e => by rw [e]⟩
theorem zin_le {x y : Int} (hx : zin x) (hy : zin y) : Int32.ofInt x ≤ Int32.ofInt y ↔ x ≤ y := by rw [Int32.le_iff_toInt_le, zin_toInt hx, zin_toInt hy]
theorem zin_lt {x y : Int} (hx : zin x) (hy : zin y) : Int32.ofInt x < Int32.ofInt y ↔ x < y := by rw [Int32.lt_iff_toInt_lt, zin_toInt hx, zin_toInt hy]
theorem zin_clamp {x : Int} (hx : zin x) : (Int32.ofInt x).toNatClampNeg = x.toNat := by
  rw [← Int32.toNat_toInt, zin_toInt hx]
theorem zin_vp {x : Int} {n : Nat} (h0 : 0 ≤ x) (h1 : x < n) (hn : n < 2147483648) : vp_in (Int32.ofInt x) n := by
  have hx : zin x := ⟨by omega, by omega⟩
  rw [vp_in_iff, zin_toInt hx]
  exact ⟨h0, h1⟩
theorem zin_0 : zin 0 := ⟨by decide, by decide⟩
/-! ===== the heap, read off two functions ===== -/
def zty (k : Nat) : Nat → FieldType := match k with
  | 0 => tyX0
  | 1 => tyX1
  | 2 => tyX2
  | 3 => tyX4
  | 4 => tyX5
  | 5 => tyX6
  | 6 => tyX7
  | 7 => tyX8
  | 8 => tyX9
  | _ => tyX10
def zT (k : Nat) : u_T := match k with
  | 0 => TX0
  | 1 => TX1
  | 2 => TX2
  | 3 => TX4
  | 4 => TX5
  | 5 => TX6
  | 6 => TX7
  | 7 => TX8
  | 8 => TX9
  | _ => TX10
def zR (k : Nat) : String := match k with
  | 0 => RX0
  | 1 => RX1
  | 2 => RX2
  | 3 => RX4
  | 4 => RX5
  | 5 => RX6
  | 6 => RX7
  | 7 => RX8
  | 8 => RX9
  | _ => RX10
def zFN (k : Nat) : Nat := [8, 12, 3, 2, 15, 5, 6, 4, 7, 41].getD k 0
theorem z_vw : ∀ k, k < 10 → vwCl[k]? = some (zR k, zT k, zFN k) := by
  intro k hk
  match k, hk with
  | 0, _ => rfl
  | 1, _ => rfl
  | 2, _ => rfl
  | 3, _ => rfl
  | 4, _ => rfl
  | 5, _ => rfl
  | 6, _ => rfl
  | 7, _ => rfl
  | 8, _ => rfl
  | 9, _ => rfl
  | k + 10, h => exact absurd h (by omega)
theorem z_nm : ∀ k, k < 10 → ∀ a, a < zFN k → ∀ b, b < zFN k → a ≠ b → (zT k a).2.1 ≠ (zT k b).2.1 := by
  intro k hk
  match k, hk with
  | 0, _ => exact nmX0
  | 1, _ => exact nmX1
  | 2, _ => exact nmX2
  | 3, _ => exact nmX4
  | 4, _ => exact nmX5
  | 5, _ => exact nmX6
  | 6, _ => exact nmX7
  | 7, _ => exact nmX8
  | 8, _ => exact nmX9
  | 9, _ => exact nmX10
  | k + 10, h => exact absurd h (by omega)
theorem z_ty : ∀ k, k < 10 → ∀ a, a < zFN k → parseFieldDescriptor (zT k a).2.2.1 = some (zty k a) := by
  intro k hk
  match k, hk with
  | 0, _ => exact tyX0_ok
  | 1, _ => exact tyX1_ok
  | 2, _ => exact tyX2_ok
  | 3, _ => exact tyX4_ok
  | 4, _ => exact tyX5_ok
  | 5, _ => exact tyX6_ok
  | 6, _ => exact tyX7_ok
  | 7, _ => exact tyX8_ok
  | 8, _ => exact tyX9_ok
  | 9, _ => exact tyX10_ok
  | k + 10, h => exact absurd h (by omega)
def zbig : List Cond := lw_tbl.filter goodWord
theorem zmem {w : Cond} (i : Nat) (h : lw_tbl[i]? = some w) (hg : goodWord w = true) : w ∈ zbig := List.mem_filter.mpr ⟨List.mem_of_getElem? h, hg⟩
theorem z_in0 : ∀ w ∈ u_ws RX0 TX0 8, w ∈ zbig := by decide +kernel
theorem z_in1 : ∀ w ∈ u_ws RX1 TX1 12, w ∈ zbig := by decide +kernel
theorem z_in2 : ∀ w ∈ u_ws RX2 TX2 3, w ∈ zbig := by decide +kernel
theorem z_in3 : ∀ w ∈ u_ws RX4 TX4 2, w ∈ zbig := by decide +kernel
theorem z_in4 : ∀ w ∈ u_ws RX5 TX5 15, w ∈ zbig := by decide +kernel
theorem z_in5 : ∀ w ∈ u_ws RX6 TX6 5, w ∈ zbig := by decide +kernel
theorem z_in6 : ∀ w ∈ u_ws RX7 TX7 6, w ∈ zbig := by decide +kernel
theorem z_in7 : ∀ w ∈ u_ws RX8 TX8 4, w ∈ zbig := by decide +kernel
theorem z_in8 : ∀ w ∈ u_ws RX9 TX9 7, w ∈ zbig := by decide +kernel
theorem z_in9 : ∀ w ∈ u_ws RX10 TX10 41, w ∈ zbig := by decide +kernel
theorem z_in : ∀ k, k < 10 → ∀ w ∈ u_ws (zR k) (zT k) (zFN k), w ∈ zbig := by
  intro k hk
  match k, hk with
  | 0, _ => exact z_in0
  | 1, _ => exact z_in1
  | 2, _ => exact z_in2
  | 3, _ => exact z_in3
  | 4, _ => exact z_in4
  | 5, _ => exact z_in5
  | 6, _ => exact z_in6
  | 7, _ => exact z_in7
  | 8, _ => exact z_in8
  | 9, _ => exact z_in9
  | k + 10, h => exact absurd h (by omega)
theorem z_goodin : GoodIn zbig zbig := fun w h => ⟨h, good_of_word (List.mem_filter.mp h).2⟩
def zfv (B : Nat × Nat) (ty : FieldType) (r : Nat) (x : Int) : Value := match ty with
  | .int => .int (Int32.ofInt x)
  | .boolean => .int (Int32.ofInt x)
  | .long => .long (Int64.ofInt x)
  | _ => zrf B r
abbrev zcs : Type := ClassId × ClassId × ClassId
def zrq (B : Nat × Nat) (r : Nat) : Option Nat := if r = 0 then none else some (zad B r)
def zcell (cs : zcs) (B : Nat × Nat) (g : zG) (h : zH) (a : Nat) : va_E :=
  if (zSH a).1 < 10 then .inr ((zSH a).1, (List.range (zSH a).2).map (fun j => zfv B (zty (zSH a).1 j) (g a j) (h a j)))
  else if (zSH a).1 = 10 then .inl (cs.1, (zSH a).2, .inl (fun j => Int32.ofInt (h a j)))
  else .inl (if (zSH a).1 = 11 then cs.2.1 else cs.2.2, (zSH a).2, .inr (.inr (.inr (.inr (fun j => zrq B (g a j))))))
def zws (cs : zcs) (B : Nat × Nat) (n : Nat) (g : zG) (h : zH) : va_W := (List.range n).map (fun k => (B.1 + (k + 1), zcell cs B g h (k + 1)))
def ztys (cs : zcs) : List (ClassId × FieldType) := [(cs.1, .int), (cs.2.1, .array .int), (cs.2.2, .object RX4)]
def zA (B : Nat × Nat) : Nat → Prop := fun q => B.1 + 1 ≤ q
def zRep (D : va_G) (cs : zcs) (B : Nat × Nat) (n : Nat) (g : zG) (h : zH) (H : Heap) : Prop := H.size = B.1 + 1 + n ∧ va_P D vwCl (zws cs B n g h) H
theorem zws_get {cs : zcs} {B : Nat × Nat} {n a : Nat} {g : zG} {h : zH} (h0 : 0 < a) (h1 : a ≤ n) : (zws cs B n g h)[a - 1]? = some (B.1 + a, zcell cs B g h a) := by
  unfold zws
  rw [List.getElem?_map, List.getElem?_range (by omega)]
  simp [show a - 1 + 1 = a by omega]
theorem zws_getK {cs : zcs} {B : Nat × Nat} {n k : Nat} {g : zG} {h : zH} {q : Nat × va_E} (hq : (zws cs B n g h)[k]? = some q) : k < n ∧ q = (B.1 + (k + 1), zcell cs B g h (k + 1)) := by
  unfold zws at hq
  rw [List.getElem?_map] at hq
  by_cases hk : k < n
  · rw [List.getElem?_range hk] at hq
    exact ⟨hk, (Option.some.inj hq).symm⟩
  · rw [List.getElem?_eq_none (by simp; omega)] at hq
    cases hq
theorem zws_D (cs : zcs) (B : Nat × Nat) (n : Nat) (g : zG) (h : zH) : va_D (zA B) (zws cs B n g h) := by
  refine ⟨fun i j p q hi hj e => ?_, fun k q hk => ?_⟩
  · obtain ⟨-, rfl⟩ := zws_getK hi
    obtain ⟨-, rfl⟩ := zws_getK hj
    dsimp only at e
    omega
  · obtain ⟨-, rfl⟩ := zws_getK hk
    show B.1 + 1 ≤ B.1 + (k + 1)
    omega
theorem zRep_of {D : va_G} {cs : zcs} {B : Nat × Nat} {n a : Nat} {g g' : zG} {h h' : zH} {H H1 : Heap} {e : va_E} (R : zRep D cs B n g h H) (hz : H1.size = H.size) (h0 : 0 < a) (h1 : a ≤ n)
    (hP : va_P D vwCl ((zws cs B n g h).set (a - 1) (B.1 + a, e)) H1) (he : zcell cs B g' h' a = e) (ho : ∀ b, b ≠ a → zcell cs B g' h' b = zcell cs B g h b) : zRep D cs B n g' h' H1 := by
  refine ⟨hz.trans R.1, fun k q hq => ?_⟩
  obtain ⟨hk, rfl⟩ := zws_getK hq
  refine hP k _ ?_
  rw [List.getElem?_set]
  by_cases e1 : a - 1 = k
  · have e2 : k + 1 = a := by omega
    rw [if_pos e1, if_pos (by simp [zws]; omega), e2, he]
  · rw [if_neg e1, ho _ (by omega)]
    have := zws_get (cs := cs) (B := B) (g := g) (h := h) (a := k + 1) (n := n) (by omega) (by omega)
    simpa using this
/-- the same heap under other functions that agree where it matters -/
theorem zRep_congr {D : va_G} {cs : zcs} {B : Nat × Nat} {n : Nat} {g g' : zG} {h h' : zH} {H : Heap} (R : zRep D cs B n g h H) (ho : ∀ b, 0 < b → b ≤ n → zcell cs B g' h' b = zcell cs B g h b) : zRep D cs B n g' h' H := by
  refine ⟨R.1, fun k q hq => ?_⟩
  obtain ⟨hk, rfl⟩ := zws_getK hq
  rw [ho _ (by omega) (by omega)]
  refine R.2 k _ ?_
  have := zws_get (cs := cs) (B := B) (g := g) (h := h) (a := k + 1) (n := n) (by omega) (by omega)
  simpa using this
def zup (h : zH) (a j : Nat) (v : Int) : zH := fun a' j' => if a' = a ∧ j' = j then v else h a' j'
def zug (g : zG) (a j : Nat) (v : Nat) : zG := fun a' j' => if a' = a ∧ j' = j then v else g a' j'
theorem zup_o {h : zH} {a j : Nat} {v : Int} {b k : Nat} (e : ¬ (b = a ∧ k = j)) : zup h a j v b k = h b k := if_neg e
theorem zup_s {h : zH} {a j : Nat} {v : Int} : zup h a j v a j = v := if_pos ⟨rfl, rfl⟩
theorem zup_a {h : zH} {a j : Nat} {v : Int} {b : Nat} (e : b ≠ a) : zup h a j v b = h b := funext fun k => if_neg fun q => e q.1
theorem zug_o {h : zG} {a j : Nat} {v : Nat} {b k : Nat} (e : ¬ (b = a ∧ k = j)) : zug h a j v b k = h b k := if_neg e
theorem zug_s {h : zG} {a j : Nat} {v : Nat} : zug h a j v a j = v := if_pos ⟨rfl, rfl⟩
theorem zug_a {h : zG} {a j : Nat} {v : Nat} {b : Nat} (e : b ≠ a) : zug h a j v b = h b := funext fun k => if_neg fun q => e q.1
theorem zcell_h {cs : zcs} {B : Nat × Nat} {g : zG} {h : zH} {a j : Nat} {v : Int} (b : Nat) (e : b ≠ a) : zcell cs B g (zup h a j v) b = zcell cs B g h b := by
  unfold zcell
  rw [zup_a e]
theorem zcell_g {cs : zcs} {B : Nat × Nat} {g : zG} {h : zH} {a j : Nat} {v : Nat} (b : Nat) (e : b ≠ a) : zcell cs B (zug g a j v) h b = zcell cs B g h b := by
  unfold zcell
  rw [zug_a e]
/-! ===== locals ===== -/
def zL (B : Nat × Nat) (nL : Nat) (lA : Array Slot) (ls : List (Option zv)) : Prop := lA.size = nL ∧ lv_wf lA ∧ ∀ (i : Nat) (v : zv), ls[i]? = some (some v) → lA[i]? = some (.val (zc B v))
def zpk (B : Nat × Nat) (ls : List (Option zv)) (i : Nat) : Option (Nat × Value) := match ls[i]? with
  | some (some v) => some (i, zc B v)
  | _ => none
def zpr (B : Nat × Nat) (ls : List (Option zv)) : List (Nat × Value) := (List.range ls.length).filterMap (zpk B ls)
theorem zpk_some {B : Nat × Nat} {ls : List (Option zv)} {i : Nat} {q : Nat × Value} (h : zpk B ls i = some q) : ∃ v, ls[i]? = some (some v) ∧ q = (i, zc B v) := by
  unfold zpk at h
  split at h
  · next v hv => exact ⟨v, hv, (Option.some.inj h).symm⟩
  · cases h
theorem zL.has {B : Nat × Nat} {nL : Nat} {lA : Array Slot} {ls : List (Option zv)} (h : zL B nL lA ls) : lv_has lA nL (zpr B ls) := by
  refine ⟨h.1, h.2.1, fun q hq => ?_⟩
  obtain ⟨i, -, hi⟩ := List.mem_filterMap.mp hq
  obtain ⟨v, hv, rfl⟩ := zpk_some hi
  exact h.2.2 i v hv
theorem zpr_mem {B : Nat × Nat} {ls : List (Option zv)} {i : Nat} {v : zv} (h : ls[i]? = some (some v)) : (i, zc B v) ∈ zpr B ls := by
  have hl : i < ls.length := (List.getElem?_eq_some_iff.mp h).1
  refine List.mem_filterMap.mpr ⟨i, List.mem_range.mpr hl, ?_⟩
  unfold zpk
  rw [h]
def zsafe : Option zv → Bool
  | some (.inr (.inr _)) => false
  | _ => true
def zok (ls : List (Option zv)) (i : Nat) : Bool := match i with
  | 0 => true
  | k + 1 => zsafe (ls.getD k none)
theorem zc_cat {B : Nat × Nat} {v : zv} (h : zsafe (some v) = true) : (zc B v).category = 1 := by
  rcases v with x | r | x
  · rfl
  · show (zrf B r).category = 1
    unfold zrf
    split <;> rfl
  · cases h
theorem zL.stored {B : Nat × Nat} {nL : Nat} {lA' : Array Slot} {ls : List (Option zv)} {i : Nat} {v : zv} {w : Value} (hs : zok ls i = true) (hw : w = zc B v) (h : lv_has lA' nL ((i, w) :: (zpr B ls).filter (fun q => !(q.1 == i) && !(q.1 + 1 == i && q.2.category == 2)))) : zL B nL lA' (ls.set i (some v)) := by
  subst hw
  refine ⟨h.1, h.2.1, fun j u hj => ?_⟩
  rw [List.getElem?_set] at hj
  by_cases e : i = j
  · rw [if_pos e] at hj
    split at hj
    · cases hj
      subst e
      exact h.2.2 _ List.mem_cons_self
    · cases hj
  · rw [if_neg e] at hj
    refine h.2.2 (j, zc B u) (List.mem_cons_of_mem _ (List.mem_filter.mpr ⟨zpr_mem hj, ?_⟩))
    have e1 : ¬ j = i := fun q => e q.symm
    by_cases e2 : j + 1 = i
    · subst e2
      have hsu : zsafe (some u) = true := by
        have h3 : ls.getD j none = some u := by rw [List.getD_eq_getElem?_getD, hj]; rfl
        have h4 : zsafe (ls.getD j none) = true := hs
        rw [h3] at h4
        exact h4
      simp [zc_cat hsu]
    · simp [e1, e2]
theorem zL.sub {B : Nat × Nat} {nL : Nat} {lA : Array Slot} {ls ls' : List (Option zv)} (h : zL B nL lA ls) (hs : ∀ (i : Nat) (v : zv), ls'[i]? = some (some v) → ls[i]? = some (some v)) : zL B nL lA ls' := ⟨h.1, h.2.1, fun i v q => h.2.2 i v (hs i v q)⟩
/-! ===== a method: own class, code, locals, what it returns, whether a constructor, depth, cells and slots that it makes, cells before it, the law's script ===== -/
abbrev zM : Type := String × ByteArray × Nat × Option FieldType × Bool × Nat × Nat × Nat × Nat × Option (Nat × (Nat → Int32))
abbrev zM_own (M : zM) : String := M.1
abbrev zM_cc (M : zM) : ByteArray := M.2.1
abbrev zM_nL (M : zM) : Nat := M.2.2.1
abbrev zM_ret (M : zM) : Option FieldType := M.2.2.2.1
abbrev zM_ini (M : zM) : Bool := M.2.2.2.2.1
abbrev zM_d (M : zM) : Nat := M.2.2.2.2.2.1
abbrev zM_mc (M : zM) : Nat := M.2.2.2.2.2.2.1
abbrev zM_ms (M : zM) : Nat := M.2.2.2.2.2.2.2.1
abbrev zM_n0 (M : zM) : Nat := M.2.2.2.2.2.2.2.2.1
abbrev zM_sc (M : zM) : Option (Nat × (Nat → Int32)) := M.2.2.2.2.2.2.2.2.2
def zRm (d mc ms : Nat) : Room := { frames := d, cells := mc, slots := ms, locals := 38 * d }
abbrev zQT : Type := List Frame → Array Value → State → va_G → zcs → Nat × Nat → State → Prop
def zAO (U : State) : Prop := (Cond.arrayOver (.array .int)).before #[] U = true ∧ va_AO RX4 U
def zCtx (M : zM) (p : Program) (s : State) (m : MethodId) (args : Array Value) (meth : Method) (c : Code) (D : va_G) (cs : zcs) (B : Nat × Nat) : Prop :=
  p.tables.exec = Jvm.exec ∧ c.code = zM_cc M ∧ c.maxLocals = zM_nL M ∧ meth.sig.returnType = zM_ret M ∧ meth.locks = false ∧ (zM_ini M = true → meth.name = "<init>") ∧ s.vm.findClass (zM_own M) = some m.cls ∧ (∀ w ∈ zbig, w.before args s = true) ∧ va_K D vwCl (ztys cs) s ∧ (∀ q, zM_sc M = some q → (va_X B.2 q.1 q.2 s s.heap ∧ B.2 < s.heap.size ∧ B.2 ≤ B.1)) ∧ ((zM_ini M = true ∨ zM_sc M ≠ none) → zAO s)
def WP (M : zM) (Q : zQT) (pc : Nat) (ls : List (Option zv)) (st : List zv) (n : Nat) (g : zG) (h : zH) : Prop :=
  ∀ (p : Program) (l : Launch) (e : Env) (s : State) (m : MethodId) (args : Array Value) (below : List Frame) (meth : Method) (c : Code) (H : Heap) (locs : List Loc) (cells slots : Nat) (D : va_G) (cs : zcs) (B : Nat × Nat) (lA : Array Slot),
    zCtx M p s m args meth c D cs B → zRep D cs B n g h H → va_S (zA B) s.heap H locs → s.heap.size = B.1 + 1 + zM_n0 M → cells + zM_n0 M = n → slots + zSL (zM_n0 M) = zSL n → zL B (zM_nL M) lA ls →
    W p l e (zRm (zM_d M) (zM_mc M) (zM_ms M)) s m args below meth c H locs cells slots (Q below args s D cs B) (F0 m pc lA (st.map (zc B)))
def zQc (M : zM) (D : va_G) (cs : zcs) (B : Nat × Nat) (K : Option zv → Nat → zG → zH → Prop) : Array Value → State → Outcome → State → Prop := fun _ st oc t =>
  ∃ (r : Option zv) (n' : Nat) (g' : zG) (h' : zH), oc = .returned (r.map (zc B)) ∧ K r n' g' h' ∧ zRep D cs B n' g' h' t.heap ∧ n' = zM_n0 M + zM_mc M ∧ zSL n' = zSL (zM_n0 M) + zM_ms M ∧ va_F (zA B) st t
def zMQ (M : zM) (K : Option zv → Nat → zG → zH → Prop) : zQT := fun below args s D cs B => MQ below (zQc M D cs B K) args s (zM_mc M) (zM_ms M) (zA B)
/-- a call of y with these values over this heap comes back, with K -/
def CALL (y : MethodName) (M : zM) (As : List zv) (g : zG) (h : zH) (K : Option zv → Nat → zG → zH → Prop) : Prop :=
  ∀ (l : Launch) (D : va_G) (cs : zcs) (B : Nat × Nat), Met l y (Cond.code y (zM_cc M) (zM_nL M) (zM_ret M) :: zbig) (zRm (zM_d M) (zM_mc M) (zM_ms M)) (va_Pc (As.map (zc B)) (fun U => va_K D vwCl (ztys cs) U ∧ (zM_ini M = true → zAO U) ∧ zRep D cs B (zM_n0 M) g h U.heap)) (zQc M D cs B K) (zM_mc M) (zM_ms M) (zA B)
section
variable {M : zM} {Q : zQT} {pc n : Nat} {ls : List (Option zv)} {st : List zv} {g : zG} {h : zH}
theorem wp_nop1 {ins : Instr} {len : Nat} {st' : List zv}
    (f : ∀ (p : Program) (l : Launch) (e : Env) (R : Room) (s : State) (m : MethodId) (args : Array Value) (below : List Frame) (meth : Method) (c : Code) (H : Heap) (locs : List Loc) (cells slots : Nat) (B : Nat × Nat) (lA : Array Slot) (QQ : State → Prop), p.tables.exec = Jvm.exec → c.code = zM_cc M → zL B (zM_nL M) lA ls →
      W p l e R s m args below meth c H locs cells slots QQ (F0 m (pc + len) lA (st'.map (zc B))) → W p l e R s m args below meth c H locs cells slots QQ (F0 m pc lA (st.map (zc B))))
    (k : WP M Q (pc + len) ls st' n g h) : WP M Q pc ls st n g h := by
  intro p l e s m args below meth c H locs cells slots D cs B lA C R S hA e1 e2 L
  exact f p l e _ s m args below meth c H locs cells slots B lA _ C.1 C.2.1 L (k p l e s m args below meth c H locs cells slots D cs B lA C R S hA e1 e2 L)
theorem wp_iconst {v : Int} (hd : decode (zM_cc M) pc = .ok (.iconst v, 1)) (k : WP M Q (pc + 1) ls (vI v :: st) n g h) : WP M Q pc ls st n g h :=
  wp_nop1 (ins := .iconst v) (fun _ _ _ _ _ _ _ _ _ _ _ _ _ _ _ _ _ hx hb _ kk => lv_iconst hx hb hd rfl kk) k
theorem wp_bipush {v : Int} (hd : decode (zM_cc M) pc = .ok (.bipush v, 2)) (hv : -128 ≤ v ∧ v < 128) (k : WP M Q (pc + 2) ls (vI v :: st) n g h) : WP M Q pc ls st n g h :=
  wp_nop1 (ins := .iconst v) (fun _ _ _ _ _ _ _ _ _ _ _ _ _ _ _ _ _ hx hb _ kk => lv_bipush hx hb hd (v := Int32.ofInt v) (by
    apply Int32.toInt_inj.mp
    rw [Int8.toInt_toInt32, Int8.toInt_ofInt_of_le hv.1 hv.2, zin_toInt ⟨by omega, by omega⟩]) kk) k
theorem wp_sipush {v : Int} (hd : decode (zM_cc M) pc = .ok (.sipush v, 3)) (hv : -32768 ≤ v ∧ v < 32768) (k : WP M Q (pc + 3) ls (vI v :: st) n g h) : WP M Q pc ls st n g h :=
  wp_nop1 (ins := .iconst v) (fun _ _ _ _ _ _ _ _ _ _ _ _ _ _ _ _ _ hx hb _ kk => lv_sipush hx hb hd (v := Int32.ofInt v) (by
    apply Int32.toInt_inj.mp
    rw [Int16.toInt_toInt32, Int16.toInt_ofInt_of_le hv.1 hv.2, zin_toInt ⟨by omega, by omega⟩]) kk) k
theorem wp_iloadn {kf : Fin 4} {x : Int} (i : Nat) (hi : (kf : Nat) = i) (hl : ls[i]? = some (some (vI x))) (hd : decode (zM_cc M) pc = .ok (.iload_n kf, 1)) (k : WP M Q (pc + 1) ls (vI x :: st) n g h) : WP M Q pc ls st n g h :=
  wp_nop1 (ins := .iadd) (fun _ _ _ _ _ _ _ _ _ _ _ _ _ _ _ _ _ hx hb L kk => lv_iload_n hx hb hd hi (L.2.2 i _ hl) kk) k
theorem wp_iload {x : Int} (i : Nat) (hl : ls[i]? = some (some (vI x))) (hd : decode (zM_cc M) pc = .ok (.iload i, 2)) (k : WP M Q (pc + 2) ls (vI x :: st) n g h) : WP M Q pc ls st n g h :=
  wp_nop1 (ins := .iadd) (fun _ _ _ _ _ _ _ _ _ _ _ _ _ _ _ _ _ hx hb L kk => lv_iload hx hb hd (L.2.2 i _ hl) kk) k
theorem wp_lloadn {kf : Fin 4} {x : Int} (i : Nat) (hi : (kf : Nat) = i) (hl : ls[i]? = some (some (vL x))) (hd : decode (zM_cc M) pc = .ok (.lload_n kf, 1)) (k : WP M Q (pc + 1) ls (vL x :: st) n g h) : WP M Q pc ls st n g h :=
  wp_nop1 (ins := .iadd) (fun _ _ _ _ _ _ _ _ _ _ _ _ _ _ _ _ _ hx hb L kk => lv_lload_n hx hb hd hi (L.2.2 i _ hl) kk) k
theorem wp_aloadn {kf : Fin 4} {x : Nat} (i : Nat) (hi : (kf : Nat) = i) (hl : ls[i]? = some (some (vR x))) (hd : decode (zM_cc M) pc = .ok (.aload_n kf, 1)) (k : WP M Q (pc + 1) ls (vR x :: st) n g h) : WP M Q pc ls st n g h :=
  wp_nop1 (ins := .iadd) (fun _ _ _ _ _ _ _ _ _ _ _ _ _ _ B _ _ hx hb L kk => by
    have h1 := L.2.2 i _ hl
    by_cases hx0 : x = 0
    · subst hx0
      exact lv_aload_nN hx hb hd hi h1 kk
    · have e : zc B (vR x) = .ref (zad B x) := if_neg hx0
      rw [e] at h1
      rw [List.map_cons, e] at kk
      exact lv_aload_n hx hb hd hi h1 kk) k
theorem wp_aload {x : Nat} (i : Nat) (hl : ls[i]? = some (some (vR x))) (hd : decode (zM_cc M) pc = .ok (.aload i, 2)) (k : WP M Q (pc + 2) ls (vR x :: st) n g h) : WP M Q pc ls st n g h :=
  wp_nop1 (ins := .iadd) (fun _ _ _ _ _ _ _ _ _ _ _ _ _ _ B _ _ hx hb L kk => by
    have h1 := L.2.2 i _ hl
    by_cases hx0 : x = 0
    · subst hx0
      exact lv_aloadN hx hb hd h1 kk
    · have e : zc B (vR x) = .ref (zad B x) := if_neg hx0
      rw [e] at h1
      rw [List.map_cons, e] at kk
      exact lv_aload hx hb hd h1 kk) k
theorem wp_store {ls' : List (Option zv)} {st' : List zv} {v : zv} {len : Nat} (i : Nat) (hs : zok ls i = true) (hset : ls.set i (some v) = ls')
    (f : ∀ (p : Program) (l : Launch) (e : Env) (R : Room) (s : State) (m : MethodId) (args : Array Value) (below : List Frame) (meth : Method) (c : Code) (H : Heap) (locs : List Loc) (cells slots : Nat) (B : Nat × Nat) (lA : Array Slot) (QQ : State → Prop), p.tables.exec = Jvm.exec → c.code = zM_cc M → zL B (zM_nL M) lA ls →
      (∀ lA' : Array Slot, lv_has lA' (zM_nL M) ((i, zc B v) :: (zpr B ls).filter (fun q => !(q.1 == i) && !(q.1 + 1 == i && q.2.category == 2))) → W p l e R s m args below meth c H locs cells slots QQ (F0 m (pc + len) lA' (st'.map (zc B)))) → W p l e R s m args below meth c H locs cells slots QQ (F0 m pc lA (st.map (zc B))))
    (k : WP M Q (pc + len) ls' st' n g h) : WP M Q pc ls st n g h := by
  intro p l e s m args below meth c H locs cells slots D cs B lA C R S hA e1 e2 L
  subst hset
  exact f p l e _ s m args below meth c H locs cells slots B lA _ C.1 C.2.1 L (fun lA' hL => k p l e s m args below meth c H locs cells slots D cs B lA' C R S hA e1 e2 (zL.stored hs rfl hL))
theorem wp_istoren {kf : Fin 4} {x : Int} {ls' : List (Option zv)} (i : Nat) (hs : zok ls i = true) (hi : (kf : Nat) = i) (hset : ls.set i (some (vI x)) = ls') (hn : i < zM_nL M) (hd : decode (zM_cc M) pc = .ok (.istore_n kf, 1)) (k : WP M Q (pc + 1) ls' st n g h) : WP M Q pc ls (vI x :: st) n g h :=
  wp_store i hs hset (fun _ _ _ _ _ _ _ _ _ _ _ _ _ _ _ _ _ hx hb L kk => lv_istore_n hx hb hd hi L.has hn rfl kk) k
theorem wp_istore {x : Int} {ls' : List (Option zv)} (i : Nat) (hs : zok ls i = true) (_ : True) (hset : ls.set i (some (vI x)) = ls') (hn : i < zM_nL M) (hd : decode (zM_cc M) pc = .ok (.istore i, 2)) (k : WP M Q (pc + 2) ls' st n g h) : WP M Q pc ls (vI x :: st) n g h :=
  wp_store i hs hset (fun _ _ _ _ _ _ _ _ _ _ _ _ _ _ _ _ _ hx hb L kk => lv_istore hx hb hd L.has hn rfl kk) k
theorem wp_astoren {kf : Fin 4} {x : Nat} {ls' : List (Option zv)} (i : Nat) (hs : zok ls i = true) (hi : (kf : Nat) = i) (hset : ls.set i (some (vR x)) = ls') (hn : i < zM_nL M) (hd : decode (zM_cc M) pc = .ok (.astore_n kf, 1)) (k : WP M Q (pc + 1) ls' st n g h) : WP M Q pc ls (vR x :: st) n g h :=
  wp_store i hs hset (fun _ _ _ _ _ _ _ _ _ _ _ _ _ _ B _ _ hx hb L kk => by
    by_cases hx0 : x = 0
    · subst hx0
      exact lv_astore_nN hx hb hd hi L.has hn rfl kk
    · have e : zc B (vR x) = .ref (zad B x) := if_neg hx0
      rw [e] at kk
      rw [List.map_cons, e]
      exact lv_astore_n hx hb hd hi L.has hn rfl kk) k
theorem wp_astore {x : Nat} {ls' : List (Option zv)} (i : Nat) (hs : zok ls i = true) (_ : True) (hset : ls.set i (some (vR x)) = ls') (hn : i < zM_nL M) (hd : decode (zM_cc M) pc = .ok (.astore i, 2)) (k : WP M Q (pc + 2) ls' st n g h) : WP M Q pc ls (vR x :: st) n g h :=
  wp_store i hs hset (fun _ _ _ _ _ _ _ _ _ _ _ _ _ _ B _ _ hx hb L kk => by
    by_cases hx0 : x = 0
    · subst hx0
      exact lv_astoreN hx hb hd L.has hn rfl kk
    · have e : zc B (vR x) = .ref (zad B x) := if_neg hx0
      rw [e] at kk
      rw [List.map_cons, e]
      exact lv_astore hx hb hd L.has hn rfl kk) k
theorem wp_forget {ls' : List (Option zv)} (i : Nat) (hset : ls.set i none = ls') (k : WP M Q pc ls' st n g h) : WP M Q pc ls st n g h := by
  intro p l e s m args below meth c H locs cells slots D cs B lA C R S hA e1 e2 L
  subst hset
  refine k p l e s m args below meth c H locs cells slots D cs B lA C R S hA e1 e2 (L.sub fun j v hj => ?_)
  rw [List.getElem?_set] at hj
  by_cases q : i = j
  · rw [if_pos q] at hj
    split at hj <;> cases hj
  · rwa [if_neg q] at hj
theorem wp_iinc {x a : Int} {ls' : List (Option zv)} (i : Nat) (hl : ls[i]? = some (some (vI x))) (hs : zok ls i = true) (hset : ls.set i (some (vI (x + a))) = ls') (hn : i < zM_nL M) (hd : decode (zM_cc M) pc = .ok (.iinc i a, 3)) (k : WP M Q (pc + 3) ls' st n g h) : WP M Q pc ls st n g h :=
  wp_store i hs hset (fun _ _ _ _ _ _ _ _ _ _ _ _ _ _ B _ _ hx hb L kk => by
    obtain ⟨k9, hk9⟩ := List.getElem?_of_mem (zpr_mem (B := B) hl)
    exact lv_iinc hx hb hd L.has (k := k9) hk9 (by rw [← Int32.ofInt_add]) hn rfl kk) k
theorem wp_iadd {x y : Int} (hd : decode (zM_cc M) pc = .ok (.iadd, 1)) (k : WP M Q (pc + 1) ls (vI (x + y) :: st) n g h) : WP M Q pc ls (vI y :: vI x :: st) n g h :=
  wp_nop1 (ins := .iadd) (fun _ _ _ _ _ _ _ _ _ _ _ _ _ _ _ _ _ hx hb _ kk => lv_iadd hx hb hd (by rw [← Int32.ofInt_add]; exact kk)) k
theorem wp_isub {x y : Int} (hd : decode (zM_cc M) pc = .ok (.isub, 1)) (k : WP M Q (pc + 1) ls (vI (x - y) :: st) n g h) : WP M Q pc ls (vI y :: vI x :: st) n g h :=
  wp_nop1 (ins := .iadd) (fun _ _ _ _ _ _ _ _ _ _ _ _ _ _ _ _ _ hx hb _ kk => lv_isub hx hb hd (by rw [← Int32.ofInt_sub]; exact kk)) k
theorem wp_imul {x y : Int} (hd : decode (zM_cc M) pc = .ok (.imul, 1)) (k : WP M Q (pc + 1) ls (vI (x * y) :: st) n g h) : WP M Q pc ls (vI y :: vI x :: st) n g h :=
  wp_nop1 (ins := .iadd) (fun _ _ _ _ _ _ _ _ _ _ _ _ _ _ _ _ _ hx hb _ kk => lv_imul hx hb hd (by rw [← Int32.ofInt_mul]; exact kk)) k
theorem wp_ineg {x : Int} (hd : decode (zM_cc M) pc = .ok (.ineg, 1)) (k : WP M Q (pc + 1) ls (vI (-x) :: st) n g h) : WP M Q pc ls (vI x :: st) n g h :=
  wp_nop1 (ins := .iadd) (fun _ _ _ _ _ _ _ _ _ _ _ _ _ _ _ _ _ hx hb _ kk => lv_ineg hx hb hd (by rw [← Int32.ofInt_neg]; exact kk)) k
theorem z_div {x y : Int} (hx : zin x) (hy : zin y) (hq : zin (x.tdiv y)) : Int32.ofInt x / Int32.ofInt y = Int32.ofInt (x.tdiv y) := by
  apply Int32.toInt_inj.mp
  rw [Int32.toInt_div, zin_toInt hx, zin_toInt hy, Int32.toInt_ofInt]
theorem z_tdiv_in {x y : Int} (hx : zin x) (hy : 0 < y) : zin (x.tdiv y) := by
  rcases Int.le_total 0 x with h0 | h0
  · rw [Int.tdiv_eq_ediv_of_nonneg h0]
    have h1 := Int.ediv_le_self y h0
    have h2 := Int.ediv_nonneg h0 (Int.le_of_lt hy)
    exact ⟨by have := hx.1; omega, by have := hx.2; omega⟩
  · have h3 : x.tdiv y = -((-x) / y) := by
      have : x.tdiv y = -((-x).tdiv y) := by rw [Int.neg_tdiv]; omega
      rw [this, Int.tdiv_eq_ediv_of_nonneg (by omega)]
    rw [h3]
    have h1 := Int.ediv_le_self y (show 0 ≤ -x by omega)
    have h2 := Int.ediv_nonneg (show 0 ≤ -x by omega) (Int.le_of_lt hy)
    exact ⟨by have := hx.1; omega, by have := hx.2; omega⟩
theorem z_ne0 {y : Int} (hy : zin y) (h : y ≠ 0) : ¬ Int32.ofInt y = 0 := fun e => h ((zin_eq hy zin_0).mp e)
/-- division of a number that isn't negative by a positive one -/
theorem wp_idiv {x y : Int} (hd : decode (zM_cc M) pc = .ok (.idiv, 1)) (hx : 0 ≤ x ∧ x < 2147483648) (hy : 0 < y ∧ y < 2147483648) (k : WP M Q (pc + 1) ls (vI (x / y) :: st) n g h) : WP M Q pc ls (vI y :: vI x :: st) n g h :=
  wp_nop1 (ins := .iadd) (fun _ _ _ _ _ _ _ _ _ _ _ _ _ _ _ _ _ hxx hb _ kk => lv_idiv hxx hb hd (z_ne0 ⟨by omega, by omega⟩ (by omega)) (by
    have zx : zin x := ⟨by omega, by omega⟩
    rw [z_div zx ⟨by omega, by omega⟩ (z_tdiv_in zx hy.1), Int.tdiv_eq_ediv_of_nonneg hx.1]
    exact kk)) k
/-- a remainder, as Java has it -/
theorem wp_iremT {x y : Int} (hd : decode (zM_cc M) pc = .ok (.irem, 1)) (hx : zin x) (hy : 0 < y ∧ y < 2147483648) (k : WP M Q (pc + 1) ls (vI (x.tmod y) :: st) n g h) : WP M Q pc ls (vI y :: vI x :: st) n g h :=
  wp_nop1 (ins := .iadd) (fun _ _ _ _ _ _ _ _ _ _ _ _ _ _ _ _ _ hxx hb _ kk => lv_irem hxx hb hd (z_ne0 ⟨by omega, by omega⟩ (by omega)) (by
    rw [z_div hx ⟨by omega, by omega⟩ (z_tdiv_in hx hy.1), ← Int32.ofInt_mul, ← Int32.ofInt_sub, show x - x.tdiv y * y = x.tmod y by rw [Int.tmod_def, Int.mul_comm]]
    exact kk)) k
theorem wp_irem {x y : Int} (hd : decode (zM_cc M) pc = .ok (.irem, 1)) (hx : 0 ≤ x ∧ x < 2147483648) (hy : 0 < y ∧ y < 2147483648) (k : WP M Q (pc + 1) ls (vI (x % y) :: st) n g h) : WP M Q pc ls (vI y :: vI x :: st) n g h :=
  wp_iremT hd ⟨by omega, hx.2⟩ hy (by rw [Int.tmod_eq_emod_of_nonneg hx.1]; exact k)
end

section
variable {M : zM} {Q : zQT} {pc n : Nat} {ls : List (Option zv)} {st : List zv} {g : zG} {h : zH}
theorem w_iload0 {x : Int} {t : List (Option zv)} (hd : decode M.2.1 pc = .ok (.iload_n 0, 1)) (k : WP M Q (pc + 1) (some (vI x) :: t) (vI x :: st) n g h) : WP M Q pc (some (vI x) :: t) st n g h := wp_iloadn 0 rfl rfl hd k
theorem w_aload0 {x : Nat} {t : List (Option zv)} (hd : decode M.2.1 pc = .ok (.aload_n 0, 1)) (k : WP M Q (pc + 1) (some (vR x) :: t) (vR x :: st) n g h) : WP M Q pc (some (vR x) :: t) st n g h := wp_aloadn 0 rfl rfl hd k
theorem w_istore0 {x : Int} {u : Option zv} {t : List (Option zv)} (hd : decode M.2.1 pc = .ok (.istore_n 0, 1)) (hk : 0 < M.2.2.1) (k : WP M Q (pc + 1) (some (vI x) :: t) st n g h) : WP M Q pc (u :: t) (vI x :: st) n g h := wp_istoren 0 rfl rfl rfl hk hd k
theorem w_astore0 {x : Nat} {u : Option zv} {t : List (Option zv)} (hd : decode M.2.1 pc = .ok (.astore_n 0, 1)) (hk : 0 < M.2.2.1) (k : WP M Q (pc + 1) (some (vR x) :: t) st n g h) : WP M Q pc (u :: t) (vR x :: st) n g h := wp_astoren 0 rfl rfl rfl hk hd k
theorem w_iinc0 {x c : Int} {t : List (Option zv)} (hd : decode M.2.1 pc = .ok (.iinc 0 c, 3)) (hk : 0 < M.2.2.1) (k : WP M Q (pc + 3) (some (vI (x + c)) :: t) st n g h) : WP M Q pc (some (vI x) :: t) st n g h := wp_iinc 0 rfl rfl rfl hk hd k
theorem w_forget0 {u : Option zv} {t : List (Option zv)} (k : WP M Q pc (none :: t) st n g h) : WP M Q pc (u :: t) st n g h := wp_forget 0 rfl k
theorem w_iload1 {l0 : Option zv} {x : Int} {t : List (Option zv)} (hd : decode M.2.1 pc = .ok (.iload_n 1, 1)) (k : WP M Q (pc + 1) (l0 :: some (vI x) :: t) (vI x :: st) n g h) : WP M Q pc (l0 :: some (vI x) :: t) st n g h := wp_iloadn 1 rfl rfl hd k
theorem w_aload1 {l0 : Option zv} {x : Nat} {t : List (Option zv)} (hd : decode M.2.1 pc = .ok (.aload_n 1, 1)) (k : WP M Q (pc + 1) (l0 :: some (vR x) :: t) (vR x :: st) n g h) : WP M Q pc (l0 :: some (vR x) :: t) st n g h := wp_aloadn 1 rfl rfl hd k
theorem w_istore1 {l0 : Option zv} {x : Int} {u : Option zv} {t : List (Option zv)} (hd : decode M.2.1 pc = .ok (.istore_n 1, 1)) (hs : zsafe l0 = true) (hk : 1 < M.2.2.1) (k : WP M Q (pc + 1) (l0 :: some (vI x) :: t) st n g h) : WP M Q pc (l0 :: u :: t) (vI x :: st) n g h := wp_istoren 1 hs rfl rfl hk hd k
theorem w_astore1 {l0 : Option zv} {x : Nat} {u : Option zv} {t : List (Option zv)} (hd : decode M.2.1 pc = .ok (.astore_n 1, 1)) (hs : zsafe l0 = true) (hk : 1 < M.2.2.1) (k : WP M Q (pc + 1) (l0 :: some (vR x) :: t) st n g h) : WP M Q pc (l0 :: u :: t) (vR x :: st) n g h := wp_astoren 1 hs rfl rfl hk hd k
theorem w_iinc1 {l0 : Option zv} {x c : Int} {t : List (Option zv)} (hd : decode M.2.1 pc = .ok (.iinc 1 c, 3)) (hs : zsafe l0 = true) (hk : 1 < M.2.2.1) (k : WP M Q (pc + 3) (l0 :: some (vI (x + c)) :: t) st n g h) : WP M Q pc (l0 :: some (vI x) :: t) st n g h := wp_iinc 1 rfl hs rfl hk hd k
theorem w_forget1 {l0 : Option zv} {u : Option zv} {t : List (Option zv)} (k : WP M Q pc (l0 :: none :: t) st n g h) : WP M Q pc (l0 :: u :: t) st n g h := wp_forget 1 rfl k
theorem w_iload2 {l0 l1 : Option zv} {x : Int} {t : List (Option zv)} (hd : decode M.2.1 pc = .ok (.iload_n 2, 1)) (k : WP M Q (pc + 1) (l0 :: l1 :: some (vI x) :: t) (vI x :: st) n g h) : WP M Q pc (l0 :: l1 :: some (vI x) :: t) st n g h := wp_iloadn 2 rfl rfl hd k
theorem w_aload2 {l0 l1 : Option zv} {x : Nat} {t : List (Option zv)} (hd : decode M.2.1 pc = .ok (.aload_n 2, 1)) (k : WP M Q (pc + 1) (l0 :: l1 :: some (vR x) :: t) (vR x :: st) n g h) : WP M Q pc (l0 :: l1 :: some (vR x) :: t) st n g h := wp_aloadn 2 rfl rfl hd k
theorem w_istore2 {l0 l1 : Option zv} {x : Int} {u : Option zv} {t : List (Option zv)} (hd : decode M.2.1 pc = .ok (.istore_n 2, 1)) (hs : zsafe l1 = true) (hk : 2 < M.2.2.1) (k : WP M Q (pc + 1) (l0 :: l1 :: some (vI x) :: t) st n g h) : WP M Q pc (l0 :: l1 :: u :: t) (vI x :: st) n g h := wp_istoren 2 hs rfl rfl hk hd k
theorem w_astore2 {l0 l1 : Option zv} {x : Nat} {u : Option zv} {t : List (Option zv)} (hd : decode M.2.1 pc = .ok (.astore_n 2, 1)) (hs : zsafe l1 = true) (hk : 2 < M.2.2.1) (k : WP M Q (pc + 1) (l0 :: l1 :: some (vR x) :: t) st n g h) : WP M Q pc (l0 :: l1 :: u :: t) (vR x :: st) n g h := wp_astoren 2 hs rfl rfl hk hd k
theorem w_iinc2 {l0 l1 : Option zv} {x c : Int} {t : List (Option zv)} (hd : decode M.2.1 pc = .ok (.iinc 2 c, 3)) (hs : zsafe l1 = true) (hk : 2 < M.2.2.1) (k : WP M Q (pc + 3) (l0 :: l1 :: some (vI (x + c)) :: t) st n g h) : WP M Q pc (l0 :: l1 :: some (vI x) :: t) st n g h := wp_iinc 2 rfl hs rfl hk hd k
theorem w_forget2 {l0 l1 : Option zv} {u : Option zv} {t : List (Option zv)} (k : WP M Q pc (l0 :: l1 :: none :: t) st n g h) : WP M Q pc (l0 :: l1 :: u :: t) st n g h := wp_forget 2 rfl k
theorem w_iload3 {l0 l1 l2 : Option zv} {x : Int} {t : List (Option zv)} (hd : decode M.2.1 pc = .ok (.iload_n 3, 1)) (k : WP M Q (pc + 1) (l0 :: l1 :: l2 :: some (vI x) :: t) (vI x :: st) n g h) : WP M Q pc (l0 :: l1 :: l2 :: some (vI x) :: t) st n g h := wp_iloadn 3 rfl rfl hd k
theorem w_aload3 {l0 l1 l2 : Option zv} {x : Nat} {t : List (Option zv)} (hd : decode M.2.1 pc = .ok (.aload_n 3, 1)) (k : WP M Q (pc + 1) (l0 :: l1 :: l2 :: some (vR x) :: t) (vR x :: st) n g h) : WP M Q pc (l0 :: l1 :: l2 :: some (vR x) :: t) st n g h := wp_aloadn 3 rfl rfl hd k
theorem w_istore3 {l0 l1 l2 : Option zv} {x : Int} {u : Option zv} {t : List (Option zv)} (hd : decode M.2.1 pc = .ok (.istore_n 3, 1)) (hs : zsafe l2 = true) (hk : 3 < M.2.2.1) (k : WP M Q (pc + 1) (l0 :: l1 :: l2 :: some (vI x) :: t) st n g h) : WP M Q pc (l0 :: l1 :: l2 :: u :: t) (vI x :: st) n g h := wp_istoren 3 hs rfl rfl hk hd k
theorem w_astore3 {l0 l1 l2 : Option zv} {x : Nat} {u : Option zv} {t : List (Option zv)} (hd : decode M.2.1 pc = .ok (.astore_n 3, 1)) (hs : zsafe l2 = true) (hk : 3 < M.2.2.1) (k : WP M Q (pc + 1) (l0 :: l1 :: l2 :: some (vR x) :: t) st n g h) : WP M Q pc (l0 :: l1 :: l2 :: u :: t) (vR x :: st) n g h := wp_astoren 3 hs rfl rfl hk hd k
theorem w_iinc3 {l0 l1 l2 : Option zv} {x c : Int} {t : List (Option zv)} (hd : decode M.2.1 pc = .ok (.iinc 3 c, 3)) (hs : zsafe l2 = true) (hk : 3 < M.2.2.1) (k : WP M Q (pc + 3) (l0 :: l1 :: l2 :: some (vI (x + c)) :: t) st n g h) : WP M Q pc (l0 :: l1 :: l2 :: some (vI x) :: t) st n g h := wp_iinc 3 rfl hs rfl hk hd k
theorem w_forget3 {l0 l1 l2 : Option zv} {u : Option zv} {t : List (Option zv)} (k : WP M Q pc (l0 :: l1 :: l2 :: none :: t) st n g h) : WP M Q pc (l0 :: l1 :: l2 :: u :: t) st n g h := wp_forget 3 rfl k
theorem w_iload4 {l0 l1 l2 l3 : Option zv} {x : Int} {t : List (Option zv)} (hd : decode M.2.1 pc = .ok (.iload 4, 2)) (k : WP M Q (pc + 2) (l0 :: l1 :: l2 :: l3 :: some (vI x) :: t) (vI x :: st) n g h) : WP M Q pc (l0 :: l1 :: l2 :: l3 :: some (vI x) :: t) st n g h := wp_iload 4 rfl hd k
theorem w_aload4 {l0 l1 l2 l3 : Option zv} {x : Nat} {t : List (Option zv)} (hd : decode M.2.1 pc = .ok (.aload 4, 2)) (k : WP M Q (pc + 2) (l0 :: l1 :: l2 :: l3 :: some (vR x) :: t) (vR x :: st) n g h) : WP M Q pc (l0 :: l1 :: l2 :: l3 :: some (vR x) :: t) st n g h := wp_aload 4 rfl hd k
theorem w_istore4 {l0 l1 l2 l3 : Option zv} {x : Int} {u : Option zv} {t : List (Option zv)} (hd : decode M.2.1 pc = .ok (.istore 4, 2)) (hs : zsafe l3 = true) (hk : 4 < M.2.2.1) (k : WP M Q (pc + 2) (l0 :: l1 :: l2 :: l3 :: some (vI x) :: t) st n g h) : WP M Q pc (l0 :: l1 :: l2 :: l3 :: u :: t) (vI x :: st) n g h := wp_istore 4 hs trivial rfl hk hd k
theorem w_astore4 {l0 l1 l2 l3 : Option zv} {x : Nat} {u : Option zv} {t : List (Option zv)} (hd : decode M.2.1 pc = .ok (.astore 4, 2)) (hs : zsafe l3 = true) (hk : 4 < M.2.2.1) (k : WP M Q (pc + 2) (l0 :: l1 :: l2 :: l3 :: some (vR x) :: t) st n g h) : WP M Q pc (l0 :: l1 :: l2 :: l3 :: u :: t) (vR x :: st) n g h := wp_astore 4 hs trivial rfl hk hd k
theorem w_iinc4 {l0 l1 l2 l3 : Option zv} {x c : Int} {t : List (Option zv)} (hd : decode M.2.1 pc = .ok (.iinc 4 c, 3)) (hs : zsafe l3 = true) (hk : 4 < M.2.2.1) (k : WP M Q (pc + 3) (l0 :: l1 :: l2 :: l3 :: some (vI (x + c)) :: t) st n g h) : WP M Q pc (l0 :: l1 :: l2 :: l3 :: some (vI x) :: t) st n g h := wp_iinc 4 rfl hs rfl hk hd k
theorem w_forget4 {l0 l1 l2 l3 : Option zv} {u : Option zv} {t : List (Option zv)} (k : WP M Q pc (l0 :: l1 :: l2 :: l3 :: none :: t) st n g h) : WP M Q pc (l0 :: l1 :: l2 :: l3 :: u :: t) st n g h := wp_forget 4 rfl k
theorem w_iload5 {l0 l1 l2 l3 l4 : Option zv} {x : Int} {t : List (Option zv)} (hd : decode M.2.1 pc = .ok (.iload 5, 2)) (k : WP M Q (pc + 2) (l0 :: l1 :: l2 :: l3 :: l4 :: some (vI x) :: t) (vI x :: st) n g h) : WP M Q pc (l0 :: l1 :: l2 :: l3 :: l4 :: some (vI x) :: t) st n g h := wp_iload 5 rfl hd k
theorem w_aload5 {l0 l1 l2 l3 l4 : Option zv} {x : Nat} {t : List (Option zv)} (hd : decode M.2.1 pc = .ok (.aload 5, 2)) (k : WP M Q (pc + 2) (l0 :: l1 :: l2 :: l3 :: l4 :: some (vR x) :: t) (vR x :: st) n g h) : WP M Q pc (l0 :: l1 :: l2 :: l3 :: l4 :: some (vR x) :: t) st n g h := wp_aload 5 rfl hd k
theorem w_istore5 {l0 l1 l2 l3 l4 : Option zv} {x : Int} {u : Option zv} {t : List (Option zv)} (hd : decode M.2.1 pc = .ok (.istore 5, 2)) (hs : zsafe l4 = true) (hk : 5 < M.2.2.1) (k : WP M Q (pc + 2) (l0 :: l1 :: l2 :: l3 :: l4 :: some (vI x) :: t) st n g h) : WP M Q pc (l0 :: l1 :: l2 :: l3 :: l4 :: u :: t) (vI x :: st) n g h := wp_istore 5 hs trivial rfl hk hd k
theorem w_astore5 {l0 l1 l2 l3 l4 : Option zv} {x : Nat} {u : Option zv} {t : List (Option zv)} (hd : decode M.2.1 pc = .ok (.astore 5, 2)) (hs : zsafe l4 = true) (hk : 5 < M.2.2.1) (k : WP M Q (pc + 2) (l0 :: l1 :: l2 :: l3 :: l4 :: some (vR x) :: t) st n g h) : WP M Q pc (l0 :: l1 :: l2 :: l3 :: l4 :: u :: t) (vR x :: st) n g h := wp_astore 5 hs trivial rfl hk hd k
theorem w_iinc5 {l0 l1 l2 l3 l4 : Option zv} {x c : Int} {t : List (Option zv)} (hd : decode M.2.1 pc = .ok (.iinc 5 c, 3)) (hs : zsafe l4 = true) (hk : 5 < M.2.2.1) (k : WP M Q (pc + 3) (l0 :: l1 :: l2 :: l3 :: l4 :: some (vI (x + c)) :: t) st n g h) : WP M Q pc (l0 :: l1 :: l2 :: l3 :: l4 :: some (vI x) :: t) st n g h := wp_iinc 5 rfl hs rfl hk hd k
theorem w_forget5 {l0 l1 l2 l3 l4 : Option zv} {u : Option zv} {t : List (Option zv)} (k : WP M Q pc (l0 :: l1 :: l2 :: l3 :: l4 :: none :: t) st n g h) : WP M Q pc (l0 :: l1 :: l2 :: l3 :: l4 :: u :: t) st n g h := wp_forget 5 rfl k
theorem w_iload6 {l0 l1 l2 l3 l4 l5 : Option zv} {x : Int} {t : List (Option zv)} (hd : decode M.2.1 pc = .ok (.iload 6, 2)) (k : WP M Q (pc + 2) (l0 :: l1 :: l2 :: l3 :: l4 :: l5 :: some (vI x) :: t) (vI x :: st) n g h) : WP M Q pc (l0 :: l1 :: l2 :: l3 :: l4 :: l5 :: some (vI x) :: t) st n g h := wp_iload 6 rfl hd k
theorem w_aload6 {l0 l1 l2 l3 l4 l5 : Option zv} {x : Nat} {t : List (Option zv)} (hd : decode M.2.1 pc = .ok (.aload 6, 2)) (k : WP M Q (pc + 2) (l0 :: l1 :: l2 :: l3 :: l4 :: l5 :: some (vR x) :: t) (vR x :: st) n g h) : WP M Q pc (l0 :: l1 :: l2 :: l3 :: l4 :: l5 :: some (vR x) :: t) st n g h := wp_aload 6 rfl hd k
theorem w_istore6 {l0 l1 l2 l3 l4 l5 : Option zv} {x : Int} {u : Option zv} {t : List (Option zv)} (hd : decode M.2.1 pc = .ok (.istore 6, 2)) (hs : zsafe l5 = true) (hk : 6 < M.2.2.1) (k : WP M Q (pc + 2) (l0 :: l1 :: l2 :: l3 :: l4 :: l5 :: some (vI x) :: t) st n g h) : WP M Q pc (l0 :: l1 :: l2 :: l3 :: l4 :: l5 :: u :: t) (vI x :: st) n g h := wp_istore 6 hs trivial rfl hk hd k
theorem w_astore6 {l0 l1 l2 l3 l4 l5 : Option zv} {x : Nat} {u : Option zv} {t : List (Option zv)} (hd : decode M.2.1 pc = .ok (.astore 6, 2)) (hs : zsafe l5 = true) (hk : 6 < M.2.2.1) (k : WP M Q (pc + 2) (l0 :: l1 :: l2 :: l3 :: l4 :: l5 :: some (vR x) :: t) st n g h) : WP M Q pc (l0 :: l1 :: l2 :: l3 :: l4 :: l5 :: u :: t) (vR x :: st) n g h := wp_astore 6 hs trivial rfl hk hd k
theorem w_iinc6 {l0 l1 l2 l3 l4 l5 : Option zv} {x c : Int} {t : List (Option zv)} (hd : decode M.2.1 pc = .ok (.iinc 6 c, 3)) (hs : zsafe l5 = true) (hk : 6 < M.2.2.1) (k : WP M Q (pc + 3) (l0 :: l1 :: l2 :: l3 :: l4 :: l5 :: some (vI (x + c)) :: t) st n g h) : WP M Q pc (l0 :: l1 :: l2 :: l3 :: l4 :: l5 :: some (vI x) :: t) st n g h := wp_iinc 6 rfl hs rfl hk hd k
theorem w_forget6 {l0 l1 l2 l3 l4 l5 : Option zv} {u : Option zv} {t : List (Option zv)} (k : WP M Q pc (l0 :: l1 :: l2 :: l3 :: l4 :: l5 :: none :: t) st n g h) : WP M Q pc (l0 :: l1 :: l2 :: l3 :: l4 :: l5 :: u :: t) st n g h := wp_forget 6 rfl k
theorem w_iload7 {l0 l1 l2 l3 l4 l5 l6 : Option zv} {x : Int} {t : List (Option zv)} (hd : decode M.2.1 pc = .ok (.iload 7, 2)) (k : WP M Q (pc + 2) (l0 :: l1 :: l2 :: l3 :: l4 :: l5 :: l6 :: some (vI x) :: t) (vI x :: st) n g h) : WP M Q pc (l0 :: l1 :: l2 :: l3 :: l4 :: l5 :: l6 :: some (vI x) :: t) st n g h := wp_iload 7 rfl hd k
theorem w_aload7 {l0 l1 l2 l3 l4 l5 l6 : Option zv} {x : Nat} {t : List (Option zv)} (hd : decode M.2.1 pc = .ok (.aload 7, 2)) (k : WP M Q (pc + 2) (l0 :: l1 :: l2 :: l3 :: l4 :: l5 :: l6 :: some (vR x) :: t) (vR x :: st) n g h) : WP M Q pc (l0 :: l1 :: l2 :: l3 :: l4 :: l5 :: l6 :: some (vR x) :: t) st n g h := wp_aload 7 rfl hd k
theorem w_istore7 {l0 l1 l2 l3 l4 l5 l6 : Option zv} {x : Int} {u : Option zv} {t : List (Option zv)} (hd : decode M.2.1 pc = .ok (.istore 7, 2)) (hs : zsafe l6 = true) (hk : 7 < M.2.2.1) (k : WP M Q (pc + 2) (l0 :: l1 :: l2 :: l3 :: l4 :: l5 :: l6 :: some (vI x) :: t) st n g h) : WP M Q pc (l0 :: l1 :: l2 :: l3 :: l4 :: l5 :: l6 :: u :: t) (vI x :: st) n g h := wp_istore 7 hs trivial rfl hk hd k
theorem w_astore7 {l0 l1 l2 l3 l4 l5 l6 : Option zv} {x : Nat} {u : Option zv} {t : List (Option zv)} (hd : decode M.2.1 pc = .ok (.astore 7, 2)) (hs : zsafe l6 = true) (hk : 7 < M.2.2.1) (k : WP M Q (pc + 2) (l0 :: l1 :: l2 :: l3 :: l4 :: l5 :: l6 :: some (vR x) :: t) st n g h) : WP M Q pc (l0 :: l1 :: l2 :: l3 :: l4 :: l5 :: l6 :: u :: t) (vR x :: st) n g h := wp_astore 7 hs trivial rfl hk hd k
theorem w_iinc7 {l0 l1 l2 l3 l4 l5 l6 : Option zv} {x c : Int} {t : List (Option zv)} (hd : decode M.2.1 pc = .ok (.iinc 7 c, 3)) (hs : zsafe l6 = true) (hk : 7 < M.2.2.1) (k : WP M Q (pc + 3) (l0 :: l1 :: l2 :: l3 :: l4 :: l5 :: l6 :: some (vI (x + c)) :: t) st n g h) : WP M Q pc (l0 :: l1 :: l2 :: l3 :: l4 :: l5 :: l6 :: some (vI x) :: t) st n g h := wp_iinc 7 rfl hs rfl hk hd k
theorem w_forget7 {l0 l1 l2 l3 l4 l5 l6 : Option zv} {u : Option zv} {t : List (Option zv)} (k : WP M Q pc (l0 :: l1 :: l2 :: l3 :: l4 :: l5 :: l6 :: none :: t) st n g h) : WP M Q pc (l0 :: l1 :: l2 :: l3 :: l4 :: l5 :: l6 :: u :: t) st n g h := wp_forget 7 rfl k
theorem w_iload8 {l0 l1 l2 l3 l4 l5 l6 l7 : Option zv} {x : Int} {t : List (Option zv)} (hd : decode M.2.1 pc = .ok (.iload 8, 2)) (k : WP M Q (pc + 2) (l0 :: l1 :: l2 :: l3 :: l4 :: l5 :: l6 :: l7 :: some (vI x) :: t) (vI x :: st) n g h) : WP M Q pc (l0 :: l1 :: l2 :: l3 :: l4 :: l5 :: l6 :: l7 :: some (vI x) :: t) st n g h := wp_iload 8 rfl hd k
theorem w_aload8 {l0 l1 l2 l3 l4 l5 l6 l7 : Option zv} {x : Nat} {t : List (Option zv)} (hd : decode M.2.1 pc = .ok (.aload 8, 2)) (k : WP M Q (pc + 2) (l0 :: l1 :: l2 :: l3 :: l4 :: l5 :: l6 :: l7 :: some (vR x) :: t) (vR x :: st) n g h) : WP M Q pc (l0 :: l1 :: l2 :: l3 :: l4 :: l5 :: l6 :: l7 :: some (vR x) :: t) st n g h := wp_aload 8 rfl hd k
theorem w_istore8 {l0 l1 l2 l3 l4 l5 l6 l7 : Option zv} {x : Int} {u : Option zv} {t : List (Option zv)} (hd : decode M.2.1 pc = .ok (.istore 8, 2)) (hs : zsafe l7 = true) (hk : 8 < M.2.2.1) (k : WP M Q (pc + 2) (l0 :: l1 :: l2 :: l3 :: l4 :: l5 :: l6 :: l7 :: some (vI x) :: t) st n g h) : WP M Q pc (l0 :: l1 :: l2 :: l3 :: l4 :: l5 :: l6 :: l7 :: u :: t) (vI x :: st) n g h := wp_istore 8 hs trivial rfl hk hd k
theorem w_astore8 {l0 l1 l2 l3 l4 l5 l6 l7 : Option zv} {x : Nat} {u : Option zv} {t : List (Option zv)} (hd : decode M.2.1 pc = .ok (.astore 8, 2)) (hs : zsafe l7 = true) (hk : 8 < M.2.2.1) (k : WP M Q (pc + 2) (l0 :: l1 :: l2 :: l3 :: l4 :: l5 :: l6 :: l7 :: some (vR x) :: t) st n g h) : WP M Q pc (l0 :: l1 :: l2 :: l3 :: l4 :: l5 :: l6 :: l7 :: u :: t) (vR x :: st) n g h := wp_astore 8 hs trivial rfl hk hd k
theorem w_iinc8 {l0 l1 l2 l3 l4 l5 l6 l7 : Option zv} {x c : Int} {t : List (Option zv)} (hd : decode M.2.1 pc = .ok (.iinc 8 c, 3)) (hs : zsafe l7 = true) (hk : 8 < M.2.2.1) (k : WP M Q (pc + 3) (l0 :: l1 :: l2 :: l3 :: l4 :: l5 :: l6 :: l7 :: some (vI (x + c)) :: t) st n g h) : WP M Q pc (l0 :: l1 :: l2 :: l3 :: l4 :: l5 :: l6 :: l7 :: some (vI x) :: t) st n g h := wp_iinc 8 rfl hs rfl hk hd k
theorem w_forget8 {l0 l1 l2 l3 l4 l5 l6 l7 : Option zv} {u : Option zv} {t : List (Option zv)} (k : WP M Q pc (l0 :: l1 :: l2 :: l3 :: l4 :: l5 :: l6 :: l7 :: none :: t) st n g h) : WP M Q pc (l0 :: l1 :: l2 :: l3 :: l4 :: l5 :: l6 :: l7 :: u :: t) st n g h := wp_forget 8 rfl k
theorem w_iload9 {l0 l1 l2 l3 l4 l5 l6 l7 l8 : Option zv} {x : Int} {t : List (Option zv)} (hd : decode M.2.1 pc = .ok (.iload 9, 2)) (k : WP M Q (pc + 2) (l0 :: l1 :: l2 :: l3 :: l4 :: l5 :: l6 :: l7 :: l8 :: some (vI x) :: t) (vI x :: st) n g h) : WP M Q pc (l0 :: l1 :: l2 :: l3 :: l4 :: l5 :: l6 :: l7 :: l8 :: some (vI x) :: t) st n g h := wp_iload 9 rfl hd k
theorem w_aload9 {l0 l1 l2 l3 l4 l5 l6 l7 l8 : Option zv} {x : Nat} {t : List (Option zv)} (hd : decode M.2.1 pc = .ok (.aload 9, 2)) (k : WP M Q (pc + 2) (l0 :: l1 :: l2 :: l3 :: l4 :: l5 :: l6 :: l7 :: l8 :: some (vR x) :: t) (vR x :: st) n g h) : WP M Q pc (l0 :: l1 :: l2 :: l3 :: l4 :: l5 :: l6 :: l7 :: l8 :: some (vR x) :: t) st n g h := wp_aload 9 rfl hd k
theorem w_istore9 {l0 l1 l2 l3 l4 l5 l6 l7 l8 : Option zv} {x : Int} {u : Option zv} {t : List (Option zv)} (hd : decode M.2.1 pc = .ok (.istore 9, 2)) (hs : zsafe l8 = true) (hk : 9 < M.2.2.1) (k : WP M Q (pc + 2) (l0 :: l1 :: l2 :: l3 :: l4 :: l5 :: l6 :: l7 :: l8 :: some (vI x) :: t) st n g h) : WP M Q pc (l0 :: l1 :: l2 :: l3 :: l4 :: l5 :: l6 :: l7 :: l8 :: u :: t) (vI x :: st) n g h := wp_istore 9 hs trivial rfl hk hd k
theorem w_astore9 {l0 l1 l2 l3 l4 l5 l6 l7 l8 : Option zv} {x : Nat} {u : Option zv} {t : List (Option zv)} (hd : decode M.2.1 pc = .ok (.astore 9, 2)) (hs : zsafe l8 = true) (hk : 9 < M.2.2.1) (k : WP M Q (pc + 2) (l0 :: l1 :: l2 :: l3 :: l4 :: l5 :: l6 :: l7 :: l8 :: some (vR x) :: t) st n g h) : WP M Q pc (l0 :: l1 :: l2 :: l3 :: l4 :: l5 :: l6 :: l7 :: l8 :: u :: t) (vR x :: st) n g h := wp_astore 9 hs trivial rfl hk hd k
theorem w_iinc9 {l0 l1 l2 l3 l4 l5 l6 l7 l8 : Option zv} {x c : Int} {t : List (Option zv)} (hd : decode M.2.1 pc = .ok (.iinc 9 c, 3)) (hs : zsafe l8 = true) (hk : 9 < M.2.2.1) (k : WP M Q (pc + 3) (l0 :: l1 :: l2 :: l3 :: l4 :: l5 :: l6 :: l7 :: l8 :: some (vI (x + c)) :: t) st n g h) : WP M Q pc (l0 :: l1 :: l2 :: l3 :: l4 :: l5 :: l6 :: l7 :: l8 :: some (vI x) :: t) st n g h := wp_iinc 9 rfl hs rfl hk hd k
theorem w_forget9 {l0 l1 l2 l3 l4 l5 l6 l7 l8 : Option zv} {u : Option zv} {t : List (Option zv)} (k : WP M Q pc (l0 :: l1 :: l2 :: l3 :: l4 :: l5 :: l6 :: l7 :: l8 :: none :: t) st n g h) : WP M Q pc (l0 :: l1 :: l2 :: l3 :: l4 :: l5 :: l6 :: l7 :: l8 :: u :: t) st n g h := wp_forget 9 rfl k
theorem w_iload10 {l0 l1 l2 l3 l4 l5 l6 l7 l8 l9 : Option zv} {x : Int} {t : List (Option zv)} (hd : decode M.2.1 pc = .ok (.iload 10, 2)) (k : WP M Q (pc + 2) (l0 :: l1 :: l2 :: l3 :: l4 :: l5 :: l6 :: l7 :: l8 :: l9 :: some (vI x) :: t) (vI x :: st) n g h) : WP M Q pc (l0 :: l1 :: l2 :: l3 :: l4 :: l5 :: l6 :: l7 :: l8 :: l9 :: some (vI x) :: t) st n g h := wp_iload 10 rfl hd k
theorem w_aload10 {l0 l1 l2 l3 l4 l5 l6 l7 l8 l9 : Option zv} {x : Nat} {t : List (Option zv)} (hd : decode M.2.1 pc = .ok (.aload 10, 2)) (k : WP M Q (pc + 2) (l0 :: l1 :: l2 :: l3 :: l4 :: l5 :: l6 :: l7 :: l8 :: l9 :: some (vR x) :: t) (vR x :: st) n g h) : WP M Q pc (l0 :: l1 :: l2 :: l3 :: l4 :: l5 :: l6 :: l7 :: l8 :: l9 :: some (vR x) :: t) st n g h := wp_aload 10 rfl hd k
theorem w_istore10 {l0 l1 l2 l3 l4 l5 l6 l7 l8 l9 : Option zv} {x : Int} {u : Option zv} {t : List (Option zv)} (hd : decode M.2.1 pc = .ok (.istore 10, 2)) (hs : zsafe l9 = true) (hk : 10 < M.2.2.1) (k : WP M Q (pc + 2) (l0 :: l1 :: l2 :: l3 :: l4 :: l5 :: l6 :: l7 :: l8 :: l9 :: some (vI x) :: t) st n g h) : WP M Q pc (l0 :: l1 :: l2 :: l3 :: l4 :: l5 :: l6 :: l7 :: l8 :: l9 :: u :: t) (vI x :: st) n g h := wp_istore 10 hs trivial rfl hk hd k
theorem w_astore10 {l0 l1 l2 l3 l4 l5 l6 l7 l8 l9 : Option zv} {x : Nat} {u : Option zv} {t : List (Option zv)} (hd : decode M.2.1 pc = .ok (.astore 10, 2)) (hs : zsafe l9 = true) (hk : 10 < M.2.2.1) (k : WP M Q (pc + 2) (l0 :: l1 :: l2 :: l3 :: l4 :: l5 :: l6 :: l7 :: l8 :: l9 :: some (vR x) :: t) st n g h) : WP M Q pc (l0 :: l1 :: l2 :: l3 :: l4 :: l5 :: l6 :: l7 :: l8 :: l9 :: u :: t) (vR x :: st) n g h := wp_astore 10 hs trivial rfl hk hd k
theorem w_iinc10 {l0 l1 l2 l3 l4 l5 l6 l7 l8 l9 : Option zv} {x c : Int} {t : List (Option zv)} (hd : decode M.2.1 pc = .ok (.iinc 10 c, 3)) (hs : zsafe l9 = true) (hk : 10 < M.2.2.1) (k : WP M Q (pc + 3) (l0 :: l1 :: l2 :: l3 :: l4 :: l5 :: l6 :: l7 :: l8 :: l9 :: some (vI (x + c)) :: t) st n g h) : WP M Q pc (l0 :: l1 :: l2 :: l3 :: l4 :: l5 :: l6 :: l7 :: l8 :: l9 :: some (vI x) :: t) st n g h := wp_iinc 10 rfl hs rfl hk hd k
theorem w_forget10 {l0 l1 l2 l3 l4 l5 l6 l7 l8 l9 : Option zv} {u : Option zv} {t : List (Option zv)} (k : WP M Q pc (l0 :: l1 :: l2 :: l3 :: l4 :: l5 :: l6 :: l7 :: l8 :: l9 :: none :: t) st n g h) : WP M Q pc (l0 :: l1 :: l2 :: l3 :: l4 :: l5 :: l6 :: l7 :: l8 :: l9 :: u :: t) st n g h := wp_forget 10 rfl k
theorem w_iload11 {l0 l1 l2 l3 l4 l5 l6 l7 l8 l9 l10 : Option zv} {x : Int} {t : List (Option zv)} (hd : decode M.2.1 pc = .ok (.iload 11, 2)) (k : WP M Q (pc + 2) (l0 :: l1 :: l2 :: l3 :: l4 :: l5 :: l6 :: l7 :: l8 :: l9 :: l10 :: some (vI x) :: t) (vI x :: st) n g h) : WP M Q pc (l0 :: l1 :: l2 :: l3 :: l4 :: l5 :: l6 :: l7 :: l8 :: l9 :: l10 :: some (vI x) :: t) st n g h := wp_iload 11 rfl hd k
theorem w_aload11 {l0 l1 l2 l3 l4 l5 l6 l7 l8 l9 l10 : Option zv} {x : Nat} {t : List (Option zv)} (hd : decode M.2.1 pc = .ok (.aload 11, 2)) (k : WP M Q (pc + 2) (l0 :: l1 :: l2 :: l3 :: l4 :: l5 :: l6 :: l7 :: l8 :: l9 :: l10 :: some (vR x) :: t) (vR x :: st) n g h) : WP M Q pc (l0 :: l1 :: l2 :: l3 :: l4 :: l5 :: l6 :: l7 :: l8 :: l9 :: l10 :: some (vR x) :: t) st n g h := wp_aload 11 rfl hd k
theorem w_istore11 {l0 l1 l2 l3 l4 l5 l6 l7 l8 l9 l10 : Option zv} {x : Int} {u : Option zv} {t : List (Option zv)} (hd : decode M.2.1 pc = .ok (.istore 11, 2)) (hs : zsafe l10 = true) (hk : 11 < M.2.2.1) (k : WP M Q (pc + 2) (l0 :: l1 :: l2 :: l3 :: l4 :: l5 :: l6 :: l7 :: l8 :: l9 :: l10 :: some (vI x) :: t) st n g h) : WP M Q pc (l0 :: l1 :: l2 :: l3 :: l4 :: l5 :: l6 :: l7 :: l8 :: l9 :: l10 :: u :: t) (vI x :: st) n g h := wp_istore 11 hs trivial rfl hk hd k
theorem w_astore11 {l0 l1 l2 l3 l4 l5 l6 l7 l8 l9 l10 : Option zv} {x : Nat} {u : Option zv} {t : List (Option zv)} (hd : decode M.2.1 pc = .ok (.astore 11, 2)) (hs : zsafe l10 = true) (hk : 11 < M.2.2.1) (k : WP M Q (pc + 2) (l0 :: l1 :: l2 :: l3 :: l4 :: l5 :: l6 :: l7 :: l8 :: l9 :: l10 :: some (vR x) :: t) st n g h) : WP M Q pc (l0 :: l1 :: l2 :: l3 :: l4 :: l5 :: l6 :: l7 :: l8 :: l9 :: l10 :: u :: t) (vR x :: st) n g h := wp_astore 11 hs trivial rfl hk hd k
theorem w_iinc11 {l0 l1 l2 l3 l4 l5 l6 l7 l8 l9 l10 : Option zv} {x c : Int} {t : List (Option zv)} (hd : decode M.2.1 pc = .ok (.iinc 11 c, 3)) (hs : zsafe l10 = true) (hk : 11 < M.2.2.1) (k : WP M Q (pc + 3) (l0 :: l1 :: l2 :: l3 :: l4 :: l5 :: l6 :: l7 :: l8 :: l9 :: l10 :: some (vI (x + c)) :: t) st n g h) : WP M Q pc (l0 :: l1 :: l2 :: l3 :: l4 :: l5 :: l6 :: l7 :: l8 :: l9 :: l10 :: some (vI x) :: t) st n g h := wp_iinc 11 rfl hs rfl hk hd k
theorem w_forget11 {l0 l1 l2 l3 l4 l5 l6 l7 l8 l9 l10 : Option zv} {u : Option zv} {t : List (Option zv)} (k : WP M Q pc (l0 :: l1 :: l2 :: l3 :: l4 :: l5 :: l6 :: l7 :: l8 :: l9 :: l10 :: none :: t) st n g h) : WP M Q pc (l0 :: l1 :: l2 :: l3 :: l4 :: l5 :: l6 :: l7 :: l8 :: l9 :: l10 :: u :: t) st n g h := wp_forget 11 rfl k
theorem w_iload12 {l0 l1 l2 l3 l4 l5 l6 l7 l8 l9 l10 l11 : Option zv} {x : Int} {t : List (Option zv)} (hd : decode M.2.1 pc = .ok (.iload 12, 2)) (k : WP M Q (pc + 2) (l0 :: l1 :: l2 :: l3 :: l4 :: l5 :: l6 :: l7 :: l8 :: l9 :: l10 :: l11 :: some (vI x) :: t) (vI x :: st) n g h) : WP M Q pc (l0 :: l1 :: l2 :: l3 :: l4 :: l5 :: l6 :: l7 :: l8 :: l9 :: l10 :: l11 :: some (vI x) :: t) st n g h := wp_iload 12 rfl hd k
theorem w_aload12 {l0 l1 l2 l3 l4 l5 l6 l7 l8 l9 l10 l11 : Option zv} {x : Nat} {t : List (Option zv)} (hd : decode M.2.1 pc = .ok (.aload 12, 2)) (k : WP M Q (pc + 2) (l0 :: l1 :: l2 :: l3 :: l4 :: l5 :: l6 :: l7 :: l8 :: l9 :: l10 :: l11 :: some (vR x) :: t) (vR x :: st) n g h) : WP M Q pc (l0 :: l1 :: l2 :: l3 :: l4 :: l5 :: l6 :: l7 :: l8 :: l9 :: l10 :: l11 :: some (vR x) :: t) st n g h := wp_aload 12 rfl hd k
theorem w_istore12 {l0 l1 l2 l3 l4 l5 l6 l7 l8 l9 l10 l11 : Option zv} {x : Int} {u : Option zv} {t : List (Option zv)} (hd : decode M.2.1 pc = .ok (.istore 12, 2)) (hs : zsafe l11 = true) (hk : 12 < M.2.2.1) (k : WP M Q (pc + 2) (l0 :: l1 :: l2 :: l3 :: l4 :: l5 :: l6 :: l7 :: l8 :: l9 :: l10 :: l11 :: some (vI x) :: t) st n g h) : WP M Q pc (l0 :: l1 :: l2 :: l3 :: l4 :: l5 :: l6 :: l7 :: l8 :: l9 :: l10 :: l11 :: u :: t) (vI x :: st) n g h := wp_istore 12 hs trivial rfl hk hd k
theorem w_astore12 {l0 l1 l2 l3 l4 l5 l6 l7 l8 l9 l10 l11 : Option zv} {x : Nat} {u : Option zv} {t : List (Option zv)} (hd : decode M.2.1 pc = .ok (.astore 12, 2)) (hs : zsafe l11 = true) (hk : 12 < M.2.2.1) (k : WP M Q (pc + 2) (l0 :: l1 :: l2 :: l3 :: l4 :: l5 :: l6 :: l7 :: l8 :: l9 :: l10 :: l11 :: some (vR x) :: t) st n g h) : WP M Q pc (l0 :: l1 :: l2 :: l3 :: l4 :: l5 :: l6 :: l7 :: l8 :: l9 :: l10 :: l11 :: u :: t) (vR x :: st) n g h := wp_astore 12 hs trivial rfl hk hd k
theorem w_iinc12 {l0 l1 l2 l3 l4 l5 l6 l7 l8 l9 l10 l11 : Option zv} {x c : Int} {t : List (Option zv)} (hd : decode M.2.1 pc = .ok (.iinc 12 c, 3)) (hs : zsafe l11 = true) (hk : 12 < M.2.2.1) (k : WP M Q (pc + 3) (l0 :: l1 :: l2 :: l3 :: l4 :: l5 :: l6 :: l7 :: l8 :: l9 :: l10 :: l11 :: some (vI (x + c)) :: t) st n g h) : WP M Q pc (l0 :: l1 :: l2 :: l3 :: l4 :: l5 :: l6 :: l7 :: l8 :: l9 :: l10 :: l11 :: some (vI x) :: t) st n g h := wp_iinc 12 rfl hs rfl hk hd k
theorem w_forget12 {l0 l1 l2 l3 l4 l5 l6 l7 l8 l9 l10 l11 : Option zv} {u : Option zv} {t : List (Option zv)} (k : WP M Q pc (l0 :: l1 :: l2 :: l3 :: l4 :: l5 :: l6 :: l7 :: l8 :: l9 :: l10 :: l11 :: none :: t) st n g h) : WP M Q pc (l0 :: l1 :: l2 :: l3 :: l4 :: l5 :: l6 :: l7 :: l8 :: l9 :: l10 :: l11 :: u :: t) st n g h := wp_forget 12 rfl k
end
