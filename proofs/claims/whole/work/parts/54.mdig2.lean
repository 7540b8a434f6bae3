
theorem zcount_iV {p : Int} {c : Nat → Nat → Int} {hs : List (Int × (Nat → Nat → Int))} {tx : Nat → Int} {L : Nat} {h : zH} (W : zVd p c hs tx L h) (w : Int) : zin (zcount (p, c, hs, tx, L) w) := by
  have hp := W.1.p.2
  have a1 := zgd_le c 0
  have a2 := zgd_le c 1
  have a3 := W.2.2.2.1.2.1
  have a4 := W.2.2.1.1.2.1
  have a5 := ztot_in c
  have a6 := zpairs_in hp (c := c)
  have a7 := W.1.p.1
  unfold zcount
  try dsimp only
  unfold zin
  repeat' split
  all_goals omega

