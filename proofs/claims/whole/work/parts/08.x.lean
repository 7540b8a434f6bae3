section
variable {M : zM} {Q : zQT} {pc : Nat} {n : Nat} {ls : List (Option zv)} {st : List zv} {g : zG} {h : zH}
theorem x_iald {a N : Nat} {i : Int} (j : Nat) (hd : decode (zM_cc M) pc = .ok (.iaload, 1)) (hs : zIs n a (10, N)) (hj : i = (j : Int)) (hi : j < N) (kk : WP M Q (pc + 1) ls (vI (h a j) :: st) n g h) : WP M Q pc ls (vI i :: vR a :: st) n g h := by
  subst hj
  exact wp_iald hd hs (by omega) kk
theorem x_iast {a N : Nat} {i x : Int} (j : Nat) (hd : decode (zM_cc M) pc = .ok (.iastore, 1)) (hs : zIs n a (10, N)) (hj : i = (j : Int)) (hi : j < N) (kk : WP M Q (pc + 1) ls st n g (zup h a j x)) : WP M Q pc ls (vI x :: vI i :: vR a :: st) n g h := by
  subst hj
  exact wp_iast hd hs (by omega) kk
theorem x_aald {a k N : Nat} {i : Int} (j : Nat) (v : Nat) (hd : decode (zM_cc M) pc = .ok (.aaload, 1)) (hs : zIs n a (k, N)) (hk : k = 11 ∨ k = 12) (hj : i = (j : Int)) (hi : j < N) (hv : g a j = v) (kk : WP M Q (pc + 1) ls (vR v :: st) n g h) : WP M Q pc ls (vI i :: vR a :: st) n g h := by
  subst hj
  exact wp_aald v hd hs hk (by omega) hv kk
end
section
variable {M : zM} {Q : zQT} {pc : Nat} {ls : List (Option zv)} {st : List zv} {g : zG} {h : zH}
theorem x_mmax {x y : Int} {idx : Nat} (hd : decode (zM_cc M) pc = .ok (.invokestatic idx, 3)) (hlk : Cond.methodLink (zM_own M) idx yJ9_max_7cf53 ∈ zbig) (hx : zin x) (hy : zin y) (hdep : 0 < zM_d M) (hcat : zcat st ≤ 8) (he : zE M) (k : WP M Q (pc + 3) ls (vI (max x y) :: st) zN g h) : WP M Q pc ls (vI y :: vI x :: st) zN g h := by
  have h6 := zE_n he
  exact wp_mmax hd hlk hx hy hdep hcat ⟨by omega, by omega⟩ k
theorem x_mmin {x y : Int} {idx : Nat} (hd : decode (zM_cc M) pc = .ok (.invokestatic idx, 3)) (hlk : Cond.methodLink (zM_own M) idx yJ9_min_7cf53 ∈ zbig) (hx : zin x) (hy : zin y) (hdep : 0 < zM_d M) (hcat : zcat st ≤ 8) (he : zE M) (k : WP M Q (pc + 3) ls (vI (min x y) :: st) zN g h) : WP M Q pc ls (vI y :: vI x :: st) zN g h := by
  have h6 := zE_n he
  exact wp_mmin hd hlk hx hy hdep hcat ⟨by omega, by omega⟩ k
end
