set_option maxRecDepth 100000 in
set_option maxHeartbeats 4000000 in
theorem law_loop {L : Nat} {xs : Nat → Int32} (hL : L ≤ 3584) : ∀ (m i : Nat) (s : zS) (h : zH), L + 7 - i = m → i ≤ L + 7 → zBo s h → WP (mlaw L xs) zLQ 18 [some (vR 1000), some (vR 1), some (vR 445), some (vI (i : Int))] [] zN zGR h := by
  intro m
  induction m using Nat.strongRecOn with
  | _ m ih =>
    intro i s h hm hi Bo
    refine w_iload3 dL_law_18 (w_aload0 dL_law_19 (wp_slen dL_law_20 (wp_bipush dL_law_21 (by decide) (wp_isub dL_law_23 ?_))))
    refine wp_icmp_gt 1383 dL_law_24 rfl ⟨by omega, by omega⟩ ⟨by omega, by omega⟩ (fun c24 => ?_) (fun c24 => ?_)
    · refine wp_iconst dL_law_1383 ?_
      exact wp_lend dL_law_1384 zN_le zSL_N
    · have hi7 : i + 7 ≤ L := by omega
      have hk : ∀ (s : zS) (h : zH), zBo s h → WP (mlaw L xs) zLQ 1377 [some (vR 1000), some (vR 1), some (vR 445), some (vI (i : Int))] [] zN zGR h := fun s h Bo => by
        refine w_iinc3 dL_law_1377 rfl (show 3 < 4 by decide) (wp_goto 18 dL_law_1380 rfl ?_)
        have e : ((i : Int) + 7) = ((i + 7 : Nat) : Int) := by omega
        rw [e]
        exact ih (L + 7 - (i + 7)) (by omega) (i + 7) s h rfl (by omega) Bo
      refine w_aload0 dL_law_27 (w_iload3 dL_law_28 (wp_sld dL_law_29 ⟨by omega, by omega⟩ hL (wp_bipush dL_law_30 (by decide) (wp_iandA dL_law_32 (fun v hv => ?_)))))
      obtain ⟨p, c, hs, tx, T⟩ := s
      obtain ⟨H, V⟩ := Bo
      by_cases co : v < 0 ∨ 37 < v
      · refine wp_tswOut 1377 dL_law_33 hv co rfl ?_
        exact hk (p, c, hs, tx, T) h ⟨H, V⟩
      rcases (show v = 0 ∨ v = 1 ∨ v = 2 ∨ v = 3 ∨ v = 4 ∨ v = 5 ∨ v = 6 ∨ v = 7 ∨ v = 8 ∨ v = 9 ∨ v = 10 ∨ v = 11 ∨ v = 12 ∨ v = 13 ∨ v = 14 ∨ v = 15 ∨ v = 16 ∨ v = 17 ∨ v = 18 ∨ v = 19 ∨ v = 20 ∨ v = 21 ∨ v = 22 ∨ v = 23 ∨ v = 24 ∨ v = 25 ∨ v = 26 ∨ v = 27 ∨ v = 28 ∨ v = 29 ∨ v = 30 ∨ v = 31 ∨ v = 32 ∨ v = 33 ∨ v = 34 ∨ v = 35 ∨ v = 36 ∨ v = 37 by omega) with rfl | rfl | rfl | rfl | rfl | rfl | rfl | rfl | rfl | rfl | rfl | rfl | rfl | rfl | rfl | rfl | rfl | rfl | rfl | rfl | rfl | rfl | rfl | rfl | rfl | rfl | rfl | rfl | rfl | rfl | rfl | rfl | rfl | rfl | rfl | rfl | rfl | rfl
      · exact wp_tswIn 200 dL_law_33 hv (by decide) (by decide) rfl rfl (law_0 hL hi7 H V hk)
      · exact wp_tswIn 223 dL_law_33 hv (by decide) (by decide) rfl rfl (law_1 hL hi7 H V hk)
      · exact wp_tswIn 246 dL_law_33 hv (by decide) (by decide) rfl rfl (law_2 hL hi7 H V hk)
      · exact wp_tswIn 259 dL_law_33 hv (by decide) (by decide) rfl rfl (law_3 hL hi7 H V hk)
      · exact wp_tswIn 282 dL_law_33 hv (by decide) (by decide) rfl rfl (law_4 hL hi7 H V hk)
      · exact wp_tswIn 345 dL_law_33 hv (by decide) (by decide) rfl rfl (law_5 hL hi7 H V hk)
      · exact wp_tswIn 398 dL_law_33 hv (by decide) (by decide) rfl rfl (law_6 hL hi7 H V hk)
      · exact wp_tswIn 461 dL_law_33 hv (by decide) (by decide) rfl rfl (law_7 hL hi7 H V hk)
      · exact wp_tswIn 504 dL_law_33 hv (by decide) (by decide) rfl rfl (law_8 hL hi7 H V hk)
      · exact wp_tswIn 537 dL_law_33 hv (by decide) (by decide) rfl rfl (law_9 hL hi7 H V hk)
      · exact wp_tswIn 612 dL_law_33 hv (by decide) (by decide) rfl rfl (law_10 hL hi7 H V hk)
      · exact wp_tswIn 635 dL_law_33 hv (by decide) (by decide) rfl rfl (law_11 hL hi7 H V hk)
      · exact wp_tswIn 688 dL_law_33 hv (by decide) (by decide) rfl rfl (law_12 hL hi7 H V hk)
      · exact wp_tswIn 721 dL_law_33 hv (by decide) (by decide) rfl rfl (law_13 hL hi7 H V hk)
      · exact wp_tswIn 764 dL_law_33 hv (by decide) (by decide) rfl rfl (law_14 hL hi7 H V hk)
      · exact wp_tswIn 777 dL_law_33 hv (by decide) (by decide) rfl rfl (law_15 hL hi7 H V hk)
      · exact wp_tswIn 790 dL_law_33 hv (by decide) (by decide) rfl rfl (law_16 hL hi7 H V hk)
      · exact wp_tswIn 833 dL_law_33 hv (by decide) (by decide) rfl rfl (law_17 hL hi7 H V hk)
      · exact wp_tswIn 876 dL_law_33 hv (by decide) (by decide) rfl rfl (law_18 hL hi7 H V hk)
      · exact wp_tswIn 899 dL_law_33 hv (by decide) (by decide) rfl rfl (law_19 hL hi7 H V hk)
      · exact wp_tswIn 912 dL_law_33 hv (by decide) (by decide) rfl rfl (law_20 hL hi7 H V hk)
      · exact wp_tswIn 925 dL_law_33 hv (by decide) (by decide) rfl rfl (law_21 hL hi7 H V hk)
      · exact wp_tswIn 964 dL_law_33 hv (by decide) (by decide) rfl rfl (law_22 hL hi7 H V hk)
      · exact wp_tswIn 977 dL_law_33 hv (by decide) (by decide) rfl rfl (law_23 hL hi7 H V hk)
      · exact wp_tswIn 990 dL_law_33 hv (by decide) (by decide) rfl rfl (law_24 hL hi7 H V hk)
      · exact wp_tswIn 1029 dL_law_33 hv (by decide) (by decide) rfl rfl (law_25 hL hi7 H V hk)
      · exact wp_tswIn 1078 dL_law_33 hv (by decide) (by decide) rfl rfl (law_26 hL hi7 H V hk)
      · exact wp_tswIn 1127 dL_law_33 hv (by decide) (by decide) rfl rfl (law_27 hL hi7 H V hk)
      · exact wp_tswIn 1150 dL_law_33 hv (by decide) (by decide) rfl rfl (law_28 hL hi7 H V hk)
      · exact wp_tswIn 1163 dL_law_33 hv (by decide) (by decide) rfl rfl (law_29 hL hi7 H V hk)
      · exact wp_tswIn 1186 dL_law_33 hv (by decide) (by decide) rfl rfl (law_30 hL hi7 H V hk)
      · exact wp_tswIn 1219 dL_law_33 hv (by decide) (by decide) rfl rfl (law_31 hL hi7 H V hk)
      · exact wp_tswIn 1232 dL_law_33 hv (by decide) (by decide) rfl rfl (law_32 hL hi7 H V hk)
      · exact wp_tswIn 1255 dL_law_33 hv (by decide) (by decide) rfl rfl (law_33 hL hi7 H V hk)
      · exact wp_tswIn 1304 dL_law_33 hv (by decide) (by decide) rfl rfl (law_34 hL hi7 H V hk)
      · exact wp_tswIn 1327 dL_law_33 hv (by decide) (by decide) rfl rfl (law_35 hL hi7 H V hk)
      · exact wp_tswIn 1340 dL_law_33 hv (by decide) (by decide) rfl rfl (law_36 hL hi7 H V hk)
      · exact wp_tswIn 1363 dL_law_33 hv (by decide) (by decide) rfl rfl (law_37 hL hi7 H V hk)
