/-! ===== THE LAW: its cases, 4 ===== -/
section K_LL4
variable {E : k_E} {dp k n : Nat} {sh : List k_Sh} {σ τ : Nat → Nat → Int} {v w : Nat} {i : Int} {Q : k_Q}
theorem dL_law_44 : decode cL_law 44 = .ok (.tableswitch 3028 0 53 #[232, 288, 356, 369, 425, 481, 494, 562, 630, 705, 773, 853, 897, 910, 978, 1046, 1102, 1170, 1226, 1294, 1362, 1418, 1431, 1487, 1543, 1599, 1662, 1725, 1738, 1803, 1871, 1939, 2007, 2075, 2155, 2199, 2243, 2299, 2355, 2423, 2498, 2511, 2524, 2537, 2581, 2637, 2693, 2751, 2795, 2839, 2883, 2927, 2971, 2984], 232) := by decide +kernel
abbrev k_QL : k_Q := fun r _ _ => r = .inl (some (.int (iI 1)))
theorem c_lawL (hL : k_L E ≤ 2048) (hdp : 21 ≤ dp) : ∀ (f : Nat) (i : Int) (sh : List k_Sh) (σ : Nat → Nat → Int), 0 ≤ i → i ≤ 4096 → (k_L E : Int) - 4 < i + 4 * f → k_Inv sh σ → k_V E mL_law dp 28 (k_lsL i) [] sh σ f (f * 142) k_QL := by
  intro f
  induction f with
  | zero =>
    intro i sh σ h0 h1 h2 hInv
    refine k_iload (by decide +kernel : decode cL_law 28 = .ok (.iload 5, 2)) 5 rfl ?_
    refine k_aload_n (i := 0) (by decide +kernel : decode cL_law 30 = .ok (.aload_n 0, 1)) 0 rfl rfl (by decide) ?_
    refine k_slen (by decide +kernel : decode cL_law 31 = .ok (.arraylength, 1)) ?_
    refine k_iconst (v := 4) (by decide +kernel : decode cL_law 32 = .ok (.iconst 4, 1)) rfl ?_
    refine k_isub (by decide +kernel : decode cL_law 33 = .ok (.isub, 1)) ?_
    refine k_icmp_gt (tgt := 3078) (by decide +kernel : decode cL_law 34 = .ok (.if_icmp .gt 3044, 3)) rfl ⟨by omega, by omega⟩ ⟨by omega, by omega⟩ (fun _ => ?_) (fun y => absurd y (by omega))
    refine k_iconst (v := 1) (by decide +kernel : decode cL_law 3078 = .ok (.iconst 1, 1)) rfl ?_
    exact k_ret_z (by decide +kernel : decode cL_law 3079 = .ok (.ireturn, 1)) rfl (k_nar_z (Or.inr rfl)) rfl
  | succ f ih =>
    intro i sh σ h0 h1 h2 hInv
    refine k_iload (by decide +kernel : decode cL_law 28 = .ok (.iload 5, 2)) 5 rfl ?_
    refine k_aload_n (i := 0) (by decide +kernel : decode cL_law 30 = .ok (.aload_n 0, 1)) 0 rfl rfl (by decide) ?_
    refine k_slen (by decide +kernel : decode cL_law 31 = .ok (.arraylength, 1)) ?_
    refine k_iconst (v := 4) (by decide +kernel : decode cL_law 32 = .ok (.iconst 4, 1)) rfl ?_
    refine k_isub (by decide +kernel : decode cL_law 33 = .ok (.isub, 1)) ?_
    refine k_icmp_gt (tgt := 3078) (by decide +kernel : decode cL_law 34 = .ok (.if_icmp .gt 3044, 3)) rfl ⟨by omega, by omega⟩ ⟨by omega, by omega⟩ (fun _ => ?_) (fun hi => ?_)
    · refine k_iconst (v := 1) (by decide +kernel : decode cL_law 3078 = .ok (.iconst 1, 1)) rfl ?_
      exact k_ret_z (by decide +kernel : decode cL_law 3079 = .ok (.ireturn, 1)) rfl (k_nar_z (Or.inr rfl)) rfl
    have hi3 : 0 ≤ i ∧ i + 3 < k_L E := ⟨h0, by omega⟩
    have kk : k_KK E dp i f (f * 142) k_QL := fun sh' υ hv => by
      refine k_iinc (ls' := k_lsL (i + 4)) (by decide +kernel : decode cL_law 3072 = .ok (.iinc 5 4, 3)) 5 rfl (by decide) rfl rfl ?_
      refine k_goto (tgt := 28) (by decide +kernel : decode cL_law 3075 = .ok (.goto (-3047), 3)) rfl ?_
      exact ih (i + 4) sh' υ (by omega) (by omega) (by omega) hv
    refine k_less (k' := f + 1) (n' := f * 142 + 142) (Nat.le_refl _) (by omega) ?_
    refine k_aload_n (i := 0) (by decide +kernel : decode cL_law 37 = .ok (.aload_n 0, 1)) 0 rfl rfl (by decide) ?_
    refine k_iload (by decide +kernel : decode cL_law 38 = .ok (.iload 5, 2)) 5 rfl ?_
    refine k_sld (by decide +kernel : decode cL_law 40 = .ok (.iaload, 1)) h0 (by omega) hL ?_
    refine k_bipush (v := 63) (by decide +kernel : decode cL_law 41 = .ok (.bipush 63, 2)) (by decide) ?_
    obtain ⟨z, hz⟩ : ∃ z : Int32, z = iI (k_xs E i.toNat).toInt &&& iI 63 := ⟨_, rfl⟩
    have hzr := k_r_toInt z
    refine k_iand (v := iI z.toInt) (by decide +kernel : decode cL_law 43 = .ok (.iand, 1)) (by rw [← iI_of z, hz]) ?_
    generalize z.toInt = c at hzr ⊢
    obtain ⟨v, w, hI⟩ := hInv
    have hI : k_In3 sh v w σ := hI
    by_cases hc : 0 ≤ c ∧ c ≤ 53
    · have hc2 : c = 0 ∨ c = 1 ∨ c = 2 ∨ c = 3 ∨ c = 4 ∨ c = 5 ∨ c = 6 ∨ c = 7 ∨ c = 8 ∨ c = 9 ∨ c = 10 ∨ c = 11 ∨ c = 12 ∨ c = 13 ∨ c = 14 ∨ c = 15 ∨ c = 16 ∨ c = 17 ∨ c = 18 ∨ c = 19 ∨ c = 20 ∨ c = 21 ∨ c = 22 ∨ c = 23 ∨ c = 24 ∨ c = 25 ∨ c = 26 ∨ c = 27 ∨ c = 28 ∨ c = 29 ∨ c = 30 ∨ c = 31 ∨ c = 32 ∨ c = 33 ∨ c = 34 ∨ c = 35 ∨ c = 36 ∨ c = 37 ∨ c = 38 ∨ c = 39 ∨ c = 40 ∨ c = 41 ∨ c = 42 ∨ c = 43 ∨ c = 44 ∨ c = 45 ∨ c = 46 ∨ c = 47 ∨ c = 48 ∨ c = 49 ∨ c = 50 ∨ c = 51 ∨ c = 52 ∨ c = 53 := by omega
      rcases hc2 with rfl | rfl | rfl | rfl | rfl | rfl | rfl | rfl | rfl | rfl | rfl | rfl | rfl | rfl | rfl | rfl | rfl | rfl | rfl | rfl | rfl | rfl | rfl | rfl | rfl | rfl | rfl | rfl | rfl | rfl | rfl | rfl | rfl | rfl | rfl | rfl | rfl | rfl | rfl | rfl | rfl | rfl | rfl | rfl | rfl | rfl | rfl | rfl | rfl | rfl | rfl | rfl | rfl | rfl
      · exact k_tableIn (off := 232) (tgt := 276) dL_law_44 ⟨by decide, by decide⟩ (by decide) (by decide) rfl rfl (lc_0 hI hi3 hL hdp kk)
      · exact k_tableIn (off := 288) (tgt := 332) dL_law_44 ⟨by decide, by decide⟩ (by decide) (by decide) rfl rfl (lc_1 hI hi3 hL hdp kk)
      · exact k_tableIn (off := 356) (tgt := 400) dL_law_44 ⟨by decide, by decide⟩ (by decide) (by decide) rfl rfl (lc_2 hI hi3 hL hdp kk)
      · exact k_tableIn (off := 369) (tgt := 413) dL_law_44 ⟨by decide, by decide⟩ (by decide) (by decide) rfl rfl (lc_3 hI hi3 hL hdp kk)
      · exact k_tableIn (off := 425) (tgt := 469) dL_law_44 ⟨by decide, by decide⟩ (by decide) (by decide) rfl rfl (lc_4 hI hi3 hL hdp kk)
      · exact k_tableIn (off := 481) (tgt := 525) dL_law_44 ⟨by decide, by decide⟩ (by decide) (by decide) rfl rfl (lc_5 hI hi3 hL hdp kk)
      · exact k_tableIn (off := 494) (tgt := 538) dL_law_44 ⟨by decide, by decide⟩ (by decide) (by decide) rfl rfl (lc_6 hI hi3 hL hdp kk)
      · exact k_tableIn (off := 562) (tgt := 606) dL_law_44 ⟨by decide, by decide⟩ (by decide) (by decide) rfl rfl (lc_7 hI hi3 hL hdp kk)
      · exact k_tableIn (off := 630) (tgt := 674) dL_law_44 ⟨by decide, by decide⟩ (by decide) (by decide) rfl rfl (lc_8 hI hi3 hL hdp kk)
      · exact k_tableIn (off := 705) (tgt := 749) dL_law_44 ⟨by decide, by decide⟩ (by decide) (by decide) rfl rfl (lc_9 hI hi3 hL hdp kk)
      · exact k_tableIn (off := 773) (tgt := 817) dL_law_44 ⟨by decide, by decide⟩ (by decide) (by decide) rfl rfl (lc_10 hI hi3 hL hdp kk)
      · exact k_tableIn (off := 853) (tgt := 897) dL_law_44 ⟨by decide, by decide⟩ (by decide) (by decide) rfl rfl (lc_11 hI hi3 hL hdp kk)
      · exact k_tableIn (off := 897) (tgt := 941) dL_law_44 ⟨by decide, by decide⟩ (by decide) (by decide) rfl rfl (lc_12 hI hi3 hL hdp kk)
      · exact k_tableIn (off := 910) (tgt := 954) dL_law_44 ⟨by decide, by decide⟩ (by decide) (by decide) rfl rfl (lc_13 hI hi3 hL hdp kk)
      · exact k_tableIn (off := 978) (tgt := 1022) dL_law_44 ⟨by decide, by decide⟩ (by decide) (by decide) rfl rfl (lc_14 hI hi3 hL hdp kk)
      · exact k_tableIn (off := 1046) (tgt := 1090) dL_law_44 ⟨by decide, by decide⟩ (by decide) (by decide) rfl rfl (lc_15 hI hi3 hL hdp kk)
      · exact k_tableIn (off := 1102) (tgt := 1146) dL_law_44 ⟨by decide, by decide⟩ (by decide) (by decide) rfl rfl (lc_16 hI hi3 hL hdp kk)
      · exact k_tableIn (off := 1170) (tgt := 1214) dL_law_44 ⟨by decide, by decide⟩ (by decide) (by decide) rfl rfl (lc_17 hI hi3 hL hdp kk)
      · exact k_tableIn (off := 1226) (tgt := 1270) dL_law_44 ⟨by decide, by decide⟩ (by decide) (by decide) rfl rfl (lc_18 hI hi3 hL hdp kk)
      · exact k_tableIn (off := 1294) (tgt := 1338) dL_law_44 ⟨by decide, by decide⟩ (by decide) (by decide) rfl rfl (lc_19 hI hi3 hL hdp kk)
      · exact k_tableIn (off := 1362) (tgt := 1406) dL_law_44 ⟨by decide, by decide⟩ (by decide) (by decide) rfl rfl (lc_20 hI hi3 hL hdp kk)
      · exact k_tableIn (off := 1418) (tgt := 1462) dL_law_44 ⟨by decide, by decide⟩ (by decide) (by decide) rfl rfl (lc_21 hI hi3 hL hdp kk)
      · exact k_tableIn (off := 1431) (tgt := 1475) dL_law_44 ⟨by decide, by decide⟩ (by decide) (by decide) rfl rfl (lc_22 hI hi3 hL hdp kk)
      · exact k_tableIn (off := 1487) (tgt := 1531) dL_law_44 ⟨by decide, by decide⟩ (by decide) (by decide) rfl rfl (lc_23 hI hi3 hL hdp kk)
      · exact k_tableIn (off := 1543) (tgt := 1587) dL_law_44 ⟨by decide, by decide⟩ (by decide) (by decide) rfl rfl (lc_24 hI hi3 hL hdp kk)
      · exact k_tableIn (off := 1599) (tgt := 1643) dL_law_44 ⟨by decide, by decide⟩ (by decide) (by decide) rfl rfl (lc_25 hI hi3 hL hdp kk)
      · exact k_tableIn (off := 1662) (tgt := 1706) dL_law_44 ⟨by decide, by decide⟩ (by decide) (by decide) rfl rfl (lc_26 hI hi3 hL hdp kk)
      · exact k_tableIn (off := 1725) (tgt := 1769) dL_law_44 ⟨by decide, by decide⟩ (by decide) (by decide) rfl rfl (lc_27 hI hi3 hL hdp kk)
      · exact k_tableIn (off := 1738) (tgt := 1782) dL_law_44 ⟨by decide, by decide⟩ (by decide) (by decide) rfl rfl (lc_28 hI hi3 hL hdp kk)
      · exact k_tableIn (off := 1803) (tgt := 1847) dL_law_44 ⟨by decide, by decide⟩ (by decide) (by decide) rfl rfl (lc_29 hI hi3 hL hdp kk)
      · exact k_tableIn (off := 1871) (tgt := 1915) dL_law_44 ⟨by decide, by decide⟩ (by decide) (by decide) rfl rfl (lc_30 hI hi3 hL hdp kk)
      · exact k_tableIn (off := 1939) (tgt := 1983) dL_law_44 ⟨by decide, by decide⟩ (by decide) (by decide) rfl rfl (lc_31 hI hi3 hL hdp kk)
      · exact k_tableIn (off := 2007) (tgt := 2051) dL_law_44 ⟨by decide, by decide⟩ (by decide) (by decide) rfl rfl (lc_32 hI hi3 hL hdp kk)
      · exact k_tableIn (off := 2075) (tgt := 2119) dL_law_44 ⟨by decide, by decide⟩ (by decide) (by decide) rfl rfl (lc_33 hI hi3 hL hdp kk)
      · exact k_tableIn (off := 2155) (tgt := 2199) dL_law_44 ⟨by decide, by decide⟩ (by decide) (by decide) rfl rfl (lc_34 hI hi3 hL hdp kk)
      · exact k_tableIn (off := 2199) (tgt := 2243) dL_law_44 ⟨by decide, by decide⟩ (by decide) (by decide) rfl rfl (lc_35 hI hi3 hL hdp kk)
      · exact k_tableIn (off := 2243) (tgt := 2287) dL_law_44 ⟨by decide, by decide⟩ (by decide) (by decide) rfl rfl (lc_36 hI hi3 hL hdp kk)
      · exact k_tableIn (off := 2299) (tgt := 2343) dL_law_44 ⟨by decide, by decide⟩ (by decide) (by decide) rfl rfl (lc_37 hI hi3 hL hdp kk)
      · exact k_tableIn (off := 2355) (tgt := 2399) dL_law_44 ⟨by decide, by decide⟩ (by decide) (by decide) rfl rfl (lc_38 hI hi3 hL hdp kk)
      · exact k_tableIn (off := 2423) (tgt := 2467) dL_law_44 ⟨by decide, by decide⟩ (by decide) (by decide) rfl rfl (lc_39 hI hi3 hL hdp kk)
      · exact k_tableIn (off := 2498) (tgt := 2542) dL_law_44 ⟨by decide, by decide⟩ (by decide) (by decide) rfl rfl (lc_40 hI hi3 hL hdp kk)
      · exact k_tableIn (off := 2511) (tgt := 2555) dL_law_44 ⟨by decide, by decide⟩ (by decide) (by decide) rfl rfl (lc_41 hI hi3 hL hdp kk)
      · exact k_tableIn (off := 2524) (tgt := 2568) dL_law_44 ⟨by decide, by decide⟩ (by decide) (by decide) rfl rfl (lc_42 hI hi3 hL hdp kk)
      · exact k_tableIn (off := 2537) (tgt := 2581) dL_law_44 ⟨by decide, by decide⟩ (by decide) (by decide) rfl rfl (lc_43 hI hi3 hL hdp kk)
      · exact k_tableIn (off := 2581) (tgt := 2625) dL_law_44 ⟨by decide, by decide⟩ (by decide) (by decide) rfl rfl (lc_44 hI hi3 hL hdp kk)
      · exact k_tableIn (off := 2637) (tgt := 2681) dL_law_44 ⟨by decide, by decide⟩ (by decide) (by decide) rfl rfl (lc_45 hI hi3 hL hdp kk)
      · exact k_tableIn (off := 2693) (tgt := 2737) dL_law_44 ⟨by decide, by decide⟩ (by decide) (by decide) rfl rfl (lc_46 hI hi3 hL hdp kk)
      · exact k_tableIn (off := 2751) (tgt := 2795) dL_law_44 ⟨by decide, by decide⟩ (by decide) (by decide) rfl rfl (lc_47 hI hi3 hL hdp kk)
      · exact k_tableIn (off := 2795) (tgt := 2839) dL_law_44 ⟨by decide, by decide⟩ (by decide) (by decide) rfl rfl (lc_48 hI hi3 hL hdp kk)
      · exact k_tableIn (off := 2839) (tgt := 2883) dL_law_44 ⟨by decide, by decide⟩ (by decide) (by decide) rfl rfl (lc_49 hI hi3 hL hdp kk)
      · exact k_tableIn (off := 2883) (tgt := 2927) dL_law_44 ⟨by decide, by decide⟩ (by decide) (by decide) rfl rfl (lc_50 hI hi3 hL hdp kk)
      · exact k_tableIn (off := 2927) (tgt := 2971) dL_law_44 ⟨by decide, by decide⟩ (by decide) (by decide) rfl rfl (lc_51 hI hi3 hL hdp kk)
      · exact k_tableIn (off := 2971) (tgt := 3015) dL_law_44 ⟨by decide, by decide⟩ (by decide) (by decide) rfl rfl (lc_52 hI hi3 hL hdp kk)
      · exact k_tableIn (off := 2984) (tgt := 3028) dL_law_44 ⟨by decide, by decide⟩ (by decide) (by decide) rfl rfl (lc_53 hI hi3 hL hdp kk)
    · refine k_tableOut (tgt := 3072) dL_law_44 hzr (by omega) rfl ?_
      exact k_less (Nat.le_succ f) (by omega) (kk _ _ ⟨v, w, hI⟩)
end K_LL4
