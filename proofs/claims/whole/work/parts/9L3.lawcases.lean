/-! ===== THE LAW: its cases, 3 ===== -/
section K_LL3
variable {E : k_E} {dp k n : Nat} {sh : List k_Sh} {σ τ : Nat → Nat → Int} {v w : Nat} {i : Int} {Q : k_Q}
theorem lc_41 (hI : k_In3 sh v w σ) (hi : 0 ≤ i ∧ i + 3 < k_L E) (hL : k_L E ≤ 2048) (hdp : 21 ≤ dp) (kk : k_KK E dp i k n Q) : k_V E mL_law dp 2555 (k_lsL i) [] sh σ (k + 1) (n + 142) Q :=
  law_N (idx := 308) (idx8 := 311) (off := 509) (by (repeat' apply And.intro) <;> decide +kernel) (by decide) ⟨⟨oX7_leastClashes, rfl, w_558, w_559, w_560, rfl⟩, oX8_leastClashes, rfl, w_2212, w_2213, w_2214, rfl⟩ hI.main hdp (st_leastClashes hI) kk
theorem lc_42 (hI : k_In3 sh v w σ) (hi : 0 ≤ i ∧ i + 3 < k_L E) (hL : k_L E ≤ 2048) (hdp : 21 ≤ dp) (kk : k_KK E dp i k n Q) : k_V E mL_law dp 2568 (k_lsL i) [] sh σ (k + 1) (n + 142) Q :=
  law_N (idx := 312) (idx8 := 315) (off := 496) (by (repeat' apply And.intro) <;> decide +kernel) (by decide) ⟨⟨oX7_leastClashesByTrial, rfl, w_586, w_587, w_588, rfl⟩, oX8_leastClashesByTrial, rfl, w_2220, w_2221, w_2222, rfl⟩ hI.main hdp (st_leastClashesByTrial hI) kk
theorem lc_43 (hI : k_In3 sh v w σ) (hi : 0 ≤ i ∧ i + 3 < k_L E) (hL : k_L E ≤ 2048) (hdp : 21 ≤ dp) (kk : k_KK E dp i k n Q) : k_V E mL_law dp 2581 (k_lsL i) [] sh σ (k + 1) (n + 142) Q := by
  exact law_C0 (idx := 316) (idx8 := 318) (off := 450) (by (repeat' apply And.intro) <;> decide +kernel) (by decide) ⟨⟨oL_arrange, ⟨_, _, rfl⟩, w_1286, w_1287⟩, oX8_arrange, rfl, w_2224, w_2225, w_2226, rfl⟩ hI.main hi hL hdp (st_arrange hI) kk
theorem lc_44 (hI : k_In3 sh v w σ) (hi : 0 ≤ i ∧ i + 3 < k_L E) (hL : k_L E ≤ 2048) (hdp : 21 ≤ dp) (kk : k_KK E dp i k n Q) : k_V E mL_law dp 2625 (k_lsL i) [] sh σ (k + 1) (n + 142) Q := by
  exact law_C1 (idx := 319) (idx8 := 321) (off := 394) (by (repeat' apply And.intro) <;> decide +kernel) (by decide) ⟨⟨oL_writeTimetable, ⟨_, _, rfl⟩, w_1293, w_1294⟩, oX8_writeTimetable, rfl, w_2232, w_2233, w_2234, rfl⟩ hI.main hi hL hdp (st_writeTimetable hI (sx_r i 1)) kk
theorem lc_45 (hI : k_In3 sh v w σ) (hi : 0 ≤ i ∧ i + 3 < k_L E) (hL : k_L E ≤ 2048) (hdp : 21 ≤ dp) (kk : k_KK E dp i k n Q) : k_V E mL_law dp 2681 (k_lsL i) [] sh σ (k + 1) (n + 142) Q := by
  exact law_C1 (idx := 322) (idx8 := 324) (off := 338) (by (repeat' apply And.intro) <;> decide +kernel) (by decide) ⟨⟨oL_lineAt, ⟨_, _, rfl⟩, w_1579, w_1580⟩, oX8_lineAt, rfl, w_2240, w_2241, w_2242, rfl⟩ hI.main hi hL hdp (st_lineAt hI (sx_r i 1)) kk
theorem lc_46 (hI : k_In3 sh v w σ) (hi : 0 ≤ i ∧ i + 3 < k_L E) (hL : k_L E ≤ 2048) (hdp : 21 ≤ dp) (kk : k_KK E dp i k n Q) : k_V E mL_law dp 2737 (k_lsL i) [] sh σ (k + 1) (n + 142) Q := by
  obtain ⟨c0, e0, h0⟩ := c16 (iI (sx E i 1))
  exact law_K1 (idx := 325) (idx8 := 328) (off := 280) (by (repeat' apply And.intro) <;> decide +kernel) (by decide) ⟨⟨oL_type, ⟨_, _, rfl⟩, w_1596, w_1597⟩, oX8_type, rfl, w_2244, w_2245, w_2246, rfl⟩ hI.main hi hL hdp e0 (st_type hI h0) kk
theorem lc_47 (hI : k_In3 sh v w σ) (hi : 0 ≤ i ∧ i + 3 < k_L E) (hL : k_L E ≤ 2048) (hdp : 21 ≤ dp) (kk : k_KK E dp i k n Q) : k_V E mL_law dp 2795 (k_lsL i) [] sh σ (k + 1) (n + 142) Q := by
  exact law_C0 (idx := 329) (idx8 := 331) (off := 236) (by (repeat' apply And.intro) <;> decide +kernel) (by decide) ⟨⟨oL_execute, ⟨_, _, rfl⟩, w_1605, w_1606⟩, oX8_execute, rfl, w_2248, w_2249, w_2250, rfl⟩ hI.main hi hL hdp (st_execute hI) kk
theorem lc_48 (hI : k_In3 sh v w σ) (hi : 0 ≤ i ∧ i + 3 < k_L E) (hL : k_L E ≤ 2048) (hdp : 21 ≤ dp) (kk : k_KK E dp i k n Q) : k_V E mL_law dp 2839 (k_lsL i) [] sh σ (k + 1) (n + 142) Q := by
  exact law_C0 (idx := 332) (idx8 := 334) (off := 192) (by (repeat' apply And.intro) <;> decide +kernel) (by decide) ⟨⟨oL_errorPosition, ⟨_, _, rfl⟩, w_1682, w_1683⟩, oX8_errorPosition, rfl, w_2270, w_2271, w_2272, rfl⟩ hI.main hi hL hdp (st_errorPosition hI) kk
theorem lc_49 (hI : k_In3 sh v w σ) (hi : 0 ≤ i ∧ i + 3 < k_L E) (hL : k_L E ≤ 2048) (hdp : 21 ≤ dp) (kk : k_KK E dp i k n Q) : k_V E mL_law dp 2883 (k_lsL i) [] sh σ (k + 1) (n + 142) Q := by
  exact law_C0 (idx := 335) (idx8 := 337) (off := 148) (by (repeat' apply And.intro) <;> decide +kernel) (by decide) ⟨⟨oL_failedCommand, ⟨_, _, rfl⟩, w_1689, w_1690⟩, oX8_failedCommand, rfl, w_2274, w_2275, w_2276, rfl⟩ hI.main hi hL hdp (st_failedCommand hI) kk
theorem lc_50 (hI : k_In3 sh v w σ) (hi : 0 ≤ i ∧ i + 3 < k_L E) (hL : k_L E ≤ 2048) (hdp : 21 ≤ dp) (kk : k_KK E dp i k n Q) : k_V E mL_law dp 2927 (k_lsL i) [] sh σ (k + 1) (n + 142) Q := by
  exact law_C0 (idx := 338) (idx8 := 340) (off := 104) (by (repeat' apply And.intro) <;> decide +kernel) (by decide) ⟨⟨oL_failureKind, ⟨_, _, rfl⟩, w_1696, w_1697⟩, oX8_failureKind, rfl, w_2278, w_2279, w_2280, rfl⟩ hI.main hi hL hdp (st_failureKind hI) kk
theorem lc_51 (hI : k_In3 sh v w σ) (hi : 0 ≤ i ∧ i + 3 < k_L E) (hL : k_L E ≤ 2048) (hdp : 21 ≤ dp) (kk : k_KK E dp i k n Q) : k_V E mL_law dp 2971 (k_lsL i) [] sh σ (k + 1) (n + 142) Q := by
  exact law_C0 (idx := 341) (idx8 := 343) (off := 60) (by (repeat' apply And.intro) <;> decide +kernel) (by decide) ⟨⟨oL_undo, ⟨_, _, rfl⟩, w_1703, w_1704⟩, oX8_undo, rfl, w_1846, w_1847, w_1848, rfl⟩ hI.main hi hL hdp (st_undo hI) kk
theorem lc_52 (hI : k_In3 sh v w σ) (hi : 0 ≤ i ∧ i + 3 < k_L E) (hL : k_L E ≤ 2048) (hdp : 21 ≤ dp) (kk : k_KK E dp i k n Q) : k_V E mL_law dp 3015 (k_lsL i) [] sh σ (k + 1) (n + 142) Q :=
  law_N (idx := 344) (idx8 := 347) (off := 49) (by (repeat' apply And.intro) <;> decide +kernel) (by decide) ⟨⟨oX7_save, rfl, w_598, w_599, w_600, rfl⟩, oX8_save, rfl, w_1858, w_1859, w_1860, rfl⟩ hI.main hdp (st_save hI) kk
theorem lc_53 (hI : k_In3 sh v w σ) (hi : 0 ≤ i ∧ i + 3 < k_L E) (hL : k_L E ≤ 2048) (hdp : 21 ≤ dp) (kk : k_KK E dp i k n Q) : k_V E mL_law dp 3028 (k_lsL i) [] sh σ (k + 1) (n + 142) Q := by
  exact law_C0 (idx := 348) (idx8 := 350) (off := 3) (by (repeat' apply And.intro) <;> decide +kernel) (by decide) ⟨⟨oL_restore, ⟨_, _, rfl⟩, w_1715, w_1716⟩, oX8_restore, rfl, w_1865, w_1866, w_1867, rfl⟩ hI.main hi hL hdp (st_restore hI) kk
end K_LL3
