/-! ===== THE LAW: its cases, its loop ===== -/
section K_LL
variable {E : k_E} {dp k n : Nat} {sh : List k_Sh} {σ τ : Nat → Nat → Int} {v w : Nat} {i : Int} {Q : k_Q}
theorem c16 (x : Int32) : ∃ c0 : Int, (x.toUInt32 % 65536).toInt32 = iI c0 ∧ 0 ≤ c0 ∧ c0 < 65536 := by
  refine ⟨((x.toUInt32 % 65536).toNat : Int), ?_, by omega, ?_⟩
  · apply Int32.toInt_inj.mp
    have h : (x.toUInt32 % 65536).toNat < 65536 := by
      rw [UInt32.toNat_mod]
      exact Nat.mod_lt _ (by decide)
    rw [iI_toInt ⟨by omega, by omega⟩]
    generalize (x.toUInt32 % 65536) = y at h
    have h2 : y.toInt32.toInt = (y.toNat : Int) := BitVec.toInt_eq_toNat_of_lt (x := y.toBitVec) (show 2 * y.toNat < 2 ^ 32 by omega)
    exact h2
  · have h : (x.toUInt32 % 65536).toNat < 65536 := by
      rw [UInt32.toNat_mod]
      exact Nat.mod_lt _ (by decide)
    omega
abbrev k_KK (E : k_E) (dp : Nat) (i : Int) (k n : Nat) (Q : k_Q) : Prop := ∀ sh' υ, k_Inv sh' υ → k_V E mL_law dp 3072 (k_lsL i) [] sh' υ k n Q
theorem lc_0 (hI : k_In3 sh v w σ) (hi : 0 ≤ i ∧ i + 3 < k_L E) (hL : k_L E ≤ 2048) (hdp : 21 ≤ dp) (kk : k_KK E dp i k n Q) : k_V E mL_law dp 276 (k_lsL i) [] sh σ (k + 1) (n + 142) Q := by
  exact law_C1 (idx := 169) (idx8 := 174) (off := 2743) (by (repeat' apply And.intro) <;> decide +kernel) (by decide) ⟨⟨oL_addSubject, ⟨_, _, rfl⟩, w_603, w_604⟩, oX8_addSubject, rfl, w_1869, w_1870, w_1871, rfl⟩ hI.main hi hL hdp (st_addSubject hI (sx_r i 1)) kk
theorem lc_1 (hI : k_In3 sh v w σ) (hi : 0 ≤ i ∧ i + 3 < k_L E) (hL : k_L E ≤ 2048) (hdp : 21 ≤ dp) (kk : k_KK E dp i k n Q) : k_V E mL_law dp 332 (k_lsL i) [] sh σ (k + 1) (n + 142) Q := by
  exact law_C2 (idx := 178) (idx8 := 181) (off := 2675) (by (repeat' apply And.intro) <;> decide +kernel) (by decide) ⟨⟨oL_setSize, ⟨_, _, rfl⟩, w_893, w_894⟩, oX8_setSize, rfl, w_1892, w_1893, w_1894, rfl⟩ hI.main hi hL hdp (st_setSize hI (sx_r i 1) (sx_r i 2)) kk
theorem lc_2 (hI : k_In3 sh v w σ) (hi : 0 ≤ i ∧ i + 3 < k_L E) (hL : k_L E ≤ 2048) (hdp : 21 ≤ dp) (kk : k_KK E dp i k n Q) : k_V E mL_law dp 400 (k_lsL i) [] sh σ (k + 1) (n + 142) Q :=
  law_N (idx := 182) (idx8 := 185) (off := 2664) (by (repeat' apply And.intro) <;> decide +kernel) (by decide) ⟨⟨oX7_subjectCount, rfl, w_401, w_402, w_403, rfl⟩, oX8_subjectCount, rfl, w_1912, w_1913, w_1914, rfl⟩ hI.main hdp (st_subjectCount hI) kk
theorem lc_3 (hI : k_In3 sh v w σ) (hi : 0 ≤ i ∧ i + 3 < k_L E) (hL : k_L E ≤ 2048) (hdp : 21 ≤ dp) (kk : k_KK E dp i k n Q) : k_V E mL_law dp 413 (k_lsL i) [] sh σ (k + 1) (n + 142) Q := by
  exact law_C1 (idx := 186) (idx8 := 188) (off := 2606) (by (repeat' apply And.intro) <;> decide +kernel) (by decide) ⟨⟨oL_sizeOf, ⟨_, _, rfl⟩, w_936, w_937⟩, oX8_sizeOf, rfl, w_1916, w_1917, w_1918, rfl⟩ hI.main hi hL hdp (st_sizeOf hI (sx_r i 1)) kk
theorem lc_4 (hI : k_In3 sh v w σ) (hi : 0 ≤ i ∧ i + 3 < k_L E) (hL : k_L E ≤ 2048) (hdp : 21 ≤ dp) (kk : k_KK E dp i k n Q) : k_V E mL_law dp 469 (k_lsL i) [] sh σ (k + 1) (n + 142) Q := by
  exact law_C1 (idx := 189) (idx8 := 191) (off := 2550) (by (repeat' apply And.intro) <;> decide +kernel) (by decide) ⟨⟨oL_setBlockCount, ⟨_, _, rfl⟩, w_948, w_949⟩, oX8_setBlockCount, rfl, w_1920, w_1921, w_1922, rfl⟩ hI.main hi hL hdp (st_setBlockCount hI (sx_r i 1)) kk
theorem lc_5 (hI : k_In3 sh v w σ) (hi : 0 ≤ i ∧ i + 3 < k_L E) (hL : k_L E ≤ 2048) (hdp : 21 ≤ dp) (kk : k_KK E dp i k n Q) : k_V E mL_law dp 525 (k_lsL i) [] sh σ (k + 1) (n + 142) Q :=
  law_N (idx := 192) (idx8 := 195) (off := 2539) (by (repeat' apply And.intro) <;> decide +kernel) (by decide) ⟨⟨oX7_blockCount, rfl, w_405, w_406, w_407, rfl⟩, oX8_blockCount, rfl, w_1932, w_1933, w_1934, rfl⟩ hI.main hdp (st_blockCount hI) kk
theorem lc_6 (hI : k_In3 sh v w σ) (hi : 0 ≤ i ∧ i + 3 < k_L E) (hL : k_L E ≤ 2048) (hdp : 21 ≤ dp) (kk : k_KK E dp i k n Q) : k_V E mL_law dp 538 (k_lsL i) [] sh σ (k + 1) (n + 142) Q := by
  exact law_C2 (idx := 196) (idx8 := 198) (off := 2469) (by (repeat' apply And.intro) <;> decide +kernel) (by decide) ⟨⟨oL_openClass, ⟨_, _, rfl⟩, w_955, w_956⟩, oX8_openClass, rfl, w_1936, w_1937, w_1938, rfl⟩ hI.main hi hL hdp (st_openClass hI (sx_r i 1) (sx_r i 2)) kk
theorem lc_7 (hI : k_In3 sh v w σ) (hi : 0 ≤ i ∧ i + 3 < k_L E) (hL : k_L E ≤ 2048) (hdp : 21 ≤ dp) (kk : k_KK E dp i k n Q) : k_V E mL_law dp 606 (k_lsL i) [] sh σ (k + 1) (n + 142) Q := by
  exact law_C2 (idx := 199) (idx8 := 201) (off := 2401) (by (repeat' apply And.intro) <;> decide +kernel) (by decide) ⟨⟨oL_closeClass, ⟨_, _, rfl⟩, w_962, w_963⟩, oX8_closeClass, rfl, w_1952, w_1953, w_1954, rfl⟩ hI.main hi hL hdp (st_closeClass hI (sx_r i 1) (sx_r i 2)) kk
theorem lc_8 (hI : k_In3 sh v w σ) (hi : 0 ≤ i ∧ i + 3 < k_L E) (hL : k_L E ≤ 2048) (hdp : 21 ≤ dp) (kk : k_KK E dp i k n Q) : k_V E mL_law dp 674 (k_lsL i) [] sh σ (k + 1) (n + 142) Q := by
  exact law_B2 (idx := 202) (idx8 := 204) (off := 2326) (by (repeat' apply And.intro) <;> decide +kernel) (by decide) ⟨⟨oL_isOpen, ⟨_, _, rfl⟩, w_969, w_970⟩, oX8_isOpen, rfl, w_1960, w_1961, w_1962, rfl⟩ hI.main hi hL hdp (st_isOpen hI (sx_r i 1) (sx_r i 2)) kk
theorem lc_9 (hI : k_In3 sh v w σ) (hi : 0 ≤ i ∧ i + 3 < k_L E) (hL : k_L E ≤ 2048) (hdp : 21 ≤ dp) (kk : k_KK E dp i k n Q) : k_V E mL_law dp 749 (k_lsL i) [] sh σ (k + 1) (n + 142) Q := by
  exact law_C2 (idx := 205) (idx8 := 207) (off := 2258) (by (repeat' apply And.intro) <;> decide +kernel) (by decide) ⟨⟨oL_pupilsInClass, ⟨_, _, rfl⟩, w_978, w_979⟩, oX8_pupilsInClass, rfl, w_1964, w_1965, w_1966, rfl⟩ hI.main hi hL hdp (st_pupilsInClass hI (sx_r i 1) (sx_r i 2)) kk
theorem lc_10 (hI : k_In3 sh v w σ) (hi : 0 ≤ i ∧ i + 3 < k_L E) (hL : k_L E ≤ 2048) (hdp : 21 ≤ dp) (kk : k_KK E dp i k n Q) : k_V E mL_law dp 817 (k_lsL i) [] sh σ (k + 1) (n + 142) Q := by
  exact law_C3 (idx := 208) (idx8 := 211) (off := 2178) (by (repeat' apply And.intro) <;> decide +kernel) (by decide) ⟨⟨oL_pupilInClass, ⟨_, _, rfl⟩, w_987, w_988⟩, oX8_pupilInClass, rfl, w_1968, w_1969, w_1970, rfl⟩ hI.main hi hL hdp (st_pupilInClass hI (sx_r i 1) (sx_r i 2) (sx_r i 3)) kk
theorem lc_11 (hI : k_In3 sh v w σ) (hi : 0 ≤ i ∧ i + 3 < k_L E) (hL : k_L E ≤ 2048) (hdp : 21 ≤ dp) (kk : k_KK E dp i k n Q) : k_V E mL_law dp 897 (k_lsL i) [] sh σ (k + 1) (n + 142) Q := by
  exact law_C0 (idx := 212) (idx8 := 215) (off := 2134) (by (repeat' apply And.intro) <;> decide +kernel) (by decide) ⟨⟨oL_addPupil, ⟨_, _, rfl⟩, w_1015, w_1016⟩, oX8_addPupil, rfl, w_1972, w_1973, w_1974, rfl⟩ hI.main hi hL hdp (st_addPupil hI) kk
theorem lc_12 (hI : k_In3 sh v w σ) (hi : 0 ≤ i ∧ i + 3 < k_L E) (hL : k_L E ≤ 2048) (hdp : 21 ≤ dp) (kk : k_KK E dp i k n Q) : k_V E mL_law dp 941 (k_lsL i) [] sh σ (k + 1) (n + 142) Q :=
  law_N (idx := 216) (idx8 := 219) (off := 2123) (by (repeat' apply And.intro) <;> decide +kernel) (by decide) ⟨⟨oX7_pupilCount, rfl, w_409, w_410, w_411, rfl⟩, oX8_pupilCount, rfl, w_1980, w_1981, w_1982, rfl⟩ hI.main hdp (st_pupilCount hI) kk
theorem lc_13 (hI : k_In3 sh v w σ) (hi : 0 ≤ i ∧ i + 3 < k_L E) (hL : k_L E ≤ 2048) (hdp : 21 ≤ dp) (kk : k_KK E dp i k n Q) : k_V E mL_law dp 954 (k_lsL i) [] sh σ (k + 1) (n + 142) Q := by
  exact law_C2 (idx := 220) (idx8 := 222) (off := 2053) (by (repeat' apply And.intro) <;> decide +kernel) (by decide) ⟨⟨oL_addWish, ⟨_, _, rfl⟩, w_1022, w_1023⟩, oX8_addWish, rfl, w_1984, w_1985, w_1986, rfl⟩ hI.main hi hL hdp (st_addWish hI (sx_r i 1) (sx_r i 2)) kk
end K_LL
