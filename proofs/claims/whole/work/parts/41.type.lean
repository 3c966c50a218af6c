/-! ===== THE FACE: type; the text grows ===== -/
section K_TY
variable {E : k_E} {M M1 : k_M} {dp d1 pc k n k1 n1 na : Nat} {ls : List (Nat × Value)} {st as : List Value} {sh : List k_Sh} {σ σ' : Nat → Nat → Int} {Q Q1 : k_Q} {o : Option Value}
/-- the bytes of the builder a, moved from v to the new cell N -/
def u_gr (σ : Nat → Nat → Int) (a N v w : Nat) : Nat → Nat → Int := k_up (u_grow σ N v w) a (k_u1 (σ a) 0 (N : Int))
theorem k_SB_gr {a v w : Nat} (hB : k_SB sh σ a v w) (hN : sh.length < 900000) (hva : v < sh.length ∧ a < sh.length) (hw : w ≤ 99) (y : List k_Sh) (hy : y = sh ++ [.inl (2, 2 * w + 2)]) : k_SB y (u_gr σ a sh.length v w) a sh.length (2 * w + 2) := by
  subst hy
  obtain ⟨b0, b1, ⟨b2, b3, b4⟩, ⟨b5, b6, b7, b8⟩, b9⟩ := id hB
  have hne : ¬ sh.length = a := by omega
  refine ⟨by rw [List.getElem?_append_left hva.2]; exact b0, by rw [List.getElem?_append_right (Nat.le_refl _), Nat.sub_self]; rfl, ⟨b2, by omega, by omega⟩, ⟨?_, ?_, ?_, ?_⟩, ?_⟩
  · unfold u_gr; rw [k_up_same]; rfl
  · unfold u_gr; rw [k_up_same]; exact b6
  · unfold u_gr; rw [k_up_same]; exact b7
  · unfold u_gr; rw [k_up_same]; show σ a 3 ≤ _; omega
  · intro j
    unfold u_gr u_grow
    rw [k_up_ne hne, k_up_same]
    show 0 ≤ (if j < w then σ v j else 0) ∧ (if j < w then σ v j else 0) < 128
    split
    · exact b9 j
    · decide
theorem u_gr_3 (σ : Nat → Nat → Int) (a N v w : Nat) : u_gr σ a N v w a 3 = σ a 3 := by
  unfold u_gr
  rw [k_up_same]
  rfl
set_option maxHeartbeats 4000000 in
theorem k_sbApp10 {a v w : Nat} (hB : k_SB sh σ a v w) {c : Int} (hc : -2147483648 ≤ c ∧ c < 2147483648) (hc0 : 0 ≤ c ∧ c < 128) (hr0 : σ a 3 < w) : k_V E mJ5_append_3fe6f 5 10 [(0, .ref a), (1, .int (iI (c)))] [] sh σ 0 0 (k_ret (some (.ref a)) sh (u_appC σ a v c)) := by
  obtain ⟨b0, b1, ⟨b2, b3, b4⟩, ⟨b5, b6, b7, b8⟩, b9⟩ := id hB
  have b10 : ¬ v = a := fun e => by rw [e, b0] at b1; cases b1
  refine k_aload_n dJ5_append_3fe6f_10 0 rfl rfl (by omega) ?_
  refine k_callVCr (Cn := "java/lang/StringBuilder") (st := []) (as := []) dJ5_append_3fe6f_11 oJ5_isLatin1_aae02 w_1355 w_1356 w_1358 rfl (by omega) rfl (Nat.le_of_ble_eq_true rfl) (by omega) b0 rfl (c_sbLatin hB) ?_
  refine k_if_eq (tgt := 45) dJ5_append_3fe6f_14 rfl ⟨by decide, by decide⟩ (fun h_1 => absurd h_1 (by decide)) (fun h_1 => ?_)
  refine k_iload_n dJ5_append_3fe6f_17 1 rfl rfl ?_
  refine k_callSr (st := []) (as := [.int (iI (c))]) dJ5_append_3fe6f_18 oJ1_canEncode_fc78d w_1559 w_1560 rfl (by omega) rfl (Nat.le_of_ble_eq_true rfl) (c_canEnc ⟨by omega, by omega⟩ (by omega)) ?_
  refine k_if_eq (tgt := 45) dJ5_append_3fe6f_21 rfl ⟨by decide, by decide⟩ (fun h_2 => absurd h_2 (by decide)) (fun h_2 => ?_)
  refine k_aload_n dJ5_append_3fe6f_24 0 rfl rfl (by omega) ?_
  refine k_get (kf := 0) (v := .ref (σ a 0).toNat) dJ5_append_3fe6f_25 kcJ4 w_323 (by decide) (by omega) b0 rfl rfl ?_
  refine k_eqst (st' := [.ref v]) (by have e : (σ a 0).toNat = v := (by rw [b5]; rfl); rw [e]; first | done | rfl) ?_
  refine k_aload_n dJ5_append_3fe6f_28 0 rfl rfl (by omega) ?_
  refine k_dup dJ5_append_3fe6f_29 rfl ?_
  refine k_get (kf := 3) (v := .int (iI (σ a 3))) dJ5_append_3fe6f_30 kcJ4 w_327 (by decide) (by omega) b0 rfl rfl ?_
  refine k_dup_x1 dJ5_append_3fe6f_33 rfl rfl ?_
  refine k_iconst (v := 1) dJ5_append_3fe6f_34 rfl ?_
  refine k_iadd dJ5_append_3fe6f_35 ?_
  refine k_putf (kf := 3) dJ5_append_3fe6f_36 kcJ4 w_327 (by decide) (by omega) b0 rfl rfl rfl rfl ?_
  refine k_iload_n dJ5_append_3fe6f_39 1 rfl rfl ?_
  refine k_i2b dJ5_append_3fe6f_40 (by omega) ?_
  refine k_bast dJ5_append_3fe6f_41 (by omega) b1 (by omega) (by omega) (by omega) (k_nB (by omega)).1 ?_
  refine k_goto (tgt := 75) dJ5_append_3fe6f_42 rfl ?_
  refine k_aload_n dJ5_append_3fe6f_75 0 rfl rfl (by omega) ?_
  exact k_retr dJ5_append_3fe6f_76 (rt := _) rfl (by first | exact Or.inl ⟨_, rfl⟩ | exact Or.inr ⟨_, rfl⟩) (by funext i; unfold u_appC; by_cases e : i = v; (· subst e; simp [k_up, b10]); simp [k_up, e]) (by omega) rfl
set_option maxHeartbeats 4000000 in
theorem c_sbApp5G {a v w : Nat} (hB : k_SB sh σ a v w) (hN : sh.length < 900000) (hok : k_ok sh σ) (hva : v < sh.length ∧ a < sh.length) (hw : w ≤ 99) {c : Int} (hc : -2147483648 ≤ c ∧ c < 2147483648) (hc0 : 0 ≤ c ∧ c < 128) (hf : σ a 3 = w) : k_C E mJ5_append_3fe6f 5 [.ref a, .int (iI c)] sh σ 1 (0 + (2 * w + 2)) (k_ret (some (.ref a)) (sh ++ [.inl (2, 2 * w + 2)]) (u_appC (u_gr σ a sh.length v w) a sh.length c)) := by
  refine k_C_of (ls0 := [(0, .ref a), (1, .int (iI (c)))]) rfl pnJ5 (fun v hv => k_cat1 rfl hv) (Nat.le_of_ble_eq_true rfl) rfl ?_
  obtain ⟨b0, b1, ⟨b2, b3, b4⟩, ⟨b5, b6, b7, b8⟩, b9⟩ := id hB
  have b10 : ¬ v = a := fun e => by rw [e, b0] at b1; cases b1
  refine k_aload_n dJ5_append_3fe6f_0 0 rfl rfl (by omega) ?_
  refine k_aload_n dJ5_append_3fe6f_1 0 rfl rfl (by omega) ?_
  refine k_get (kf := 3) (v := .int (iI (σ a 3))) dJ5_append_3fe6f_2 kcJ4 w_327 (by decide) (by omega) b0 rfl rfl ?_
  refine k_iconst (v := 1) dJ5_append_3fe6f_5 rfl ?_
  refine k_iadd dJ5_append_3fe6f_6 ?_
  refine k_eqst (congrArg (fun z : Int => Value.int (iI z) :: [.ref a]) (show (w : Int) + 1 = σ a 3 + 1 from by rw [hf])) ?_
  refine k_callVP (k := 0) (n := 0) (st := []) (as := [.int (iI ((w : Int) + 1))]) dJ5_append_3fe6f_7 oJ5_ensureCapacityInternal_d00df rfl w_1326 w_1328 (by decide) (by omega) rfl (Nat.le_of_ble_eq_true rfl) (by omega) b0 rfl (c_sbEnsG hB hN hok hva) (Or.inl ⟨fun z hz => ?_, fun z hz => by cases hz⟩) (fun X s1 s2 h => by cases h.1) (fun r s1 s2 h => ?_)
  · rcases List.mem_cons.mp hz with rfl | hz
    · exact Or.inl hva.2
    · rcases List.mem_cons.mp hz with rfl | hz
      · trivial
      · cases hz
  · obtain ⟨h1, rfl, rfl⟩ := h
    cases h1
    exact k_sbApp10 (k_SB_gr hB hN hva hw _ rfl) hc hc0 (by rw [u_gr_3]; omega)
set_option maxHeartbeats 4000000 in
theorem c_sbAppG {a v w : Nat} (hB : k_SB sh σ a v w) (hN : sh.length < 900000) (hok : k_ok sh σ) (hva : v < sh.length ∧ a < sh.length) (hw : w ≤ 99) {c : Int} (hc : -2147483648 ≤ c ∧ c < 2147483648) (hc0 : 0 ≤ c ∧ c < 128) (hf : σ a 3 = w) : k_C E mJ4_append_cf468 6 [.ref a, .int (iI c)] sh σ 1 (0 + (2 * w + 2)) (k_ret (some (.ref a)) (sh ++ [.inl (2, 2 * w + 2)]) (u_appC (u_gr σ a sh.length v w) a sh.length c)) := by
  refine k_C_of (ls0 := [(0, .ref a), (1, .int (iI (c)))]) rfl pnJ4 (fun v hv => k_cat1 rfl hv) (Nat.le_of_ble_eq_true rfl) rfl ?_
  obtain ⟨b0, b1, ⟨b2, b3, b4⟩, ⟨b5, b6, b7, b8⟩, b9⟩ := id hB
  have b10 : ¬ v = a := fun e => by rw [e, b0] at b1; cases b1
  refine k_aload_n dJ4_append_cf468_0 0 rfl rfl (by omega) ?_
  refine k_iload_n dJ4_append_cf468_1 1 rfl rfl ?_
  refine k_callSU (k := 0) (n := 0) (Cn := "java/lang/StringBuilder") (st := []) (as := [.int (iI c)]) dJ4_append_cf468_2 oJ5_append_3fe6f rfl w_1556 w_2294 w_336 w_1557 (by decide) (by omega) rfl (Nat.le_of_ble_eq_true rfl) (by omega) b0 rfl (c_sbApp5G hB hN hok hva hw hc hc0 hf) (fun X s1 s2 h => by cases h.1) (Or.inl ⟨fun z hz => ?_, fun z hz => by cases hz⟩) (fun r s1 s2 h => ?_)
  · rcases List.mem_cons.mp hz with rfl | hz
    · exact Or.inl hva.2
    · rcases List.mem_cons.mp hz with rfl | hz
      · trivial
      · cases hz
  · obtain ⟨h1, rfl, rfl⟩ := h
    cases h1
    refine k_pop dJ4_append_cf468_5 rfl ?_
    refine k_aload_n dJ4_append_cf468_6 0 rfl rfl (by omega) ?_
    exact k_ret_r dJ4_append_cf468_7 rfl (Or.inl ⟨_, rfl⟩) (by omega) ⟨rfl, rfl, rfl⟩
theorem k_SB_app {a v w : Nat} (hB : k_SB sh σ a v w) {c : Int} (hc0 : 0 ≤ c ∧ c < 128) (hr0 : σ a 3 < w) : k_SB sh (u_appC σ a v c) a v w := by
  obtain ⟨b0, b1, ⟨b2, b3, b4⟩, ⟨b5, b6, b7, b8⟩, b9⟩ := id hB
  have b10 : ¬ v = a := fun e => by rw [e, b0] at b1; cases b1
  have e : u_appC σ a v c a = k_u1 (σ a) 3 (σ a 3 + 1) := by
    unfold u_appC
    rw [k_up_ne (fun q => b10 q.symm), k_up_same]
  refine ⟨b0, b1, ⟨b2, b3, b4⟩, ?_, ?_⟩
  · rw [e]
    exact ⟨b5, b6, by show 0 ≤ σ a 3 + 1; omega, by show σ a 3 + 1 ≤ w; omega⟩
  · intro j
    unfold u_appC
    rw [k_up_same]
    unfold k_u1
    split
    · exact hc0
    · exact b9 j
theorem u_appC_3 {a v w : Nat} (hB : k_SB sh σ a v w) (c : Int) : u_appC σ a v c a 3 = σ a 3 + 1 := by
  obtain ⟨b0, b1, -⟩ := id hB
  have b10 : ¬ v = a := fun e => by rw [e, b0] at b1; cases b1
  unfold u_appC
  rw [k_up_ne (fun q => b10 q.symm), k_up_same]
  rfl
set_option maxHeartbeats 4000000 in
theorem c_typeBad (hsh : k_Main sh) {v w : Nat} (hB : k_SB sh σ 117 v w) {c : Int} (hc : -2147483648 ≤ c ∧ c < 2147483648) (hc0 : 0 ≤ c ∧ c < 65536) (hb : c < 32 ∨ 126 < c) : k_C E mX7_type 7 [.ref 0, .int (iI (c))] sh σ 1 6 (k_rx (.inr x_ia) sh (σ)) := by
  refine k_C_of (ls0 := [(0, .ref 0), (1, .int (iI (c)))]) rfl pnX7 (fun v hv => k_cat1 rfl hv) (Nat.le_of_ble_eq_true rfl) rfl ?_
  obtain ⟨b0, b1, ⟨b2, b3, b4⟩, ⟨b5, b6, b7, b8⟩, b9⟩ := id hB
  refine k_iload_n dX7_type_0 1 rfl rfl ?_
  refine k_bipush (v := 32) dX7_type_1 (by decide) ?_
  refine k_icmp_lt (tgt := 12) dX7_type_3 rfl ⟨by omega, by omega⟩ ⟨by decide, by decide⟩ (fun h_1 => ?_) (fun h_1 => ?_)
  · exact k_throwW dX7_type_12 dX7_type_15 dX7_type_16 dX7_type_19 dX7_type_22 rfl th_ia w_1603 (by decide) (Nat.le_of_ble_eq_true rfl) ⟨(rfl), rfl, (rfl)⟩
  · refine k_iload_n dX7_type_6 1 rfl rfl ?_
    refine k_bipush (v := 126) dX7_type_7 (by decide) ?_
    refine k_icmp_le (tgt := 23) dX7_type_9 rfl ⟨by omega, by omega⟩ ⟨by decide, by decide⟩ (fun h_2 => absurd h_2 (by omega)) (fun h_2 => ?_)
    exact k_throwW dX7_type_12 dX7_type_15 dX7_type_16 dX7_type_19 dX7_type_22 rfl th_ia w_1603 (by decide) (Nat.le_of_ble_eq_true rfl) ⟨(rfl), rfl, (rfl)⟩
set_option maxHeartbeats 4000000 in
theorem c_typeFull (hsh : k_Main sh) {v w : Nat} (hB : k_SB sh σ 117 v w) {c : Int} (hc : -2147483648 ≤ c ∧ c < 2147483648) (hc0 : 32 ≤ c ∧ c ≤ 126) (hf : 60 ≤ σ 117 3) : k_C E mX7_type 7 [.ref 0, .int (iI (c))] sh σ 1 6 (k_rx (.inr x_is) sh (σ)) := by
  refine k_C_of (ls0 := [(0, .ref 0), (1, .int (iI (c)))]) rfl pnX7 (fun v hv => k_cat1 rfl hv) (Nat.le_of_ble_eq_true rfl) rfl ?_
  obtain ⟨b0, b1, ⟨b2, b3, b4⟩, ⟨b5, b6, b7, b8⟩, b9⟩ := id hB
  refine k_iload_n dX7_type_0 1 rfl rfl ?_
  refine k_bipush (v := 32) dX7_type_1 (by decide) ?_
  refine k_icmp_lt (tgt := 12) dX7_type_3 rfl ⟨by omega, by omega⟩ ⟨by decide, by decide⟩ (fun h_1 => absurd h_1 (by omega)) (fun h_1 => ?_)
  refine k_iload_n dX7_type_6 1 rfl rfl ?_
  refine k_bipush (v := 126) dX7_type_7 (by decide) ?_
  refine k_icmp_le (tgt := 23) dX7_type_9 rfl ⟨by omega, by omega⟩ ⟨by decide, by decide⟩ (fun h_2 => ?_) (fun h_2 => absurd h_2 (by omega))
  refine k_aload_n dX7_type_23 0 rfl rfl (by decide) ?_
  refine k_get (kf := 8) (v := .ref 116) dX7_type_24 kcX7 w_366 (by decide) (by decide) (s_0 hsh) rfl rfl ?_
  refine k_getN (kf := 0) (v := .ref 117) dX7_type_27 kcX6 w_339 (by decide) (by decide) (s_116 hsh) rfl rfl ?_
  refine k_callVCr (Cn := "java/lang/StringBuilder") (st := []) (as := []) dX7_type_30 oJ4_length_8abf5 w_1578 w_1475 w_2295 rfl (by omega) rfl (Nat.le_of_ble_eq_true rfl) (by decide) b0 rfl (c_sbLen hB) ?_
  refine k_bipush (v := 60) dX7_type_33 (by decide) ?_
  refine k_icmp_lt (tgt := 49) dX7_type_35 rfl ⟨by omega, by omega⟩ ⟨by decide, by decide⟩ (fun h_3 => absurd h_3 (by omega)) (fun h_3 => ?_)
  exact k_throwW dX7_type_38 dX7_type_41 dX7_type_42 dX7_type_45 dX7_type_48 rfl th_is w_1604 (by decide) (Nat.le_of_ble_eq_true rfl) ⟨(rfl), rfl, (rfl)⟩
set_option maxHeartbeats 4000000 in
theorem c_typeIn (hsh : k_Main sh) {v w : Nat} (hB : k_SB sh σ 117 v w) {c : Int} (hc : -2147483648 ≤ c ∧ c < 2147483648) (hc0 : 32 ≤ c ∧ c ≤ 126) (hf : σ 117 3 < 60) (hr0 : σ 117 3 < w) : k_C E mX7_type 7 [.ref 0, .int (iI (c))] sh σ 0 0 (k_rx (.inl (some (.int (iI (σ 117 3 + 1))))) sh ((u_appC σ 117 v c))) := by
  refine k_C_of (ls0 := [(0, .ref 0), (1, .int (iI (c)))]) rfl pnX7 (fun v hv => k_cat1 rfl hv) (Nat.le_of_ble_eq_true rfl) rfl ?_
  obtain ⟨b0, b1, ⟨b2, b3, b4⟩, ⟨b5, b6, b7, b8⟩, b9⟩ := id hB
  refine k_iload_n dX7_type_0 1 rfl rfl ?_
  refine k_bipush (v := 32) dX7_type_1 (by decide) ?_
  refine k_icmp_lt (tgt := 12) dX7_type_3 rfl ⟨by omega, by omega⟩ ⟨by decide, by decide⟩ (fun h_1 => absurd h_1 (by omega)) (fun h_1 => ?_)
  refine k_iload_n dX7_type_6 1 rfl rfl ?_
  refine k_bipush (v := 126) dX7_type_7 (by decide) ?_
  refine k_icmp_le (tgt := 23) dX7_type_9 rfl ⟨by omega, by omega⟩ ⟨by decide, by decide⟩ (fun h_2 => ?_) (fun h_2 => absurd h_2 (by omega))
  refine k_aload_n dX7_type_23 0 rfl rfl (by decide) ?_
  refine k_get (kf := 8) (v := .ref 116) dX7_type_24 kcX7 w_366 (by decide) (by decide) (s_0 hsh) rfl rfl ?_
  refine k_getN (kf := 0) (v := .ref 117) dX7_type_27 kcX6 w_339 (by decide) (by decide) (s_116 hsh) rfl rfl ?_
  refine k_callVCr (Cn := "java/lang/StringBuilder") (st := []) (as := []) dX7_type_30 oJ4_length_8abf5 w_1578 w_1475 w_2295 rfl (by omega) rfl (Nat.le_of_ble_eq_true rfl) (by decide) b0 rfl (c_sbLen hB) ?_
  refine k_bipush (v := 60) dX7_type_33 (by decide) ?_
  refine k_icmp_lt (tgt := 49) dX7_type_35 rfl ⟨by omega, by omega⟩ ⟨by decide, by decide⟩ (fun h_3 => ?_) (fun h_3 => absurd h_3 (by omega))
  refine k_aload_n dX7_type_49 0 rfl rfl (by decide) ?_
  refine k_get (kf := 8) (v := .ref 116) dX7_type_50 kcX7 w_366 (by decide) (by decide) (s_0 hsh) rfl rfl ?_
  refine k_getN (kf := 0) (v := .ref 117) dX7_type_53 kcX6 w_339 (by decide) (by decide) (s_116 hsh) rfl rfl ?_
  refine k_iload_n dX7_type_56 1 rfl rfl ?_
  refine k_callVCr (Cn := "java/lang/StringBuilder") (st := []) (as := [.int (iI (c))]) dX7_type_57 oJ4_append_cf468 w_1552 w_1553 w_1554 rfl (by omega) rfl (Nat.le_of_ble_eq_true rfl) (by decide) b0 rfl (c_sbApp hB ⟨by omega, by omega⟩ (by omega) (by omega)) ?_
  have hB2 : k_SB sh (u_appC σ 117 v c) 117 v w := k_SB_app hB (by omega) (by omega)
  refine k_pop dX7_type_60 rfl ?_
  refine k_aload_n dX7_type_61 0 rfl rfl (by decide) ?_
  refine k_get (kf := 8) (v := .ref 116) dX7_type_62 kcX7 w_366 (by decide) (by decide) (s_0 hsh) rfl rfl ?_
  refine k_getN (kf := 0) (v := .ref 117) dX7_type_65 kcX6 w_339 (by decide) (by decide) (s_116 hsh) rfl rfl ?_
  refine k_callVCr (Cn := "java/lang/StringBuilder") (st := []) (as := []) dX7_type_68 oJ4_length_8abf5 w_1578 w_1475 w_2295 rfl (by omega) rfl (Nat.le_of_ble_eq_true rfl) (by decide) b0 rfl (c_sbLen hB2) ?_
  exact k_ret_i dX7_type_71 rfl ⟨(by rw [u_appC_3 hB c]), rfl, (rfl)⟩
theorem k_Main_app (hsh : k_Main sh) (x : k_Sh) : k_Main (sh ++ [x]) := fun i y hy => by
  have h := hsh i y hy
  have hl : i < sh.length := by
    rcases Nat.lt_or_ge i sh.length with q | q
    · exact q
    · rw [List.getElem?_eq_none q] at h
      cases h
  rw [List.getElem?_append_left hl]
  exact h
set_option maxHeartbeats 4000000 in
theorem c_typeGrow (hsh : k_Main sh) {v w : Nat} (hB : k_SB sh σ 117 v w) (hN : sh.length < 900000) (hok : k_ok sh σ) (hva : v < sh.length ∧ 117 < sh.length) (hw : w ≤ 99) {c : Int} (hc : -2147483648 ≤ c ∧ c < 2147483648) (hc0 : 32 ≤ c ∧ c ≤ 126) (hf : σ 117 3 < 60) (hr0 : σ 117 3 = w) : k_C E mX7_type 7 [.ref 0, .int (iI c)] sh σ 1 (0 + (2 * w + 2)) (k_rx (.inl (some (.int (iI (σ 117 3 + 1))))) (sh ++ [.inl (2, 2 * w + 2)]) (u_appC (u_gr σ 117 sh.length v w) 117 sh.length c)) := by
  refine k_C_of (ls0 := [(0, .ref 0), (1, .int (iI c))]) rfl pnX7 (fun v hv => k_cat1 rfl hv) (Nat.le_of_ble_eq_true rfl) rfl ?_
  obtain ⟨b0, b1, ⟨b2, b3, b4⟩, ⟨b5, b6, b7, b8⟩, b9⟩ := id hB
  refine k_iload_n dX7_type_0 1 rfl rfl ?_
  refine k_bipush (v := 32) dX7_type_1 (by decide) ?_
  refine k_icmp_lt (tgt := 12) dX7_type_3 rfl ⟨by omega, by omega⟩ ⟨by decide, by decide⟩ (fun h_1 => absurd h_1 (by omega)) (fun h_1 => ?_)
  refine k_iload_n dX7_type_6 1 rfl rfl ?_
  refine k_bipush (v := 126) dX7_type_7 (by decide) ?_
  refine k_icmp_le (tgt := 23) dX7_type_9 rfl ⟨by omega, by omega⟩ ⟨by decide, by decide⟩ (fun h_2 => ?_) (fun h_2 => absurd h_2 (by omega))
  refine k_aload_n dX7_type_23 0 rfl rfl (by decide) ?_
  refine k_get (kf := 8) (v := .ref 116) dX7_type_24 kcX7 w_366 (by decide) (by decide) (s_0 hsh) rfl rfl ?_
  refine k_getN (kf := 0) (v := .ref 117) dX7_type_27 kcX6 w_339 (by decide) (by decide) (s_116 hsh) rfl rfl ?_
  refine k_callVCr (Cn := "java/lang/StringBuilder") (st := []) (as := []) dX7_type_30 oJ4_length_8abf5 w_1578 w_1475 w_2295 rfl (by omega) rfl (Nat.le_of_ble_eq_true rfl) (by decide) b0 rfl (c_sbLen hB) ?_
  refine k_bipush (v := 60) dX7_type_33 (by decide) ?_
  refine k_icmp_lt (tgt := 49) dX7_type_35 rfl ⟨by omega, by omega⟩ ⟨by decide, by decide⟩ (fun h_3 => ?_) (fun h_3 => absurd h_3 (by omega))
  refine k_aload_n dX7_type_49 0 rfl rfl (by decide) ?_
  refine k_get (kf := 8) (v := .ref 116) dX7_type_50 kcX7 w_366 (by decide) (by decide) (s_0 hsh) rfl rfl ?_
  refine k_getN (kf := 0) (v := .ref 117) dX7_type_53 kcX6 w_339 (by decide) (by decide) (s_116 hsh) rfl rfl ?_
  refine k_iload_n dX7_type_56 1 rfl rfl ?_
  refine k_callVC (k := 0) (n := 0) (Cn := "java/lang/StringBuilder") (st := []) (as := [.int (iI c)]) dX7_type_57 oJ4_append_cf468 rfl w_1552 w_1553 w_1554 (by omega) rfl (Nat.le_of_ble_eq_true rfl) (by decide) b0 rfl (c_sbAppG hB hN hok hva hw ⟨by omega, by omega⟩ ⟨by omega, by omega⟩ hr0) (Or.inl ⟨fun z hz => ?_, fun z hz => by cases hz⟩) (fun X s1 s2 h => by cases h.1) (fun r s1 s2 h => ?_)
  · rcases List.mem_cons.mp hz with rfl | hz
    · exact Or.inl (by show 0 < sh.length; omega)
    · rcases List.mem_cons.mp hz with rfl | hz
      · trivial
      · cases hz
  · obtain ⟨h1, rfl, rfl⟩ := h
    cases h1
    have hM : k_Main (sh ++ [.inl (2, 2 * w + 2)]) := k_Main_app hsh _
    have hB2 := k_SB_gr hB hN hva hw _ rfl
    have b02 := hB2.1
    have hl2 : u_gr σ 117 sh.length v w 117 3 < ((2 * w + 2 : Nat) : Int) := by rw [u_gr_3]; omega
    refine k_pop dX7_type_60 rfl ?_
    refine k_aload_n dX7_type_61 0 rfl rfl (by decide) ?_
    refine k_get (kf := 8) (v := .ref 116) dX7_type_62 kcX7 w_366 (by decide) (by decide) (s_0 hM) rfl rfl ?_
    refine k_getN (kf := 0) (v := .ref 117) dX7_type_65 kcX6 w_339 (by decide) (by decide) (s_116 hM) rfl rfl ?_
    refine k_callVCr (Cn := "java/lang/StringBuilder") (st := []) (as := []) dX7_type_68 oJ4_length_8abf5 w_1578 w_1475 w_2295 rfl (by omega) rfl (Nat.le_of_ble_eq_true rfl) (by decide) b02 rfl (c_sbLen (k_SB_app hB2 (by omega) hl2)) ?_
    exact k_ret_i dX7_type_71 rfl ⟨(by rw [u_appC_3 hB2 c, u_gr_3]), rfl, (rfl)⟩
end K_TY
