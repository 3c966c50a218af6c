/-! ===== TEXTS: String and StringBuilder ===== -/
section K_AA
variable {E : k_E} {M M1 : k_M} {dp d1 pc k n k1 n1 na : Nat} {ls : List (Nat × Value)} {st as : List Value} {sh : List k_Sh} {σ σ' : Nat → Nat → Int} {Q Q1 : k_Q} {o : Option Value}
theorem k_callVP {idx r ci N : Nat} {cs : List Nat} {T : u_T} (hd : decode M.2.1 pc = .ok (.invokevirtual idx, 3)) (hM : k_MOk M1 na) (hh : M1.2.2.2.2 = []) (hl : Cond.methodLink M.1.cls idx M1.1 ∈ k_TBL) (hi : Cond.instanceMethod M1.1 ∈ k_TBL) (hpv : M1.1 ∈ k_privs) (hdp : d1 + 1 ≤ dp) (hn : as.length = na) (hcat : (st.map fun v => v.category).sum ≤ 8)
    (hr1 : r ≠ 1000001) (hs : sh[r]? = some (.inr (ci, cs))) (hc : k_cls[ci]? = some ("java/lang/StringBuilder", T, N))
    (hC : k_C E M1 d1 (.ref r :: as) sh σ k1 n1 Q1) (hok : k_okl sh.length ls st ∨ ∀ r sh' σ', Q1 r sh' σ' → sh'.length = sh.length)
    (kx : ∀ Xn sh' σ', Q1 (.inr Xn) sh' σ' → k_VX E M dp pc ls Xn sh' σ' k n Q) (kk : ∀ v sh' σ', Q1 (.inl v) sh' σ' → k_V E M dp (pc + 3) ls (v.toList ++ st) sh' σ' k n Q) : k_V E M dp pc ls (as.reverse ++ .ref r :: st) sh σ (k1 + k) (n1 + n) Q := by
  intro N0 ad0 p e R s m args below meth c H locs cells slots lsC ad mc ms C X hl0
  rw [List.map_append, List.map_reverse, List.map_cons, k_cv_ref hr1]
  have hpre := k_pre (as := .ref r :: as) C X
  rw [List.map_cons, k_cv_ref hr1] at hpre
  have hcell := va_recv (k_Kat C) X.2.2.2.2.2.2.1 hc (k_obj hs)
  have hsel : (Cond.selects "java/lang/StringBuilder" M1.1 M1.1).before args s = true := word_at C.2.2.2.2.2.2.2.2.2.1.1 (Or.inl rfl) ((k_ok3 C).2.2.2.2.2.2.2 _ hpv)
  refine k_run C X hl0 (vx_runV (b := ad r) (C := "java/lang/StringBuilder") (As := as.map (k_cv E ad)) (rest := st.map (k_cv E ad)) (k_fix C) (hC ad) ⟨k_cb C hM hh hdp hl, C.2.2.2.2.2.1 _ (k_cws hi), hsel⟩ ⟨k_blind, hcell, hpre⟩ rfl (by rw [List.length_map]; exact hn) hl0.1 rfl (k_room (k_fmc C) hcat) hd ⟨by have := X.2.1; have := X.2.2.2.1; omega, by have := X.2.2.1; have := X.2.2.2.2.1; omega⟩) hok kx kk
theorem k_callVSr {idx i : Nat} (hd : decode M.2.1 pc = .ok (.invokevirtual idx, 3)) (hM : k_MOk M1 na) (hl : Cond.methodLink M.1.cls idx M1.1 ∈ k_TBL) (hi : Cond.instanceMethod M1.1 ∈ k_TBL) (hse : Cond.selects "java/lang/String" M1.1 M1.1 ∈ k_TBL) (hh : M1.2.2.2.2 = []) (hdp : d1 + 1 ≤ dp) (hn : as.length = na) (hcat : (st.map fun v => v.category).sum ≤ 8) (hi24 : i < 24)
    (hC : k_C E M1 d1 (.ref (1000010 + i) :: as) sh σ 0 0 (k_ret o sh σ')) (kk : k_V E M dp (pc + 3) ls (o.toList ++ st) sh σ' k n Q) : k_V E M dp pc ls (as.reverse ++ .ref (1000010 + i) :: st) sh σ k n Q := by
  have h := k_callVS (k := k) (n := n) (ls := ls) (Q := Q) hd hM hh hl hi hse hdp hn hcat hi24 hC (Or.inr fun r s2 σ2 h => by rw [h.2.1]) (fun Xn s2 σ2 h => by cases h.1) (fun v s2 σ2 h => by
    obtain ⟨h1, rfl, rfl⟩ := h
    cases h1
    exact kk)
  rw [Nat.zero_add, Nat.zero_add] at h
  exact h
theorem k_callVCr {idx r ci N : Nat} {Cn : String} {cs : List Nat} {T : u_T} (hd : decode M.2.1 pc = .ok (.invokevirtual idx, 3)) (hM : k_MOk M1 na) (hl : Cond.methodLink M.1.cls idx M1.1 ∈ k_TBL) (hi : Cond.instanceMethod M1.1 ∈ k_TBL) (hse : Cond.selects Cn M1.1 M1.1 ∈ k_TBL) (hh : M1.2.2.2.2 = []) (hdp : d1 + 1 ≤ dp) (hn : as.length = na) (hcat : (st.map fun v => v.category).sum ≤ 8) (hr1 : r ≠ 1000001) (hs : sh[r]? = some (.inr (ci, cs))) (hc : k_cls[ci]? = some (Cn, T, N))
    (hC : k_C E M1 d1 (.ref r :: as) sh σ 0 0 (k_ret o sh σ')) (kk : k_V E M dp (pc + 3) ls (o.toList ++ st) sh σ' k n Q) : k_V E M dp pc ls (as.reverse ++ .ref r :: st) sh σ k n Q := by
  have h := k_callVC (k := k) (n := n) (ls := ls) (Q := Q) hd hM hh hl hi hse hdp hn hcat hr1 hs hc hC (Or.inr fun r s2 σ2 h => by rw [h.2.1]) (fun Xn s2 σ2 h => by cases h.1) (fun v s2 σ2 h => by
    obtain ⟨h1, rfl, rfl⟩ := h
    cases h1
    exact kk)
  rw [Nat.zero_add, Nat.zero_add] at h
  exact h
theorem k_callVPr {idx r ci N : Nat} {cs : List Nat} {T : u_T} (hd : decode M.2.1 pc = .ok (.invokevirtual idx, 3)) (hM : k_MOk M1 na) (hl : Cond.methodLink M.1.cls idx M1.1 ∈ k_TBL) (hi : Cond.instanceMethod M1.1 ∈ k_TBL) (hpv : M1.1 ∈ k_privs) (hh : M1.2.2.2.2 = []) (hdp : d1 + 1 ≤ dp) (hn : as.length = na) (hcat : (st.map fun v => v.category).sum ≤ 8) (hr1 : r ≠ 1000001) (hs : sh[r]? = some (.inr (ci, cs))) (hc : k_cls[ci]? = some ("java/lang/StringBuilder", T, N))
    (hC : k_C E M1 d1 (.ref r :: as) sh σ 0 0 (k_ret o sh σ')) (kk : k_V E M dp (pc + 3) ls (o.toList ++ st) sh σ' k n Q) : k_V E M dp pc ls (as.reverse ++ .ref r :: st) sh σ k n Q := by
  have h := k_callVP (k := k) (n := n) (ls := ls) (Q := Q) hd hM hh hl hi hpv hdp hn hcat hr1 hs hc hC (Or.inr fun r s2 σ2 h => by rw [h.2.1]) (fun Xn s2 σ2 h => by cases h.1) (fun v s2 σ2 h => by
    obtain ⟨h1, rfl, rfl⟩ := h
    cases h1
    exact kk)
  rw [Nat.zero_add, Nat.zero_add] at h
  exact h
theorem k_callSUr {idx r ci N : Nat} {Cn : String} {cs : List Nat} {T : u_T} (hd : decode M.2.1 pc = .ok (.invokespecial idx, 3)) (hM : k_MOk M1 na) (hl : Cond.methodLink M.1.cls idx M1.1 ∈ k_TBL) (hsm : Cond.sameMethod M1.1.cls M1.1.cls M1.1.name M1.1.desc ∈ k_TBL) (hsu : Cond.superclass M.1.cls M1.1.cls ∈ k_TBL) (hi : Cond.instanceMethod M1.1 ∈ k_TBL) (hy : M1.1.name ≠ "<init>") (hh : M1.2.2.2.2 = []) (hdp : d1 + 1 ≤ dp) (hn : as.length = na) (hcat : (st.map fun v => v.category).sum ≤ 8) (hr1 : r ≠ 1000001) (hs : sh[r]? = some (.inr (ci, cs))) (hc : k_cls[ci]? = some (Cn, T, N))
    (hC : k_C E M1 d1 (.ref r :: as) sh σ 0 0 (k_ret o sh σ')) (kk : k_V E M dp (pc + 3) ls (o.toList ++ st) sh σ' k n Q) : k_V E M dp pc ls (as.reverse ++ .ref r :: st) sh σ k n Q := by
  have h := k_callSU (k := k) (n := n) (ls := ls) (Q := Q) hd hM hh hl hsm hsu hi hy hdp hn hcat hr1 hs hc hC k_noX (Or.inr fun r s2 σ2 h => by rw [h.2.1]) (fun v s2 σ2 h => by
    obtain ⟨h1, rfl, rfl⟩ := h
    cases h1
    exact kk)
  rw [Nat.zero_add, Nat.zero_add] at h
  exact h

theorem w_336 : Cond.superclass "java/lang/StringBuilder" "java/lang/AbstractStringBuilder" ∈ k_TBL := List.mem_filter.mpr ⟨List.mem_of_getElem? (by decide +kernel : lw_tbl[336]? = some (Cond.superclass "java/lang/StringBuilder" "java/lang/AbstractStringBuilder")), rfl⟩
theorem w_2285 : Cond.sameMethod "java/lang/AbstractStringBuilder" "java/lang/AbstractStringBuilder" "setLength" "(I)V" ∈ k_TBL := List.mem_filter.mpr ⟨List.mem_of_getElem? (by decide +kernel : lw_tbl[2285]? = some (Cond.sameMethod "java/lang/AbstractStringBuilder" "java/lang/AbstractStringBuilder" "setLength" "(I)V")), rfl⟩
theorem w_2293 : Cond.sameMethod "java/lang/AbstractStringBuilder" "java/lang/AbstractStringBuilder" "append" "(I)Ljava/lang/AbstractStringBuilder;" ∈ k_TBL := List.mem_filter.mpr ⟨List.mem_of_getElem? (by decide +kernel : lw_tbl[2293]? = some (Cond.sameMethod "java/lang/AbstractStringBuilder" "java/lang/AbstractStringBuilder" "append" "(I)Ljava/lang/AbstractStringBuilder;")), rfl⟩
theorem w_2294 : Cond.sameMethod "java/lang/AbstractStringBuilder" "java/lang/AbstractStringBuilder" "append" "(C)Ljava/lang/AbstractStringBuilder;" ∈ k_TBL := List.mem_filter.mpr ⟨List.mem_of_getElem? (by decide +kernel : lw_tbl[2294]? = some (Cond.sameMethod "java/lang/AbstractStringBuilder" "java/lang/AbstractStringBuilder" "append" "(C)Ljava/lang/AbstractStringBuilder;")), rfl⟩
theorem w_2296 : Cond.sameMethod "java/lang/AbstractStringBuilder" "java/lang/AbstractStringBuilder" "charAt" "(I)C" ∈ k_TBL := List.mem_filter.mpr ⟨List.mem_of_getElem? (by decide +kernel : lw_tbl[2296]? = some (Cond.sameMethod "java/lang/AbstractStringBuilder" "java/lang/AbstractStringBuilder" "charAt" "(I)C")), rfl⟩
theorem w_1473 : Cond.sameMethod "java/lang/AbstractStringBuilder" "java/lang/AbstractStringBuilder" "length" "()I" ∈ k_TBL := List.mem_filter.mpr ⟨List.mem_of_getElem? (by decide +kernel : lw_tbl[1473]? = some (Cond.sameMethod "java/lang/AbstractStringBuilder" "java/lang/AbstractStringBuilder" "length" "()I")), rfl⟩
theorem pnJ0 : plainName RJ0 = true := by decide +kernel
theorem pnJ1 : plainName RJ1 = true := by decide +kernel
theorem pnJ2 : plainName RJ2 = true := by decide +kernel
theorem pnJ3 : plainName RJ3 = true := by decide +kernel
theorem pnJ4 : plainName RJ4 = true := by decide +kernel
theorem pnJ5 : plainName RJ5 = true := by decide +kernel
theorem pnJ7 : plainName RJ7 = true := by decide +kernel
theorem pnJ8 : plainName RJ8 = true := by decide +kernel
theorem z_shr0 {x : Int} (h : k_r x) : iI x >>> (iI 0 &&& 31) = iI x := by
  have hs : ((iI 0 &&& 31).toBitVec.smod 32).toNat = 0 := by decide
  apply Int32.toInt_inj.mp
  rw [pk_shr _ _ 0 hs, iI_toInt h, Int.shiftRight_eq_div_pow]
  simp
theorem z_shl0 (x : Int) : iI x <<< (iI 0 &&& 31) = iI x := by
  have : (iI 0 &&& 31) = 0 := by decide
  rw [this]
  exact Int32.shiftLeft_zero
theorem k_retZ {e e' : Int} {ty : FieldType} (hd : decode M.2.1 pc = .ok (.ireturn, 1)) (hr : M.2.2.2.1 = some ty) (hn : narrow ty (.int (iI e)) = .int (iI e)) (hσ : σ' = σ) (he : e = e') : k_V E M dp pc ls [.int (iI e)] sh σ' k n (k_ret (some (.int (iI e'))) sh σ) := k_ret_z hd hr hn ⟨by rw [he], rfl, hσ⟩
theorem k_narC256 : (List.range 256).all (fun x => narrow .char (.int (iI (x : Int))) == .int (iI (x : Int))) = true := by decide +kernel
theorem k_narC {e : Int} (h : 0 ≤ e ∧ e < 256) : narrow .char (.int (iI e)) = .int (iI e) := by
  have := List.all_eq_true.mp k_narC256 e.toNat (List.mem_range.mpr (by omega))
  rw [Int.toNat_of_nonneg h.1] at this
  exact eq_of_beq this
theorem k_narB128 : (List.range 128).all (fun x => vp_nar .byte (iI (x : Int)) == iI (x : Int) && (iI (x : Int) &&& 255) == iI (x : Int) && ((iI (x : Int)).toUInt32 % 65536).toInt32 == iI (x : Int) && ((iI (x : Int)).toInt8).toInt32 == iI (x : Int)) = true := by decide +kernel
theorem k_nB {e : Int} (h : 0 ≤ e ∧ e < 128) : vp_nar .byte (iI e) = iI e ∧ (iI e &&& 255) = iI e ∧ ((iI e).toUInt32 % 65536).toInt32 = iI e ∧ ((iI e).toInt8).toInt32 = iI e := by
  have := List.all_eq_true.mp k_narB128 e.toNat (List.mem_range.mpr (by omega))
  rw [Int.toNat_of_nonneg h.1] at this
  simp only [Bool.and_eq_true, beq_iff_eq] at this
  exact ⟨this.1.1.1, this.1.1.2, this.1.2, this.2⟩
theorem k_i2b {x : Int} (hd : decode M.2.1 pc = .ok (.i2b, 1)) (hx : 0 ≤ x ∧ x < 128) (kk : k_V E M dp (pc + 1) ls (.int (iI x) :: st) sh σ k n Q) : k_V E M dp pc ls (.int (iI x) :: st) sh σ k n Q := by
  intro N0 ad0 p e R s m args below meth c H locs cells slots lsC ad mc ms C X hl
  have h := kk N0 ad0 p e R s m args below meth c H locs cells slots lsC ad mc ms C X hl
  exact lv_i2b C.1 C.2.1 hd (k_nB hx).2.2.2 h
/-- all texts are short, and of characters below 128 -/
theorem k_str_ok : ∀ i, i < 24 → k_len i ≤ 13 ∧ ∀ j, j < k_len i → 0 ≤ k_ch i j ∧ k_ch i j < 128 := by decide +kernel
set_option maxHeartbeats 4000000 in
theorem c_strCoder {i : Nat} (hi : i < 24)  : k_C E mJ0_coder_7d493 1 [.ref (1000010 + i)] sh σ 0 0 (k_ret (some (.int (iI (0)))) sh σ) := by
  refine k_C_of (ls0 := [(0, .ref (1000010 + i))]) rfl pnJ0 (fun v hv => k_cat1 rfl hv) (Nat.le_of_ble_eq_true rfl) rfl ?_
  refine k_getCS dJ0_coder_7d493_0 w_1394 ?_
  refine k_if_eq (tgt := 13) dJ0_coder_7d493_3 rfl ⟨by decide, by decide⟩ (fun h_1 => absurd h_1 (by decide)) (fun h_1 => ?_)
  refine k_aload_n dJ0_coder_7d493_6 0 rfl rfl (by omega) ?_
  refine k_getfC i dJ0_coder_7d493_7 hi w_1511 ?_
  refine k_goto (tgt := 14) dJ0_coder_7d493_10 rfl ?_
  exact k_retZ dJ0_coder_7d493_14 rfl (by decide) rfl (by rfl)
set_option maxHeartbeats 4000000 in
theorem c_strLatin {i : Nat} (hi : i < 24)  : k_C E mJ0_isLatin1_aae02 1 [.ref (1000010 + i)] sh σ 0 0 (k_ret (some (.int (iI (1)))) sh σ) := by
  refine k_C_of (ls0 := [(0, .ref (1000010 + i))]) rfl pnJ0 (fun v hv => k_cat1 rfl hv) (Nat.le_of_ble_eq_true rfl) rfl ?_
  refine k_getCS dJ0_isLatin1_aae02_0 w_1394 ?_
  refine k_if_eq (tgt := 17) dJ0_isLatin1_aae02_3 rfl ⟨by decide, by decide⟩ (fun h_1 => absurd h_1 (by decide)) (fun h_1 => ?_)
  refine k_aload_n dJ0_isLatin1_aae02_6 0 rfl rfl (by omega) ?_
  refine k_getfC i dJ0_isLatin1_aae02_7 hi w_1511 ?_
  refine k_if_ne (tgt := 17) dJ0_isLatin1_aae02_10 rfl ⟨by decide, by decide⟩ (fun h_2 => absurd h_2 (by decide)) (fun h_2 => ?_)
  refine k_iconst (v := 1) dJ0_isLatin1_aae02_13 rfl ?_
  refine k_goto (tgt := 18) dJ0_isLatin1_aae02_14 rfl ?_
  exact k_retz dJ0_isLatin1_aae02_18 rfl (Or.inr rfl) rfl (by rfl)
set_option maxHeartbeats 4000000 in
theorem c_strLength {i : Nat} (hi : i < 24)  : k_C E mJ0_length_8abf5 2 [.ref (1000010 + i)] sh σ 0 0 (k_ret (some (.int (iI ((k_len i : Int))))) sh σ) := by
  refine k_C_of (ls0 := [(0, .ref (1000010 + i))]) rfl pnJ0 (fun v hv => k_cat1 rfl hv) (Nat.le_of_ble_eq_true rfl) rfl ?_
  have q1 := (k_str_ok i hi).1
  refine k_aload_n dJ0_length_8abf5_0 0 rfl rfl (by omega) ?_
  refine k_getfV i dJ0_length_8abf5_1 hi w_1510 ?_
  refine k_alenS dJ0_length_8abf5_4 hi ?_
  refine k_aload_n dJ0_length_8abf5_5 0 rfl rfl (by omega) ?_
  refine k_callVSr (st := [.int (iI ((k_len i : Int)))]) (as := []) dJ0_length_8abf5_6 oJ0_coder_7d493 w_1390 w_1391 w_1392 rfl (by omega) rfl (Nat.le_of_ble_eq_true rfl) hi (c_strCoder hi) ?_
  refine k_ishr (v := (iI ((k_len i : Int)))) dJ0_length_8abf5_9 (z_shr0 ⟨by omega, by omega⟩) ?_
  exact k_reti dJ0_length_8abf5_10 rfl rfl (by rfl)
set_option maxHeartbeats 4000000 in
theorem c_checkIndex {x y : Int} (hx : 0 ≤ x ∧ x < y) (hy : y < 2147483648)  : k_C E mJ3_checkIndex_8e157 1 [.int (iI (x)), .int (iI (y)), .ref 1000001] sh σ 0 0 (k_ret (some (.int (iI (x)))) sh σ) := by
  refine k_C_of (ls0 := [(0, .int (iI (x))), (1, .int (iI (y))), (2, .ref 1000001)]) rfl pnJ3 (fun v hv => k_cat1 rfl hv) (Nat.le_of_ble_eq_true rfl) rfl ?_
  refine k_iload_n dJ3_checkIndex_8e157_0 0 rfl rfl ?_
  refine k_if_lt (tgt := 9) dJ3_checkIndex_8e157_1 rfl ⟨by omega, by omega⟩ (fun h_1 => absurd h_1 (by omega)) (fun h_1 => ?_)
  refine k_iload_n dJ3_checkIndex_8e157_4 0 rfl rfl ?_
  refine k_iload_n dJ3_checkIndex_8e157_5 1 rfl rfl ?_
  refine k_icmp_lt (tgt := 16) dJ3_checkIndex_8e157_6 rfl ⟨by omega, by omega⟩ ⟨by omega, by omega⟩ (fun h_2 => ?_) (fun h_2 => absurd h_2 (by omega))
  refine k_iload_n dJ3_checkIndex_8e157_16 0 rfl rfl ?_
  exact k_reti dJ3_checkIndex_8e157_17 rfl rfl (by rfl)
set_option maxHeartbeats 4000000 in
theorem c_strCheck {x y : Int} (hx : 0 ≤ x ∧ x < y) (hy : y < 2147483648)  : k_C E mJ0_checkIndex_df160 2 [.int (iI (x)), .int (iI (y))] sh σ 0 0 (k_ret none sh σ) := by
  refine k_C_of (ls0 := [(0, .int (iI (x))), (1, .int (iI (y)))]) rfl pnJ0 (fun v hv => k_cat1 rfl hv) (Nat.le_of_ble_eq_true rfl) rfl ?_
  refine k_iload_n dJ0_checkIndex_df160_0 0 rfl rfl ?_
  refine k_iload_n dJ0_checkIndex_df160_1 1 rfl rfl ?_
  refine k_getFM dJ0_checkIndex_df160_2 w_1372 ?_
  refine k_callSr (st := []) (as := [.int (iI (x)), .int (iI (y)), .ref 1000001]) dJ0_checkIndex_df160_5 oJ3_checkIndex_8e157 w_1571 w_1572 rfl (by omega) rfl (Nat.le_of_ble_eq_true rfl) (c_checkIndex (by omega) (by omega)) ?_
  refine k_pop dJ0_checkIndex_df160_8 rfl ?_
  exact k_retv dJ0_checkIndex_df160_9 rfl rfl
set_option maxHeartbeats 4000000 in
theorem c_latCharAt {i : Nat} (hi : i < 24) {j : Int} (hj : 0 ≤ j ∧ j < k_len i)  : k_C E mJ1_charAt_3b067 3 [.ref (1000040 + i), .int (iI (j))] sh σ 0 0 (k_ret (some (.int (iI (k_ch i j.toNat)))) sh σ) := by
  refine k_C_of (ls0 := [(0, .ref (1000040 + i)), (1, .int (iI (j)))]) rfl pnJ1 (fun v hv => k_cat1 rfl hv) (Nat.le_of_ble_eq_true rfl) rfl ?_
  have q1 := k_str_ok i hi
  have q2 := q1.1
  have q3 := q1.2 j.toNat (by omega)
  refine k_iload_n dJ1_charAt_3b067_0 1 rfl rfl ?_
  refine k_aload_n dJ1_charAt_3b067_1 0 rfl rfl (by omega) ?_
  refine k_alenS dJ1_charAt_3b067_2 hi ?_
  refine k_callSr (st := []) (as := [.int (iI (j)), .int (iI ((k_len i : Int)))]) dJ1_charAt_3b067_3 oJ0_checkIndex_df160 w_1651 w_1569 rfl (by omega) rfl (Nat.le_of_ble_eq_true rfl) (c_strCheck (by omega) (by omega)) ?_
  refine k_aload_n dJ1_charAt_3b067_6 0 rfl rfl (by omega) ?_
  refine k_iload_n dJ1_charAt_3b067_7 1 rfl rfl ?_
  refine k_baldS dJ1_charAt_3b067_8 hi (by omega) (by omega) (by omega) ?_
  refine k_sipush (v := 255) dJ1_charAt_3b067_9 (by decide) ?_
  refine k_iand (v := (iI (k_ch i (j).toNat))) dJ1_charAt_3b067_12 (k_nB (by omega)).2.1 ?_
  refine k_i2c (v := (iI (k_ch i (j).toNat))) dJ1_charAt_3b067_13 (k_nB (by omega)).2.2.1 ?_
  exact k_retZ dJ1_charAt_3b067_14 rfl (k_narC (by omega)) rfl (by rfl)
set_option maxHeartbeats 4000000 in
theorem c_strCharAt {i : Nat} (hi : i < 24) {j : Int} (hj : 0 ≤ j ∧ j < k_len i)  : k_C E mJ0_charAt_5068e 4 [.ref (1000010 + i), .int (iI (j))] sh σ 0 0 (k_ret (some (.int (iI (k_ch i j.toNat)))) sh σ) := by
  refine k_C_of (ls0 := [(0, .ref (1000010 + i)), (1, .int (iI (j)))]) rfl pnJ0 (fun v hv => k_cat1 rfl hv) (Nat.le_of_ble_eq_true rfl) rfl ?_
  have q1 := k_str_ok i hi
  have q2 := q1.1
  have q3 := q1.2 j.toNat (by omega)
  refine k_aload_n dJ0_charAt_5068e_0 0 rfl rfl (by omega) ?_
  refine k_callVSr (st := []) (as := []) dJ0_charAt_5068e_1 oJ0_isLatin1_aae02 w_1644 w_1645 w_1646 rfl (by omega) rfl (Nat.le_of_ble_eq_true rfl) hi (c_strLatin hi) ?_
  refine k_if_eq (tgt := 16) dJ0_charAt_5068e_4 rfl ⟨by decide, by decide⟩ (fun h_1 => absurd h_1 (by decide)) (fun h_1 => ?_)
  refine k_aload_n dJ0_charAt_5068e_7 0 rfl rfl (by omega) ?_
  refine k_getfV i dJ0_charAt_5068e_8 hi w_1510 ?_
  refine k_iload_n dJ0_charAt_5068e_11 1 rfl rfl ?_
  refine k_callSr (st := []) (as := [.ref (1000040 + i), .int (iI (j))]) dJ0_charAt_5068e_12 oJ1_charAt_3b067 w_1648 w_1649 rfl (by omega) rfl (Nat.le_of_ble_eq_true rfl) (c_latCharAt hi (by omega)) ?_
  exact k_retZ dJ0_charAt_5068e_15 rfl (k_narC (by omega)) rfl (by rfl)
end K_AA
