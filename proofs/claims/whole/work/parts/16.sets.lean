/-! ===== sets and rows: in range; holds, memberAt, copyRow ===== -/
section K_L
variable {E : k_E} {sh : List k_Sh} {σ : Nat → Nat → Int}
def z_max (a b : Int) : Int := if b ≤ a then a else b
def z_min (a b : Int) : Int := if a ≤ b then a else b
variable {M : k_M} {dp pc k n : Nat} {ls : List (Nat × Value)} {st : List Value} {Q : k_Q}
theorem k_w437 : Cond.native arraycopyName ∈ k_TBL := List.mem_filter.mpr ⟨List.mem_of_getElem? (i := 437) (by decide +kernel), rfl⟩
theorem k_codemax : Cond.code Lib.Math.max.name Lib.Math.max.code 2 (some .int) ∈ k_TBL := List.mem_filter.mpr ⟨List.mem_of_getElem? (i := 932) (by decide +kernel), rfl⟩
theorem k_codemin : Cond.code Lib.Math.min.name Lib.Math.min.code 2 (some .int) ∈ k_TBL := List.mem_filter.mpr ⟨List.mem_of_getElem? (i := 434) (by decide +kernel), rfl⟩
theorem k_initmath : Cond.initialized "java/lang/Math" ∈ k_TBL := w_107
theorem k_mmax {idx : Nat} {a b : Int} (hd : decode M.2.1 pc = .ok (.invokestatic idx, 3)) (hl : Cond.methodLink M.1.cls idx Lib.Math.max.name ∈ k_TBL) (hs : Cond.static Lib.Math.max.name ∈ k_TBL) (hdp : 1 ≤ dp) (hcat : (st.map fun v => v.category).sum ≤ 8) (ha : k_r a) (hb : k_r b) (kk : k_V E M dp (pc + 3) ls (.int (iI (z_max a b)) :: st) sh σ k n Q) : k_V E M dp pc ls (.int (iI b) :: .int (iI a) :: st) sh σ k n Q := by
  intro N0 ad0 p e R s m args below meth c H locs cells slots lsC ad mc ms C X hl0
  have r1 := C.2.2.2.2.2.2.2.2.2.2.1
  have r2 := C.2.2.2.2.2.2.2.2.2.2.2
  have hst2 : ((st.map (k_cv E ad)).map fun v => v.category).sum ≤ 8 := by
    rw [List.map_map]
    refine Nat.le_trans (Nat.le_of_eq ?_) hcat
    congr 1
    exact List.map_congr_left fun v _ => k_cat (k_fmc C) v
  have h := kk N0 ad0 p e R s m args below meth c H locs cells slots lsC ad mc ms C X hl0
  have e : iI (z_max a b) = if iI a < iI b then iI b else iI a := by
    unfold z_max
    by_cases q : a < b
    · rw [if_pos ((iI_lt ha hb).mpr q), if_neg (by omega)]
    · rw [if_neg (fun z => q ((iI_lt ha hb).mp z)), if_pos (by omega)]
  rw [e] at h
  exact va_mmax C.1 C.2.1 (C.2.2.2.1.trans hl0.1.symm) C.2.2.2.2.1 (C.2.2.2.2.2.1 _ (k_cws hl)) (C.2.2.2.2.2.1 _ (k_cws hs)) (C.2.2.2.2.2.1 _ (k_cws k_initmath)) (C.2.2.2.2.2.1 _ (k_cws k_codemax)) (by omega) (by omega) (by have := X.2.1; have := X.2.2.2.1; omega) (by have := X.2.2.1; have := X.2.2.2.2.1; omega) hd h
theorem k_mmin {idx : Nat} {a b : Int} (hd : decode M.2.1 pc = .ok (.invokestatic idx, 3)) (hl : Cond.methodLink M.1.cls idx Lib.Math.min.name ∈ k_TBL) (hs : Cond.static Lib.Math.min.name ∈ k_TBL) (hdp : 1 ≤ dp) (hcat : (st.map fun v => v.category).sum ≤ 8) (ha : k_r a) (hb : k_r b) (kk : k_V E M dp (pc + 3) ls (.int (iI (z_min a b)) :: st) sh σ k n Q) : k_V E M dp pc ls (.int (iI b) :: .int (iI a) :: st) sh σ k n Q := by
  intro N0 ad0 p e R s m args below meth c H locs cells slots lsC ad mc ms C X hl0
  have r1 := C.2.2.2.2.2.2.2.2.2.2.1
  have r2 := C.2.2.2.2.2.2.2.2.2.2.2
  have hst2 : ((st.map (k_cv E ad)).map fun v => v.category).sum ≤ 8 := by
    rw [List.map_map]
    refine Nat.le_trans (Nat.le_of_eq ?_) hcat
    congr 1
    exact List.map_congr_left fun v _ => k_cat (k_fmc C) v
  have h := kk N0 ad0 p e R s m args below meth c H locs cells slots lsC ad mc ms C X hl0
  have e : iI (z_min a b) = if iI b < iI a then iI b else iI a := by
    unfold z_min
    by_cases q : b < a
    · rw [if_pos ((iI_lt hb ha).mpr q), if_neg (by omega)]
    · rw [if_neg (fun z => q ((iI_lt hb ha).mp z)), if_pos (by omega)]
  rw [e] at h
  exact va_mmin C.1 C.2.1 (C.2.2.2.1.trans hl0.1.symm) C.2.2.2.2.1 (C.2.2.2.2.2.1 _ (k_cws hl)) (C.2.2.2.2.2.1 _ (k_cws hs)) (C.2.2.2.2.2.1 _ (k_cws k_initmath)) (C.2.2.2.2.2.1 _ (k_cws k_codemin)) (by omega) (by omega) (by have := X.2.1; have := X.2.2.2.1; omega) (by have := X.2.2.1; have := X.2.2.2.2.1; omega) hd h
theorem pnJ6 : plainName RJ6 = true := by decide +kernel
theorem c_readIn {a w : Nat} {i : Int} (ha : a ≠ 1000001) (hs : sh[a]? = some (.inl (0, w))) (hw : w < 65536) (h0 : 0 ≤ i) (h1 : i < w) : k_C E mX7_read 1 [.ref a, .int (iI i)] sh σ 0 0 (k_ret (some (.int (iI (σ a i.toNat)))) sh σ) := by
  have h := c_read (E := E) (σ := σ) (i := i) ha hs hw ⟨by omega, by omega⟩
  rw [f_read, if_pos ⟨h0, h1⟩] at h
  exact h
theorem c_writeIn {a w : Nat} {i v : Int} (ha : a ≠ 1000001) (hs : sh[a]? = some (.inl (0, w))) (hw : w < 65536) (h0 : 0 ≤ i) (h1 : i < w) : k_C E mX7_write 1 [.ref a, .int (iI i), .int (iI v)] sh σ 0 0 (k_ret none sh (k_up σ a (k_u1 (σ a) i.toNat v))) := by
  have h := c_write (E := E) (σ := σ) (i := i) (v := v) ha hs hw ⟨by omega, by omega⟩
  rw [f_write, if_pos ⟨h0, h1⟩] at h
  exact h
set_option maxHeartbeats 4000000 in
theorem c_holds {x m : Int} (hx : 0 ≤ x ∧ x < 65536) (hm : -2147483648 ≤ m ∧ m < 2147483648) : k_C E mX7_holds 1 [.int (iI (x)), .int (iI (m))] sh σ 0 0 (k_ret (some (.int (iI (zb (0 ≤ m ∧ m < 16 ∧ z_bit x m = true))))) sh σ) := by
  refine k_C_of (ls0 := [(0, .int (iI (x))), (1, .int (iI (m)))]) rfl pnX7 (fun v hv => k_cat1 rfl hv) (Nat.le_of_ble_eq_true rfl) rfl ?_
  refine k_iload_n dX7_holds_0 1 rfl rfl ?_
  refine k_if_lt (tgt := 23) dX7_holds_1 rfl ⟨by omega, by omega⟩ (fun h_1 => ?_) (fun h_1 => ?_)
  · refine k_iconst (v := 0) dX7_holds_23 rfl ?_
    exact k_retz dX7_holds_24 rfl (Or.inl rfl) rfl (by first | (rw [zb_f (by omega)]) | (rw [zb_f (fun q => zb_n1.mp h_3 q.2.2)]) | (rw [zb_t ⟨h_1, h_2, zb_1.mp h_3⟩]))
  · refine k_iload_n dX7_holds_4 1 rfl rfl ?_
    refine k_bipush (v := 16) dX7_holds_5 (by decide) ?_
    refine k_icmp_ge (tgt := 23) dX7_holds_7 rfl ⟨by omega, by omega⟩ ⟨by decide, by decide⟩ (fun h_2 => ?_) (fun h_2 => ?_)
    · refine k_iconst (v := 0) dX7_holds_23 rfl ?_
      exact k_retz dX7_holds_24 rfl (Or.inl rfl) rfl (by first | (rw [zb_f (by omega)]) | (rw [zb_f (fun q => zb_n1.mp h_3 q.2.2)]) | (rw [zb_t ⟨h_1, h_2, zb_1.mp h_3⟩]))
    · refine k_iload_n dX7_holds_10 0 rfl rfl ?_
      refine k_iload_n dX7_holds_11 1 rfl rfl ?_
      refine k_ishr (v := (iI x >>> (iI m &&& 31))) dX7_holds_12 rfl ?_
      refine k_iconst (v := 1) dX7_holds_13 rfl ?_
      refine k_iand (v := (iI (zb (z_bit x m = true)))) dX7_holds_14 (z_holdsI hx.1 (by omega) (by omega) (by omega)) ?_
      refine k_iconst (v := 1) dX7_holds_15 rfl ?_
      refine k_icmp_ne (tgt := 23) dX7_holds_16 rfl (zb_kr _) ⟨by decide, by decide⟩ (fun h_3 => ?_) (fun h_3 => ?_)
      · refine k_iconst (v := 0) dX7_holds_23 rfl ?_
        exact k_retz dX7_holds_24 rfl (Or.inl rfl) rfl (by first | (rw [zb_f (by omega)]) | (rw [zb_f (fun q => zb_n1.mp h_3 q.2.2)]) | (rw [zb_t ⟨h_1, h_2, zb_1.mp h_3⟩]))
      · refine k_iconst (v := 1) dX7_holds_19 rfl ?_
        refine k_goto (tgt := 24) dX7_holds_20 rfl ?_
        exact k_retz dX7_holds_24 rfl (Or.inr rfl) rfl (by first | (rw [zb_f (by omega)]) | (rw [zb_f (fun q => zb_n1.mp h_3 q.2.2)]) | (rw [zb_t ⟨h_1, h_2, zb_1.mp h_3⟩]))
set_option maxHeartbeats 4000000 in
theorem c_copyRow {a0 a w : Nat} (h0 : a0 ≠ 1000001) (h1 : a ≠ 1000001) (hs0 : sh[a0]? = some (.inl (0, w))) (hs1 : sh[a]? = some (.inl (0, w))) (hw : w < 65536) : k_C E mX7_copyRow 2 [.ref a0, .ref a] sh σ 0 0 (k_ret none sh (k_up σ a (σ a0))) := by
  refine k_C_of (ls0 := [(0, .ref a0), (1, .ref a)]) rfl pnX7 (fun v hv => k_cat1 rfl hv) (Nat.le_of_ble_eq_true rfl) rfl ?_
  refine k_aload_n dX7_copyRow_0 0 rfl rfl h0 ?_
  refine k_iconst (v := 0) dX7_copyRow_1 rfl ?_
  refine k_aload_n dX7_copyRow_2 1 rfl rfl h1 ?_
  refine k_iconst (v := 0) dX7_copyRow_3 rfl ?_
  refine k_aload_n dX7_copyRow_4 0 rfl rfl h0 ?_
  refine k_alen dX7_copyRow_5 h0 hs0 (by decide) ?_
  refine k_aload_n dX7_copyRow_6 1 rfl rfl h1 ?_
  refine k_alen dX7_copyRow_7 h1 hs1 (by decide) ?_
  refine k_mmin dX7_copyRow_8 w_432 w_433 (by decide) (Nat.le_of_ble_eq_true rfl) ⟨by omega, by omega⟩ ⟨by omega, by omega⟩ ?_
  have e : z_min (w : Int) (w : Int) = (w : Int) := by unfold z_min; split <;> rfl
  rw [e]
  refine k_copy dX7_copyRow_11 w_435 k_w437 w_436 w_108 (by omega) h0 h1 hs0 hs1 hw (Nat.le_of_ble_eq_true rfl) ?_
  exact k_retv dX7_copyRow_14 rfl rfl
end K_L
