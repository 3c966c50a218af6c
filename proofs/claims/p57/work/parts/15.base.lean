/-! ===== the planner's rows of numbers: read, write, copyRow; sets: holds, memberAt; Math.min, max, bitCount ===== -/
section K_K
variable {E : k_E} {M : k_M} {dp pc k n : Nat} {ls : List (Nat × Value)} {st : List Value} {sh : List k_Sh} {σ : Nat → Nat → Int} {Q : k_Q}
theorem k_up_self (σ : Nat → Nat → Int) (a : Nat) : k_up σ a (σ a) = σ := by
  funext i
  by_cases h : i = a
  · rw [h, k_up_same]
  · rw [k_up_ne h]
theorem k_cell_ext {c : ClassId} {w : Nat} {F G : Nat → Int32} (h : ∀ j, j < w → F j = G j) : vp_cell c (w, .inl F) = vp_cell c (w, .inl G) := by
  show arrV c w (fun j => .int (F j)) = arrV c w (fun j => .int (G j))
  unfold arrV
  congr 1
  congr 1
  funext j
  exact congrArg Value.int (h j.val j.isLt)
/-- System.arraycopy of a whole row of ints into one as long -/
theorem k_copy {a0 a w idx : Nat} (hd : decode M.2.1 pc = .ok (.invokestatic idx, 3)) (hl : Cond.methodLink M.1.cls idx arraycopyName ∈ k_TBL) (hnat : Cond.native arraycopyName ∈ k_TBL) (hst : Cond.static arraycopyName ∈ k_TBL) (hini : Cond.initialized "java/lang/System" ∈ k_TBL) (hdp : 2 ≤ dp) (h0 : a0 ≠ 1000001) (h1 : a ≠ 1000001) (hs0 : sh[a0]? = some (.inl (0, w))) (hs1 : sh[a]? = some (.inl (0, w))) (hw : w < 65536) (hcat : (st.map fun v => v.category).sum ≤ 8) (kk : k_V E M dp (pc + 3) ls st sh (k_up σ a (σ a0)) k n Q) : k_V E M dp pc ls (.int (iI (w : Int)) :: .int (iI 0) :: .ref a :: .int (iI 0) :: .ref a0 :: st) sh σ k n Q := by
  intro N0 ad0 p e R s m args below meth c H locs cells slots lsC ad mc ms C X hl0
  have hr : k_r (w : Int) := ⟨by omega, by omega⟩
  have hz : (iI 0).toNatClampNeg = 0 := iI_clamp k_r0
  have hwc : (iI (w : Int)).toNatClampNeg = w := by rw [iI_clamp hr]; omega
  have hneg : ∀ z : Int, k_r z → 0 ≤ z → ¬ iI z < 0 := fun z hz h0 h => by
    have := (iI_lt hz k_r0).mp h
    omega
  have r1 := C.2.2.2.2.2.2.2.2.2.2.1
  have r2 := C.2.2.2.2.2.2.2.2.2.2.2
  have hst2 : ((st.map (k_cv E ad)).map fun v => v.category).sum ≤ 8 := by
    rw [List.map_map]
    refine Nat.le_trans (Nat.le_of_eq ?_) hcat
    congr 1
    exact List.map_congr_left fun v _ => k_cat (k_fmc C) v
  have hnw : nativeFrameWords "java/lang/System" "arraycopy" 5 ≤ 64 := by decide +kernel
  simp only [List.map_cons]
  rw [k_cv_ref h0, k_cv_ref h1]
  refine va_copyi (q0 := a0) (q1 := a) (t0 := 0) (t1 := 0) (n0 := w) (n1 := w) (f := fun j => iI (σ a0 j)) (g := fun j => iI (σ a j)) (c0 := k_dA E 0) (c1 := k_dA E 0) (ty := .int) (sp := iI 0) (dp := iI 0) (n := iI (w : Int)) C.1 C.2.1 (C.2.2.2.1.trans hl0.1.symm) C.2.2.2.2.1 (C.2.2.2.2.2.1 _ (k_cws hl)) (C.2.2.2.2.2.1 _ (k_cws hnat)) (C.2.2.2.2.2.1 _ (k_cws hst)) (C.2.2.2.2.2.1 _ (k_cws hini)) (k_Kat C) X.2.2.2.2.2.2.1 X.2.2.2.2.2.2.2.1 X.2.2.2.2.2.1 (k_aent hs0) (k_aent hs1) (k_tys_at E (k := 0) (by decide)) (k_tys_at E (k := 0) (by decide)) rfl (hneg 0 k_r0 (by decide)) (hneg 0 k_r0 (by decide)) (hneg _ hr (by omega)) (by rw [hz, hwc]; omega) (by rw [hz, hwc]; omega) (fun i _ => rfl) (by omega) (by omega) hd (fun H1 locs1 hP hD hS => ?_)
  rw [hz, hwc] at hP hD
  have hf := k_cw_set1 (E := E) (ad := ad) (σ := σ) (f := σ a0) hs1
  have hD2 : va_D (k_A E) (k_cw E ad sh (k_up σ a (σ a0))) := by
    rw [← hf]
    exact X.2.2.2.2.2.2.2.1.set (k_aent hs1)
  have hP2 : va_P (k_D E) k_cls (k_cw E ad sh (k_up σ a (σ a0))) H1 := by
    rw [← hf]
    intro q x hx
    rw [List.getElem?_set] at hx
    by_cases hq : a = q
    · subst hq
      have hlt : a < (k_cw E ad sh σ).length := (List.getElem?_eq_some_iff.mp (k_aent (E := E) (ad := ad) (σ := σ) hs1)).1
      rw [if_pos rfl, if_pos hlt] at hx
      cases hx
      have h2 := hP a (ad a, .inl (k_dA E 0, w, .inl (va_cpy (fun j => iI (σ a0 j)) (fun j => iI (σ a j)) 0 0 w))) (by rw [List.getElem?_set, if_pos rfl, if_pos hlt])
      have h3 : H1[ad a]? = some (vp_cell (k_dA E 0) (w, .inl (va_cpy (fun j => iI (σ a0 j)) (fun j => iI (σ a j)) 0 0 w))) := h2
      show H1[ad a]? = some (vp_cell (k_dA E 0) (w, .inl fun j => iI (σ a0 j)))
      rw [h3, k_cell_ext (G := fun j => iI (σ a0 j)) fun j hj => ?_]
      unfold va_cpy
      rw [if_pos (by omega)]
      simp
    · rw [if_neg hq] at hx
      exact hP q x (by rw [List.getElem?_set, if_neg hq]; exact hx)
  exact kk N0 ad0 p e R s m args below meth c H1 locs1 cells slots lsC ad mc ms C ⟨X.1, X.2.1, X.2.2.1, X.2.2.2.1, X.2.2.2.2.1, hS, hP2, hD2, X.2.2.2.2.2.2.2.2⟩ hl0
def f_read (f : Nat → Int) (w : Nat) (i : Int) : Int := if 0 ≤ i ∧ i < w then f i.toNat else -1
def f_write (f : Nat → Int) (w : Nat) (i v : Int) : Nat → Int := if 0 ≤ i ∧ i < w then k_u1 f i.toNat v else f
set_option maxHeartbeats 4000000 in
theorem c_read {a w : Nat} {i : Int} (ha : a ≠ 1000001) (hs : sh[a]? = some (.inl (0, w))) (hw : w < 65536) (hi : -2147483648 ≤ i ∧ i < 2147483648) : k_C E mX7_read 1 [.ref a, .int (iI i)] sh σ 0 0 (k_ret (some (.int (iI (f_read (σ a) w i)))) sh σ) := by
  refine k_C_of (ls0 := [(0, .ref a), (1, .int (iI i))]) rfl pnX7 (fun v hv => k_cat1 rfl hv) (Nat.le_of_ble_eq_true rfl) rfl ?_
  refine k_iload_n dX7_read_0 1 rfl rfl ?_
  refine k_if_lt (tgt := 16) dX7_read_1 rfl hi (fun h => ?_) (fun h => ?_)
  · refine k_iconst (v := -1) dX7_read_16 rfl ?_
    exact k_reti dX7_read_17 rfl rfl (by rw [f_read, if_neg (by omega)])
  · refine k_iload_n dX7_read_4 1 rfl rfl ?_
    refine k_aload_n dX7_read_5 0 rfl rfl ha ?_
    refine k_alen dX7_read_6 ha hs (by decide) ?_
    refine k_icmp_ge (tgt := 16) dX7_read_7 rfl hi ⟨by omega, by omega⟩ (fun h2 => ?_) (fun h2 => ?_)
    · refine k_iconst (v := -1) dX7_read_16 rfl ?_
      exact k_reti dX7_read_17 rfl rfl (by rw [f_read, if_neg (by omega)])
    · refine k_aload_n dX7_read_10 0 rfl rfl ha ?_
      refine k_iload_n dX7_read_11 1 rfl rfl ?_
      refine k_iald dX7_read_12 ha hs h h2 (by omega) ?_
      refine k_goto (tgt := 17) dX7_read_13 rfl ?_
      exact k_reti dX7_read_17 rfl rfl (by rw [f_read, if_pos ⟨h, h2⟩])
set_option maxHeartbeats 4000000 in
theorem c_write {a w : Nat} {i v : Int} (ha : a ≠ 1000001) (hs : sh[a]? = some (.inl (0, w))) (hw : w < 65536) (hi : -2147483648 ≤ i ∧ i < 2147483648) : k_C E mX7_write 1 [.ref a, .int (iI i), .int (iI v)] sh σ 0 0 (k_ret none sh (k_up σ a (f_write (σ a) w i v))) := by
  refine k_C_of (ls0 := [(0, .ref a), (1, .int (iI i)), (2, .int (iI v))]) rfl pnX7 (fun v hv => k_cat1 rfl hv) (Nat.le_of_ble_eq_true rfl) rfl ?_
  refine k_iload_n dX7_write_0 1 rfl rfl ?_
  refine k_if_lt (tgt := 14) dX7_write_1 rfl hi (fun h => ?_) (fun h => ?_)
  · exact k_retv dX7_write_14 rfl (by rw [f_write, if_neg (by omega), k_up_self])
  · refine k_iload_n dX7_write_4 1 rfl rfl ?_
    refine k_aload_n dX7_write_5 0 rfl rfl ha ?_
    refine k_alen dX7_write_6 ha hs (by decide) ?_
    refine k_icmp_ge (tgt := 14) dX7_write_7 rfl hi ⟨by omega, by omega⟩ (fun h2 => ?_) (fun h2 => ?_)
    · exact k_retv dX7_write_14 rfl (by rw [f_write, if_neg (by omega), k_up_self])
    · refine k_aload_n dX7_write_10 0 rfl rfl ha ?_
      refine k_iload_n dX7_write_11 1 rfl rfl ?_
      refine k_iload_n dX7_write_12 2 rfl rfl ?_
      refine k_iast dX7_write_13 ha hs h h2 (by omega) ?_
      exact k_retv dX7_write_14 rfl (by rw [f_write, if_pos ⟨h, h2⟩])
end K_K
