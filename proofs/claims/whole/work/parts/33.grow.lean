/-! ===== StringBuilder that grows ===== -/
section K_AC
variable {E : k_E} {M M1 : k_M} {dp d1 pc k n k1 n1 na : Nat} {ls : List (Nat × Value)} {st as : List Value} {sh : List k_Sh} {σ σ' : Nat → Nat → Int} {Q Q1 : k_Q} {o : Option Value}
theorem k_copyB {a0 a w w2 idx : Nat} (hd : decode M.2.1 pc = .ok (.invokestatic idx, 3)) (hl : Cond.methodLink M.1.cls idx arraycopyName ∈ k_TBL) (hnat : Cond.native arraycopyName ∈ k_TBL) (hst : Cond.static arraycopyName ∈ k_TBL) (hini : Cond.initialized "java/lang/System" ∈ k_TBL) (hdp : 2 ≤ dp) (h0 : a0 ≠ 1000001) (h1 : a ≠ 1000001) (hs0 : sh[a0]? = some (.inl (2, w))) (hs1 : sh[a]? = some (.inl (2, w2))) (hw : w < 65536) (hle : w ≤ w2) (hfit : ∀ j, fits .byte (.int (iI (σ a0 j))) = true) (hcat : (st.map fun v => v.category).sum ≤ 8) (kk : k_V E M dp (pc + 3) ls st sh (k_up σ a (fun j => if j < w then σ a0 j else σ a j)) k n Q) : k_V E M dp pc ls (.int (iI (w : Int)) :: .int (iI 0) :: .ref a :: .int (iI 0) :: .ref a0 :: st) sh σ k n Q := by
  intro N0 ad0 p e R s m args below meth c H locs cells slots lsC ad mc ms C X hl0
  have hr : k_r (w : Int) := ⟨by omega, by omega⟩
  have hz : (iI 0).toNatClampNeg = 0 := iI_clamp k_r0
  have hwc : (iI (w : Int)).toNatClampNeg = w := by rw [iI_clamp hr]; omega
  have hneg : ∀ z : Int, k_r z → 0 ≤ z → ¬ iI z < 0 := fun z hz h0 h => by
    have := (iI_lt hz k_r0).mp h
    omega
  have r1 := C.2.2.2.2.2.2.2.2.2.2.1
  have r2 := C.2.2.2.2.2.2.2.2.2.2.2
  have hst2 : ((st.map (k_cv E ad)).map fun v => v.category).sum ≤ 8 := by
    rw [List.map_map]
    refine Nat.le_trans (Nat.le_of_eq ?_) hcat
    congr 1
    exact List.map_congr_left fun v _ => k_cat (k_fmc C) v
  have hnw : nativeFrameWords "java/lang/System" "arraycopy" 5 ≤ 64 := by decide +kernel
  simp only [List.map_cons]
  rw [k_cv_ref h0, k_cv_ref h1]
  refine va_copyi (q0 := a0) (q1 := a) (t0 := 2) (t1 := 2) (n0 := w) (n1 := w2) (f := fun j => iI (σ a0 j)) (g := fun j => iI (σ a j)) (c0 := k_dA E 2) (c1 := k_dA E 2) (ty := .byte) (sp := iI 0) (dp := iI 0) (n := iI (w : Int)) C.1 C.2.1 (C.2.2.2.1.trans hl0.1.symm) C.2.2.2.2.1 (C.2.2.2.2.2.1 _ (k_cws hl)) (C.2.2.2.2.2.1 _ (k_cws hnat)) (C.2.2.2.2.2.1 _ (k_cws hst)) (C.2.2.2.2.2.1 _ (k_cws hini)) (k_Kat C) X.2.2.2.2.2.2.1 X.2.2.2.2.2.2.2.1 X.2.2.2.2.2.1 (k_aent hs0) (k_aent hs1) (k_tys_at E (k := 2) (by decide)) (k_tys_at E (k := 2) (by decide)) rfl (hneg 0 k_r0 (by decide)) (hneg 0 k_r0 (by decide)) (hneg _ hr (by omega)) (by rw [hz, hwc]; omega) (by rw [hz, hwc]; omega) (fun i _ => hfit _) (by omega) (by omega) hd (fun H1 locs1 hP hD hS => ?_)
  rw [hz, hwc] at hP hD
  have hf := k_cw_set1 (E := E) (ad := ad) (σ := σ) (f := (fun j => if j < w then σ a0 j else σ a j)) hs1
  have hD2 : va_D (k_A E) (k_cw E ad sh (k_up σ a (fun j => if j < w then σ a0 j else σ a j))) := by
    rw [← hf]
    exact X.2.2.2.2.2.2.2.1.set (k_aent hs1)
  have hP2 : va_P (k_D E) k_cls (k_cw E ad sh (k_up σ a (fun j => if j < w then σ a0 j else σ a j))) H1 := by
    rw [← hf]
    intro q x hx
    rw [List.getElem?_set] at hx
    by_cases hq : a = q
    · subst hq
      have hlt : a < (k_cw E ad sh σ).length := (List.getElem?_eq_some_iff.mp (k_aent (E := E) (ad := ad) (σ := σ) hs1)).1
      rw [if_pos rfl, if_pos hlt] at hx
      cases hx
      have h2 := hP a (ad a, .inl (k_dA E 2, w2, .inl (va_cpy (fun j => iI (σ a0 j)) (fun j => iI (σ a j)) 0 0 w))) (by rw [List.getElem?_set, if_pos rfl, if_pos hlt])
      have h3 : H1[ad a]? = some (vp_cell (k_dA E 2) (w2, .inl (va_cpy (fun j => iI (σ a0 j)) (fun j => iI (σ a j)) 0 0 w))) := h2
      show H1[ad a]? = some (vp_cell (k_dA E 2) (w2, .inl fun j => iI ((fun j => if j < w then σ a0 j else σ a j) j)))
      rw [h3, k_cell_ext (G := fun j => iI ((fun j => if j < w then σ a0 j else σ a j) j)) fun j hj => ?_]
      unfold va_cpy
      by_cases hj2 : j < w
      · simp [hj2]
      · simp [hj2]
    · rw [if_neg hq] at hx
      exact hP q x (by rw [List.getElem?_set, if_neg hq]; exact hx)
  exact kk N0 ad0 p e R s m args below meth c H1 locs1 cells slots lsC ad mc ms C ⟨X.1, X.2.1, X.2.2.1, X.2.2.2.1, X.2.2.2.2.1, hS, hP2, hD2, X.2.2.2.2.2.2.2.2⟩ hl0

theorem k_ret_r {x : Nat} {rt : FieldType} (hd : decode M.2.1 pc = .ok (.areturn, 1)) (hr : M.2.2.2.1 = some rt) (hrt : (∃ n, rt = .object n) ∨ ∃ t, rt = .array t) (hx : x ≠ 1000001) (hQ : Q (.inl (some (.ref x))) sh σ) : k_V E M dp pc ls [.ref x] sh σ k n Q := by
  intro N0 ad0 p e R s m args below meth c H locs cells slots lsC ad mc ms C X hl
  have e1 : [Value.ref x].map (k_cv E ad) = [.ref (ad x)] := by simp [k_cv_ref hx]
  rw [e1]
  refine W.widen (Nat.le_trans (Nat.le_add_right _ _) X.2.1) (Nat.le_trans (Nat.le_add_right _ _) X.2.2.1) (vx_ret (W.aret C.1 C.2.1 (C.2.2.1.trans hr) hrt (Or.inr ⟨_, rfl⟩) (fun t ht hW => ⟨some (.ref x), sh, σ, ad, by simp [k_cv_ref hx], hQ, X.1, ht ▸ X.2.2.2.2.2.2, X.2.2.2.2.2.1.F ht⟩) X.2.2.2.2.2.1.2.2 hd C.2.2.2.2.2.2.1))
/-- putfield of an array into a field that may change -/
theorem k_put1 {a idx ci kf N r : Nat} {cs : List Nat} {C : String} {T : u_T} {ty : Nat → FieldType} (hd : decode M.2.1 pc = .ok (.putfield idx, 3)) (hT : k_Cls ci C T N ty) (hw : Cond.fieldLink M.1.cls idx (T kf).1 (T kf).2.1 (T kf).2.2.1 ∈ k_TBL) (hkf : kf < N) (ha : a ≠ 1000001) (hs : sh[a]? = some (.inr (ci, cs))) (hc : cs[kf]? = some 1) (hfin : (T kf).2.2.2 = false) (hr : r ≠ 1000001) (hn : ∀ x, narrow (ty kf) (.ref x) = .ref x) (hfit : ∀ x, fits (ty kf) (.ref x) = true) (kk : k_V E M dp (pc + 3) ls st sh (k_up σ a (k_u1 (σ a) kf (r : Int))) k n Q) : k_V E M dp pc ls (.ref r :: .ref a :: st) sh σ k n Q := by
  intro N0 ad0 p e R s m args below meth c H locs cells slots lsC ad mc ms C X hl
  rw [List.map_cons, List.map_cons, k_cv_ref ha, k_cv_ref hr]
  refine va_put (Ts := k_ws M) (T := T) (cl := k_cls) (D := k_D E) C.1 C.2.1 C.2.2.2.2.2.1 (fun w h => k_cws (hT.2.1 w h)) ty hT.2.2.1 hT.2.2.2 C.2.2.2.2.1 (k_Kat C) X.2.2.2.2.2.2.1 X.2.2.2.2.2.2.2.1 X.2.2.2.2.2.1 a (k_obj hs) hT.1 kf hkf (C.2.2.2.2.2.1 _ (k_cws hw)) (fun _ h => h) hfin (hT.2.2.1 kf hkf) (hn _) (hfit _) (by rw [List.length_mapIdx]; exact (List.getElem?_eq_some_iff.mp hc).1) hd (fun H1 locs1 hP hD hS => ?_)
  have hf := k_fset (E := E) (ad := ad) (σ := σ) (z := (r : Int)) hs hc
  rw [show Value.ref (ad r) = k_cv E ad (k_fv 1 (r : Int)) from by show Value.ref (ad r) = k_cv E ad (.ref ((r : Int).toNat)); rw [Int.toNat_natCast, k_cv_ref hr], hf] at hP hD
  exact kk N0 ad0 p e R s m args below meth c H1 locs1 cells slots lsC ad mc ms C ⟨X.1, X.2.1, X.2.2.1, X.2.2.2.1, X.2.2.2.2.1, hS, hP, hD, X.2.2.2.2.2.2.2.2⟩ hl
theorem k_fitB {e : Int} (h : 0 ≤ e ∧ e < 128) : fits .byte (.int (iI e)) = true := by
  have h1 : (List.range 128).all (fun x => fits .byte (.int (iI (x : Int)))) = true := by decide +kernel
  have := List.all_eq_true.mp h1 e.toNat (List.mem_range.mpr (by omega))
  rw [Int.toNat_of_nonneg h.1] at this
  exact this
/-- a longer copy of the bytes at v, in a new cell -/
def u_grow (σ : Nat → Nat → Int) (N v w : Nat) : Nat → Nat → Int := k_up σ N (fun j => if j < w then σ v j else 0)
theorem w_1338 : Cond.constant "jdk/internal/util/ArraysSupport" 200 2147483639 ∈ k_TBL := List.mem_filter.mpr ⟨List.mem_of_getElem? (by decide +kernel : lw_tbl[1338]? = some (Cond.constant "jdk/internal/util/ArraysSupport" 200 2147483639)), rfl⟩
theorem w_1342 : Cond.constant "java/lang/AbstractStringBuilder" 39 2147483647 ∈ k_TBL := List.mem_filter.mpr ⟨List.mem_of_getElem? (by decide +kernel : lw_tbl[1342]? = some (Cond.constant "java/lang/AbstractStringBuilder" 39 2147483647)), rfl⟩
set_option maxHeartbeats 4000000 in
theorem c_newLength {x : Int} (hx : -2147483648 ≤ x ∧ x < 2147483648) (hx0 : 0 ≤ x ∧ x ≤ 1000) : k_C E mJ8_newLength_cabcc 2 [.int (iI (x)), .int (iI (1)), .int (iI (x + 2))] sh σ 0 0 (k_ret (some (.int (iI (2 * x + 2)))) sh σ) := by
  refine k_C_of (ls0 := [(0, .int (iI (x))), (1, .int (iI (1))), (2, .int (iI (x + 2)))]) rfl pnJ8 (fun v hv => k_cat1 rfl hv) (Nat.le_of_ble_eq_true rfl) rfl ?_
  refine k_iload_n dJ8_newLength_cabcc_0 0 rfl rfl ?_
  refine k_iload_n dJ8_newLength_cabcc_1 1 rfl rfl ?_
  refine k_iload_n dJ8_newLength_cabcc_2 2 rfl rfl ?_
  refine k_mmax (st := [.int (iI (x))]) dJ8_newLength_cabcc_3 w_1337 w_930 (by omega) (Nat.le_of_ble_eq_true rfl) ⟨by omega, by omega⟩ ⟨by omega, by omega⟩ ?_
  refine k_eqst (congrArg (fun z : Int => Value.int (iI z) :: [.int (iI (x))]) (show x + 2 = z_max (1) (x + 2) from by unfold z_max; split <;> omega)) ?_
  refine k_iadd dJ8_newLength_cabcc_6 ?_
  refine k_istore_n (ls' := [(0, .int (iI (x))), (1, .int (iI (1))), (2, .int (iI (x + 2))), (3, .int (iI (x + (x + 2))))]) dJ8_newLength_cabcc_7 rfl (by decide) rfl rfl ?_
  refine k_iconst (v := 0) dJ8_newLength_cabcc_8 rfl ?_
  refine k_iload_n dJ8_newLength_cabcc_9 3 rfl rfl ?_
  refine k_icmp_ge (tgt := 21) dJ8_newLength_cabcc_10 rfl ⟨by decide, by decide⟩ ⟨by omega, by omega⟩ (fun h_1 => absurd h_1 (by omega)) (fun h_1 => ?_)
  refine k_iload_n dJ8_newLength_cabcc_13 3 rfl rfl ?_
  refine k_ldc dJ8_newLength_cabcc_14 w_1338 ?_
  refine k_eqst (st' := [.int (iI (2147483639)), .int (iI (x + (x + 2)))]) rfl ?_
  refine k_icmp_gt (tgt := 21) dJ8_newLength_cabcc_16 rfl ⟨by omega, by omega⟩ ⟨by decide, by decide⟩ (fun h_2 => absurd h_2 (by omega)) (fun h_2 => ?_)
  refine k_iload_n dJ8_newLength_cabcc_19 3 rfl rfl ?_
  exact k_reti dJ8_newLength_cabcc_20 rfl rfl (by omega)
set_option maxHeartbeats 4000000 in
theorem c_newCap {a v w : Nat} (hB : k_SB sh σ a v w)  : k_C E mJ5_newCapacity_0f7a4 3 [.ref a, .int (iI ((w : Int) + 1))] sh σ 0 0 (k_ret (some (.int (iI (2 * (w : Int) + 2)))) sh σ) := by
  refine k_C_of (ls0 := [(0, .ref a), (1, .int (iI ((w : Int) + 1)))]) rfl pnJ5 (fun v hv => k_cat1 rfl hv) (Nat.le_of_ble_eq_true rfl) rfl ?_
  obtain ⟨b0, b1, ⟨b2, b3, b4⟩, ⟨b5, b6, b7, b8⟩, b9⟩ := id hB
  have b10 : ¬ v = a := fun e => by rw [e, b0] at b1; cases b1
  refine k_aload_n dJ5_newCapacity_0f7a4_0 0 rfl rfl (by omega) ?_
  refine k_get (kf := 0) (v := .ref (σ a 0).toNat) dJ5_newCapacity_0f7a4_1 kcJ4 w_323 (by decide) (by omega) b0 rfl rfl ?_
  refine k_eqst (st' := [.ref v]) (by have e : (σ a 0).toNat = v := (by rw [b5]; rfl); rw [e]; first | done | rfl) ?_
  refine k_alen dJ5_newCapacity_0f7a4_4 (by omega) b1 (by decide) ?_
  refine k_istore_n (ls' := [(0, .ref a), (1, .int (iI ((w : Int) + 1))), (2, .int (iI ((w : Int))))]) dJ5_newCapacity_0f7a4_5 rfl (by decide) rfl rfl ?_
  refine k_iload_n dJ5_newCapacity_0f7a4_6 1 rfl rfl ?_
  refine k_aload_n dJ5_newCapacity_0f7a4_7 0 rfl rfl (by omega) ?_
  refine k_get (kf := 1) (v := .int (iI (σ a 1))) dJ5_newCapacity_0f7a4_8 kcJ4 w_324 (by decide) (by omega) b0 rfl rfl ?_
  refine k_eqst (congrArg (fun z : Int => Value.int (iI z) :: [.int (iI ((w : Int) + 1))]) (show 0 = σ a 1 from b6.symm)) ?_
  refine k_ishl (v := (iI ((w : Int) + 1))) dJ5_newCapacity_0f7a4_11 (z_shl0 _) ?_
  refine k_istore_n (ls' := [(0, .ref a), (1, .int (iI ((w : Int) + 1))), (2, .int (iI ((w : Int)))), (3, .int (iI ((w : Int) + 1)))]) dJ5_newCapacity_0f7a4_12 rfl (by decide) rfl rfl ?_
  refine k_iload_n dJ5_newCapacity_0f7a4_13 3 rfl rfl ?_
  refine k_iload_n dJ5_newCapacity_0f7a4_14 2 rfl rfl ?_
  refine k_isub dJ5_newCapacity_0f7a4_15 ?_
  refine k_istore (ls' := [(0, .ref a), (1, .int (iI ((w : Int) + 1))), (2, .int (iI ((w : Int)))), (3, .int (iI ((w : Int) + 1))), (4, .int (iI (((w : Int) + 1) - ((w : Int)))))]) dJ5_newCapacity_0f7a4_16 (by decide) rfl rfl ?_
  refine k_iload_n dJ5_newCapacity_0f7a4_18 2 rfl rfl ?_
  refine k_iload dJ5_newCapacity_0f7a4_19 4 rfl ?_
  refine k_eqst (congrArg (fun z : Int => Value.int (iI z) :: [.int (iI ((w : Int)))]) (show 1 = ((w : Int) + 1) - ((w : Int)) from by omega)) ?_
  refine k_iload_n dJ5_newCapacity_0f7a4_21 2 rfl rfl ?_
  refine k_iconst (v := 2) dJ5_newCapacity_0f7a4_22 rfl ?_
  refine k_aload_n dJ5_newCapacity_0f7a4_23 0 rfl rfl (by omega) ?_
  refine k_get (kf := 1) (v := .int (iI (σ a 1))) dJ5_newCapacity_0f7a4_24 kcJ4 w_324 (by decide) (by omega) b0 rfl rfl ?_
  refine k_eqst (congrArg (fun z : Int => Value.int (iI z) :: [.int (iI (2)), .int (iI ((w : Int))), .int (iI (1)), .int (iI ((w : Int)))]) (show 0 = σ a 1 from b6.symm)) ?_
  refine k_ishl (v := (iI (2))) dJ5_newCapacity_0f7a4_27 (z_shl0 _) ?_
  refine k_iadd dJ5_newCapacity_0f7a4_28 ?_
  refine k_callSr (st := []) (as := [.int (iI ((w : Int))), .int (iI (1)), .int (iI (((w : Int)) + 2))]) dJ5_newCapacity_0f7a4_29 oJ8_newLength_cabcc w_1334 w_1335 rfl (by omega) rfl (Nat.le_of_ble_eq_true rfl) (c_newLength ⟨by omega, by omega⟩ (by omega)) ?_
  refine k_istore (ls' := [(0, .ref a), (1, .int (iI ((w : Int) + 1))), (2, .int (iI ((w : Int)))), (3, .int (iI ((w : Int) + 1))), (4, .int (iI (((w : Int) + 1) - ((w : Int))))), (5, .int (iI (2 * ((w : Int)) + 2)))]) dJ5_newCapacity_0f7a4_32 (by decide) rfl rfl ?_
  refine k_iload dJ5_newCapacity_0f7a4_34 5 rfl ?_
  refine k_ldc dJ5_newCapacity_0f7a4_36 w_1342 ?_
  refine k_eqst (st' := [.int (iI (2147483647)), .int (iI (2 * ((w : Int)) + 2))]) rfl ?_
  refine k_icmp_ne (tgt := 51) dJ5_newCapacity_0f7a4_38 rfl ⟨by omega, by omega⟩ ⟨by decide, by decide⟩ (fun h_1 => ?_) (fun h_1 => absurd h_1 (by omega))
  refine k_iload dJ5_newCapacity_0f7a4_51 5 rfl ?_
  refine k_aload_n dJ5_newCapacity_0f7a4_53 0 rfl rfl (by omega) ?_
  refine k_get (kf := 1) (v := .int (iI (σ a 1))) dJ5_newCapacity_0f7a4_54 kcJ4 w_324 (by decide) (by omega) b0 rfl rfl ?_
  refine k_eqst (congrArg (fun z : Int => Value.int (iI z) :: [.int (iI (2 * ((w : Int)) + 2))]) (show 0 = σ a 1 from b6.symm)) ?_
  refine k_ishr (v := (iI (2 * ((w : Int)) + 2))) dJ5_newCapacity_0f7a4_57 (z_shr0 ⟨by omega, by omega⟩) ?_
  exact k_reti dJ5_newCapacity_0f7a4_58 rfl rfl (by rfl)
theorem k_copyOf {v w : Nat} (hs : sh[v]? = some (.inl (2, w))) (hw : w ≤ 200) (hv : v < sh.length) (hN : sh.length < 900000) (hok : k_ok sh σ) (hb : ∀ j, 0 ≤ σ v j ∧ σ v j < 128) : k_C E mJ7_copyOf_9075b 3 [.ref v, .int (iI (2 * (w : Int) + 2))] sh σ 1 (0 + (2 * w + 2)) (fun r sh' σ' => r = .inl (some (.ref sh.length)) ∧ sh' = sh ++ [.inl (2, 2 * w + 2)] ∧ σ' = u_grow σ sh.length v w) := by
  have hx : (sh ++ [(.inl (2, 2 * w + 2) : k_Sh)])[v]? = some (.inl (2, w)) := by rw [List.getElem?_append_left hv]; exact hs
  have hy : (sh ++ [(.inl (2, 2 * w + 2) : k_Sh)])[sh.length]? = some (.inl (2, 2 * w + 2)) := by rw [List.getElem?_append_right (Nat.le_refl _)]; simp
  have hne : ¬ v = sh.length := by omega
  refine k_C_of (ls0 := [(0, .ref v), (1, .int (iI (2 * (w : Int) + 2)))]) rfl pnJ7 (fun v hv => k_cat1 rfl hv) (Nat.le_of_ble_eq_true rfl) rfl ?_
  refine k_iload_n dJ7_copyOf_9075b_0 1 rfl rfl ?_
  refine k_aload_n dJ7_copyOf_9075b_1 0 rfl rfl (by omega) ?_
  refine k_alen dJ7_copyOf_9075b_2 (by omega) hs (by decide) ?_
  refine k_icmp_ne (tgt := 14) dJ7_copyOf_9075b_3 rfl ⟨by omega, by omega⟩ ⟨by omega, by omega⟩ (fun h_1 => ?_) (fun h_1 => absurd h_1 (by omega))
  refine k_iload_n dJ7_copyOf_9075b_14 1 rfl rfl ?_
  refine k_newa2 (k := 0) (n := 0) (w := 2 * w + 2) dJ7_copyOf_9075b_15 w_337 (by omega) (by omega) (by omega) hok (fun z hz => ?_) (fun z hz => by cases hz) ?_
  · rcases List.mem_cons.mp hz with rfl | hz
    · exact Or.inl hv
    · rcases List.mem_cons.mp hz with rfl | hz
      · trivial
      · cases hz
  refine k_astore_n (ls' := [(0, .ref v), (1, .int (iI (2 * (w : Int) + 2))), (2, .ref sh.length)]) dJ7_copyOf_9075b_17 rfl (by omega) (by decide) rfl rfl ?_
  refine k_aload_n dJ7_copyOf_9075b_18 0 rfl rfl (by omega) ?_
  refine k_iconst (v := 0) dJ7_copyOf_9075b_19 rfl ?_
  refine k_aload_n dJ7_copyOf_9075b_20 2 rfl rfl (by omega) ?_
  refine k_iconst (v := 0) dJ7_copyOf_9075b_21 rfl ?_
  refine k_aload_n dJ7_copyOf_9075b_22 0 rfl rfl (by omega) ?_
  refine k_alen dJ7_copyOf_9075b_23 (by omega) hx (by decide) ?_
  refine k_iload_n dJ7_copyOf_9075b_24 1 rfl rfl ?_
  refine k_mmin (st := [.int (iI 0), .ref sh.length, .int (iI 0), .ref v]) dJ7_copyOf_9075b_25 w_1353 w_433 (by omega) (Nat.le_of_ble_eq_true rfl) ⟨by omega, by omega⟩ ⟨by omega, by omega⟩ ?_
  refine k_eqst (congrArg (fun z : Int => Value.int (iI z) :: [.int (iI 0), .ref sh.length, .int (iI 0), .ref v]) (show (w : Int) = z_min (w : Int) (2 * (w : Int) + 2) from by unfold z_min; split <;> omega)) ?_
  have e1 : k_up σ sh.length (fun _ => 0) v = σ v := k_up_ne hne
  refine k_copyB (w := w) (w2 := 2 * w + 2) dJ7_copyOf_9075b_28 w_1354 k_w437 w_436 w_108 (by omega) (by omega) (by omega) hx hy (by omega) (by omega) (fun j => by rw [e1]; exact k_fitB (hb j)) (Nat.le_of_ble_eq_true rfl) ?_
  refine k_aload_n dJ7_copyOf_9075b_31 2 rfl rfl (by omega) ?_
  refine k_ret_r dJ7_copyOf_9075b_32 rfl (Or.inr ⟨_, rfl⟩) (by omega) ⟨rfl, rfl, ?_⟩
  unfold u_grow
  rw [e1]
  funext i
  by_cases e : i = sh.length
  · subst e
    simp only [k_up_same]
  · rw [k_up_ne e, k_up_ne e, k_up_ne e]

theorem c_sbEnsG {a v w : Nat} (hB : k_SB sh σ a v w) (hN : sh.length < 900000) (hok : k_ok sh σ) (hva : v < sh.length ∧ a < sh.length) : k_C E mJ5_ensureCapacityInternal_d00df 4 [.ref a, .int (iI ((w : Int) + 1))] sh σ 1 (0 + (2 * w + 2)) (fun r sh' σ' => r = .inl none ∧ sh' = sh ++ [.inl (2, 2 * w + 2)] ∧ σ' = k_up (u_grow σ sh.length v w) a (k_u1 (σ a) 0 (sh.length : Int))) := by
  refine k_C_of (ls0 := [(0, .ref a), (1, .int (iI ((w : Int) + 1)))]) rfl pnJ5 (fun v hv => k_cat1 rfl hv) (Nat.le_of_ble_eq_true rfl) rfl ?_
  obtain ⟨b0, b1, ⟨b2, b3, b4⟩, ⟨b5, b6, b7, b8⟩, b9⟩ := id hB
  have b10 : ¬ v = a := fun e => by rw [e, b0] at b1; cases b1
  refine k_aload_n dJ5_ensureCapacityInternal_d00df_0 0 rfl rfl (by omega) ?_
  refine k_get (kf := 0) (v := .ref (σ a 0).toNat) dJ5_ensureCapacityInternal_d00df_1 kcJ4 w_323 (by decide) (by omega) b0 rfl rfl ?_
  refine k_eqst (st' := [.ref v]) (by have e : (σ a 0).toNat = v := (by rw [b5]; rfl); rw [e]; first | done | rfl) ?_
  refine k_alen dJ5_ensureCapacityInternal_d00df_4 (by omega) b1 (by decide) ?_
  refine k_aload_n dJ5_ensureCapacityInternal_d00df_5 0 rfl rfl (by omega) ?_
  refine k_get (kf := 1) (v := .int (iI (σ a 1))) dJ5_ensureCapacityInternal_d00df_6 kcJ4 w_324 (by decide) (by omega) b0 rfl rfl ?_
  refine k_eqst (congrArg (fun z : Int => Value.int (iI z) :: [.int (iI ((w : Int)))]) (show 0 = σ a 1 from b6.symm)) ?_
  refine k_ishr (v := (iI ((w : Int)))) dJ5_ensureCapacityInternal_d00df_9 (z_shr0 ⟨by omega, by omega⟩) ?_
  refine k_istore_n (ls' := [(0, .ref a), (1, .int (iI ((w : Int) + 1))), (2, .int (iI ((w : Int))))]) dJ5_ensureCapacityInternal_d00df_10 rfl (by decide) rfl rfl ?_
  refine k_iload_n dJ5_ensureCapacityInternal_d00df_11 1 rfl rfl ?_
  refine k_iload_n dJ5_ensureCapacityInternal_d00df_12 2 rfl rfl ?_
  refine k_isub dJ5_ensureCapacityInternal_d00df_13 ?_
  refine k_if_le (tgt := 38) dJ5_ensureCapacityInternal_d00df_14 rfl ⟨by omega, by omega⟩ (fun h_1 => absurd h_1 (by omega)) (fun h_1 => ?_)
  refine k_aload_n dJ5_ensureCapacityInternal_d00df_17 0 rfl rfl (by omega) ?_
  refine k_aload_n dJ5_ensureCapacityInternal_d00df_18 0 rfl rfl (by omega) ?_
  refine k_get (kf := 0) (v := .ref (σ a 0).toNat) dJ5_ensureCapacityInternal_d00df_19 kcJ4 w_323 (by decide) (by omega) b0 rfl rfl ?_
  refine k_eqst (st' := [.ref v, .ref a]) (by have e : (σ a 0).toNat = v := (by rw [b5]; rfl); rw [e]; first | done | rfl) ?_
  refine k_aload_n dJ5_ensureCapacityInternal_d00df_22 0 rfl rfl (by omega) ?_
  refine k_iload_n dJ5_ensureCapacityInternal_d00df_23 1 rfl rfl ?_
  refine k_callVPr (st := [.ref v, .ref a]) (as := [.int (iI ((w : Int) + 1))]) dJ5_ensureCapacityInternal_d00df_24 oJ5_newCapacity_0f7a4 w_1330 w_1332 (by decide) rfl (by omega) rfl (Nat.le_of_ble_eq_true rfl) (by omega) b0 rfl (c_newCap hB) ?_
  refine k_aload_n dJ5_ensureCapacityInternal_d00df_27 0 rfl rfl (by omega) ?_
  refine k_get (kf := 1) (v := .int (iI (σ a 1))) dJ5_ensureCapacityInternal_d00df_28 kcJ4 w_324 (by decide) (by omega) b0 rfl rfl ?_
  refine k_eqst (congrArg (fun z : Int => Value.int (iI z) :: [.int (iI (2 * (w : Int) + 2)), .ref v, .ref a]) (show 0 = σ a 1 from b6.symm)) ?_
  refine k_ishl (v := (iI (2 * (w : Int) + 2))) dJ5_ensureCapacityInternal_d00df_31 (z_shl0 _) ?_
  refine k_callS (k := 0) (n := 0) (st := [.ref a]) (as := [.ref v, .int (iI (2 * (w : Int) + 2))]) dJ5_ensureCapacityInternal_d00df_32 oJ7_copyOf_9075b rfl w_1343 w_1344 (by omega) rfl (Nat.le_of_ble_eq_true rfl) (k_copyOf b1 b4 hva.1 hN hok b9) (Or.inl ⟨fun z hz => ?_, fun z hz => ?_⟩) (fun Xn sh' σ' h => by cases h.1) (fun r sh' σ' h => ?_)
  · rcases List.mem_cons.mp hz with rfl | hz
    · exact Or.inl hva.2
    · rcases List.mem_cons.mp hz with rfl | hz
      · trivial
      · rcases List.mem_cons.mp hz with rfl | hz
        · trivial
        · cases hz
  · rcases List.mem_cons.mp hz with rfl | hz
    · exact Or.inl hva.2
    · cases hz
  · obtain ⟨h1, rfl, rfl⟩ := h
    cases h1
    have hx : (sh ++ [(.inl (2, 2 * w + 2) : k_Sh)])[a]? = some (.inr (0, [1, 0, 0, 0])) := by rw [List.getElem?_append_left hva.2]; exact b0
    refine k_put1 (kf := 0) dJ5_ensureCapacityInternal_d00df_35 kcJ4 w_323 (by decide) (by omega) hx rfl rfl (by omega) (fun x => rfl) (fun x => rfl) ?_
    refine k_ret_v dJ5_ensureCapacityInternal_d00df_38 rfl ⟨rfl, rfl, ?_⟩
    unfold u_grow
    rw [k_up_ne (show ¬ a = sh.length by omega)]
end K_AC
