/-! ===== THE LAW: its wrappers ===== -/
section K_W1
variable {E : k_E} {M : k_M} {dp pc k n k1 n1 D : Nat} {ls : List (Nat × Value)} {st : List Value} {sh sh' : List k_Sh} {σ τ : Nat → Nat → Int} {Q : k_Q} {r : Option Value ⊕ String}
theorem pnL : plainName RL = true := by decide +kernel
theorem k_Main_len (h : k_Main sh) : 143 ≤ sh.length := (List.getElem?_eq_some_iff.mp (h 142 _ rfl)).1
def k_rf : Value → Bool
  | .ref k => Nat.blt k 143
  | _ => true
theorem k_okl_of {N : Nat} (hN : 143 ≤ N) (h1 : (ls.all fun z => k_rf z.2) = true) (h2 : st.all k_rf = true) : k_okl N ls st := by
  have h : ∀ v : Value, k_rf v = true → k_okv N v := fun v hv => by
    cases v with
    | ref k =>
      have := Nat.le_of_ble_eq_true hv
      exact Or.inl (show k < N from Nat.lt_of_lt_of_le (Nat.lt_of_succ_le (Nat.le_trans this (Nat.le_refl 143))) hN)
    | _ => trivial
  exact ⟨fun z hz => h _ (List.all_eq_true.mp h1 z hz), fun v hv => h v (List.all_eq_true.mp h2 v hv)⟩
/-- caught, and put away into the local j, a later one -/
theorem k_catchN {X name : String} {j hpc : Nat} {ls' : List (Nat × Value)} (pre suf : List (Nat × Nat × Nat × Nat)) (x : Nat × Nat × Nat × Nat) (hsplit : M.2.2.2.2 = pre ++ x :: suf)
    (hpass : ∀ z ∈ pre, ∃ nm, z.2.2.2 ≠ 0 ∧ Cond.classLink M.1.cls z.2.2.2 nm ∈ k_TBL ∧ X ∈ k_exs ∧ nm ∈ k_exs ∧ X ≠ nm) (hx : x.1 ≤ pc ∧ pc < x.2.1) (h0 : x.2.2.2 ≠ 0) (hlink : Cond.classLink M.1.cls x.2.2.2 name ∈ k_TBL) (hcast : Cond.castable X name ∈ k_NW) (hp : x.2.2.1 = hpc)
    (hd : decode M.2.1 hpc = .ok (.astore j, 2)) (hn : j < M.2.2.1) (h1 : k_one ls = true) (hls : ls.filter (fun q => !(q.1 == j)) = ls') (kk : k_V E M dp (hpc + 2) ls' [] sh σ k n Q) : k_VX E M dp pc ls X sh σ k n Q := by
  intro N0 ad0 p e R s m args below meth c H locs cells slots lsC ad mc ms q9 ce rest C X1 hl hce hcv hcl
  subst hls hp
  have ht := C.2.2.2.2.2.2.2.1
  rw [hsplit] at ht
  refine vx_catch (own := M.1.cls) (name := name) C.2.2.2.2.1 (tableOf pre) ⟨x.1, x.2.1, x.2.2.1, x.2.2.2⟩ (tableOf suf) (by rw [ht]; simp [tableOf]) (fun z hz => ?_) ?_ h0 (C.2.2.2.2.2.1 _ (k_cws hlink)) (k_nwat C hcast) hce hcv hcl ?_
  · obtain ⟨y, hy, rfl⟩ := List.mem_map.mp hz
    obtain ⟨nm, g1, g2, g3, g4, g5⟩ := hpass y hy
    exact Or.inr ⟨g1, nm, C.2.2.2.2.2.1 _ (k_cws g2), va_Nc.moved C.2.2.2.2.2.2.2.2.2.1.1.alike (C.2.2.2.2.2.2.2.2.2.1.2.2.2.2.2.2.2.2.2.2.2.2.1 _ g3 _ g4 g5)⟩
  · simp [covers, hx.1, hx.2]
  · refine lv_astore C.1 C.2.1 hd hl hn rfl (fun ls2 hl2 => kk N0 ad0 p e R s m args below meth c H locs cells slots ls2 ad mc ms C X1 ⟨hl2.1, hl2.2.1, fun q hq => ?_⟩)
    obtain ⟨z, hz, rfl⟩ := List.mem_map.mp hq
    obtain ⟨z1, z2⟩ := List.mem_filter.mp hz
    refine hl2.2.2 _ (List.mem_cons_of_mem _ (List.mem_filter.mpr ⟨List.mem_map.mpr ⟨z, z1, rfl⟩, ?_⟩))
    have hc : (k_cv E ad z.2).category = 1 := (k_cat (k_fmc C) z.2).trans (k_one_at h1 z z1)
    simp only [hc]
    simpa using z2
theorem k_xpass {own X : String} {l : List (Nat × String)} {pre : List (Nat × Nat × Nat × Nat)} (e : pre.map (fun z => z.2.2.2) = l.map (fun q => q.1)) (h : ∀ q ∈ l, q.1 ≠ 0 ∧ Cond.classLink own q.1 q.2 ∈ k_TBL ∧ X ∈ k_exs ∧ q.2 ∈ k_exs ∧ X ≠ q.2) : ∀ z ∈ pre, ∃ nm, z.2.2.2 ≠ 0 ∧ Cond.classLink own z.2.2.2 nm ∈ k_TBL ∧ X ∈ k_exs ∧ nm ∈ k_exs ∧ X ≠ nm := fun z hz => by
  have h2 : z.2.2.2 ∈ l.map (fun q => q.1) := e ▸ List.mem_map.mpr ⟨z, hz, rfl⟩
  obtain ⟨q, hq, e2⟩ := List.mem_map.mp h2
  rw [← e2]
  exact ⟨q.2, h q hq⟩
/-- the place of what is thrown among those that the call names -/
def w_code : List String → Option Value ⊕ String → Int
  | _, .inl _ => 0
  | [], .inr _ => 1
  | a :: l, .inr X => if X = a then 1 else 1 + w_code l (.inr X)
def w_out (r : Option Value ⊕ String) (τ : Nat → Nat → Int) : Nat → Nat → Int := match r with
  | .inl (some (.int x)) => k_up τ 141 (k_u1 (τ 141) 0 x.toInt)
  | _ => τ
def w_outB (r : Option Value ⊕ String) (τ : Nat → Nat → Int) : Nat → Nat → Int := match r with
  | .inl (some (.int x)) => k_up τ 141 (k_u1 (τ 141) 0 (if x.toInt = 0 then 0 else 1))
  | _ => τ
def w_outD (r : Option Value ⊕ String) (τ : Nat → Nat → Int) : Nat → Nat → Int := match r with
  | .inl (some (.double x)) => k_up τ 142 (k_u1 (τ 142) 0 (x.toNat : Int))
  | _ => τ
theorem k_u64 (x : UInt64) : UInt64.ofNat ((x.toNat : Int)).toNat = x := by
  rw [Int.toNat_natCast, UInt64.ofNat_toNat]
theorem k_toR (x : Int32) : k_r x.toInt := k_r_toInt x
set_option maxHeartbeats 4000000 in
theorem cw_addSubject (hsh : k_Main sh) (hsh' : k_Main sh') {p0 : Int} (hC : k_C E mX7_addSubject D [.ref 0, .int (iI (p0))] sh σ k1 n1 (k_rx r sh' τ)) (hr : (∃ x : Int32, r = .inl (some (.int x))) ∨ r = .inr x_ia ∨ r = .inr x_is) : k_C E mL_addSubject (D + 1) [.ref 0, .int (iI (p0)), .ref 141] sh σ k1 n1 (k_ret (some (.int (iI (w_code [x_ia, x_is] r)))) sh' (w_out r τ)) := by
  refine k_C_ofW (ls0 := [(0, .ref 0), (1, .int (iI (p0))), (2, .ref 141)]) (a0 := (0, 9, 12, 13)) (t0 := [(0, 9, 15, 15)]) rfl pnL (fun v hv => k_cat1 rfl hv) (Nat.le_of_ble_eq_true rfl) rfl ?_
  refine k_aload_n dL_addSubject_0 2 rfl rfl (by decide) ?_
  refine k_iconst (v := 0) dL_addSubject_1 rfl ?_
  refine k_aload_n dL_addSubject_2 0 rfl rfl (by decide) ?_
  refine k_iload_n dL_addSubject_3 1 rfl rfl ?_
  rcases hr with ⟨x, rfl⟩ | rfl | rfl
  · refine k_callV (k1 := k1) (n1 := n1) (k := 0) (n := 0) (st := [.int (iI (0)), .ref 141]) (as := [.int (iI (p0))]) dL_addSubject_4 oX7_addSubject rfl w_608 w_609 w_610 (Nat.le_refl _) rfl (Nat.le_of_ble_eq_true rfl) (by decide) (s_0 hsh) rfl hC (Or.inl (k_okl_of (k_Main_len hsh) rfl rfl)) (fun Xn s2 σ2 h => by cases h.1) (fun v s2 σ2 h => ?_)
    obtain ⟨h1, rfl, rfl⟩ := h
    cases h1
    refine k_eqst (st' := [.int (iI x.toInt), .int (iI 0), .ref 141]) (by rw [← iI_of]; rfl) ?_
    refine k_i2l dL_addSubject_7 (k_toR x) ?_
    refine k_last dL_addSubject_8 (by decide) (s_141 hsh') (by decide) (by decide) (by decide) ?_
    refine k_goto (tgt := 18) dL_addSubject_9 rfl ?_
    refine k_iconst (v := 0) dL_addSubject_18 rfl ?_
    exact k_reti dL_addSubject_19 rfl rfl rfl
  · refine k_callV (k1 := k1) (n1 := n1) (k := 0) (n := 0) (st := [.int (iI (0)), .ref 141]) (as := [.int (iI (p0))]) dL_addSubject_4 oX7_addSubject rfl w_608 w_609 w_610 (Nat.le_refl _) rfl (Nat.le_of_ble_eq_true rfl) (by decide) (s_0 hsh) rfl hC (Or.inl (k_okl_of (k_Main_len hsh) rfl rfl)) (fun Xn s2 σ2 h => ?_) (fun v s2 σ2 h => by cases h.1)
    obtain ⟨h1, rfl, rfl⟩ := h
    cases h1
    refine k_catch (i := 3) (j := 3) (name := x_ia) (hpc := 12) (ls' := [(0, .ref 0), (1, .int (iI (p0))), (2, .ref 141)]) [] [(0, 9, 15, 15)] (0, 9, 12, 13) rfl (fun z hz => absurd hz List.not_mem_nil) ⟨by decide, by decide⟩ (by decide) w_606 w_784 rfl dL_addSubject_12 rfl (by decide) rfl rfl ?_
    refine k_iconst (v := 1) dL_addSubject_13 rfl ?_
    exact k_reti dL_addSubject_14 rfl rfl (by decide)
  · refine k_callV (k1 := k1) (n1 := n1) (k := 0) (n := 0) (st := [.int (iI (0)), .ref 141]) (as := [.int (iI (p0))]) dL_addSubject_4 oX7_addSubject rfl w_608 w_609 w_610 (Nat.le_refl _) rfl (Nat.le_of_ble_eq_true rfl) (by decide) (s_0 hsh) rfl hC (Or.inl (k_okl_of (k_Main_len hsh) rfl rfl)) (fun Xn s2 σ2 h => ?_) (fun v s2 σ2 h => by cases h.1)
    obtain ⟨h1, rfl, rfl⟩ := h
    cases h1
    refine k_catch (i := 3) (j := 3) (name := x_is) (hpc := 15) (ls' := [(0, .ref 0), (1, .int (iI (p0))), (2, .ref 141)]) [(0, 9, 12, 13)] [] (0, 9, 15, 15) rfl (k_xpass (l := [(13, x_ia)]) rfl (fun q hq => by
      simp only [List.mem_cons, List.not_mem_nil, or_false] at hq
      rcases hq with rfl
      · exact ⟨by decide, w_606, by decide +kernel, by decide +kernel, by decide +kernel⟩
      )) ⟨by decide, by decide⟩ (by decide) w_607 w_800 rfl dL_addSubject_15 rfl (by decide) rfl rfl ?_
    refine k_iconst (v := 2) dL_addSubject_16 rfl ?_
    exact k_reti dL_addSubject_17 rfl rfl (by decide)
set_option maxHeartbeats 4000000 in
theorem cw_setSize (hsh : k_Main sh) (hsh' : k_Main sh') {p0 p1 : Int} (hC : k_C E mX7_setSize D [.ref 0, .int (iI (p0)), .int (iI (p1))] sh σ k1 n1 (k_rx r sh' τ)) (hr : (∃ x : Int32, r = .inl (some (.int x))) ∨ r = .inr x_io ∨ r = .inr x_ia ∨ r = .inr x_is) : k_C E mL_setSize (D + 1) [.ref 0, .int (iI (p0)), .int (iI (p1)), .ref 141] sh σ k1 n1 (k_ret (some (.int (iI (w_code [x_io, x_ia, x_is] r)))) sh' (w_out r τ)) := by
  refine k_C_ofW (ls0 := [(0, .ref 0), (1, .int (iI (p0))), (2, .int (iI (p1))), (3, .ref 141)]) (a0 := (0, 10, 13, 21)) (t0 := [(0, 10, 17, 13), (0, 10, 21, 15)]) rfl pnL (fun v hv => k_cat1 rfl hv) (Nat.le_of_ble_eq_true rfl) rfl ?_
  refine k_aload_n dL_setSize_0 3 rfl rfl (by decide) ?_
  refine k_iconst (v := 0) dL_setSize_1 rfl ?_
  refine k_aload_n dL_setSize_2 0 rfl rfl (by decide) ?_
  refine k_iload_n dL_setSize_3 1 rfl rfl ?_
  refine k_iload_n dL_setSize_4 2 rfl rfl ?_
  rcases hr with ⟨x, rfl⟩ | rfl | rfl | rfl
  · refine k_callV (k1 := k1) (n1 := n1) (k := 0) (n := 0) (st := [.int (iI (0)), .ref 141]) (as := [.int (iI (p0)), .int (iI (p1))]) dL_setSize_5 oX7_setSize rfl w_917 w_918 w_919 (Nat.le_refl _) rfl (Nat.le_of_ble_eq_true rfl) (by decide) (s_0 hsh) rfl hC (Or.inl (k_okl_of (k_Main_len hsh) rfl rfl)) (fun Xn s2 σ2 h => by cases h.1) (fun v s2 σ2 h => ?_)
    obtain ⟨h1, rfl, rfl⟩ := h
    cases h1
    refine k_eqst (st' := [.int (iI x.toInt), .int (iI 0), .ref 141]) (by rw [← iI_of]; rfl) ?_
    refine k_i2l dL_setSize_8 (k_toR x) ?_
    refine k_last dL_setSize_9 (by decide) (s_141 hsh') (by decide) (by decide) (by decide) ?_
    refine k_goto (tgt := 25) dL_setSize_10 rfl ?_
    refine k_iconst (v := 0) dL_setSize_25 rfl ?_
    exact k_reti dL_setSize_26 rfl rfl rfl
  · refine k_callV (k1 := k1) (n1 := n1) (k := 0) (n := 0) (st := [.int (iI (0)), .ref 141]) (as := [.int (iI (p0)), .int (iI (p1))]) dL_setSize_5 oX7_setSize rfl w_917 w_918 w_919 (Nat.le_refl _) rfl (Nat.le_of_ble_eq_true rfl) (by decide) (s_0 hsh) rfl hC (Or.inl (k_okl_of (k_Main_len hsh) rfl rfl)) (fun Xn s2 σ2 h => ?_) (fun v s2 σ2 h => by cases h.1)
    obtain ⟨h1, rfl, rfl⟩ := h
    cases h1
    refine k_catchN (j := 4) (name := x_io) (hpc := 13) (ls' := [(0, .ref 0), (1, .int (iI (p0))), (2, .int (iI (p1))), (3, .ref 141)]) [] [(0, 10, 17, 13), (0, 10, 21, 15)] (0, 10, 13, 21) rfl (fun z hz => absurd hz List.not_mem_nil) ⟨by decide, by decide⟩ (by decide) w_896 w_712 rfl dL_setSize_13 (by decide) rfl rfl ?_
    refine k_iconst (v := 1) dL_setSize_15 rfl ?_
    exact k_reti dL_setSize_16 rfl rfl (by decide)
  · refine k_callV (k1 := k1) (n1 := n1) (k := 0) (n := 0) (st := [.int (iI (0)), .ref 141]) (as := [.int (iI (p0)), .int (iI (p1))]) dL_setSize_5 oX7_setSize rfl w_917 w_918 w_919 (Nat.le_refl _) rfl (Nat.le_of_ble_eq_true rfl) (by decide) (s_0 hsh) rfl hC (Or.inl (k_okl_of (k_Main_len hsh) rfl rfl)) (fun Xn s2 σ2 h => ?_) (fun v s2 σ2 h => by cases h.1)
    obtain ⟨h1, rfl, rfl⟩ := h
    cases h1
    refine k_catchN (j := 4) (name := x_ia) (hpc := 17) (ls' := [(0, .ref 0), (1, .int (iI (p0))), (2, .int (iI (p1))), (3, .ref 141)]) [(0, 10, 13, 21)] [(0, 10, 21, 15)] (0, 10, 17, 13) rfl (k_xpass (l := [(21, x_io)]) rfl (fun q hq => by
      simp only [List.mem_cons, List.not_mem_nil, or_false] at hq
      rcases hq with rfl
      · exact ⟨by decide, w_896, by decide +kernel, by decide +kernel, by decide +kernel⟩
      )) ⟨by decide, by decide⟩ (by decide) w_606 w_784 rfl dL_setSize_17 (by decide) rfl rfl ?_
    refine k_iconst (v := 2) dL_setSize_19 rfl ?_
    exact k_reti dL_setSize_20 rfl rfl (by decide)
  · refine k_callV (k1 := k1) (n1 := n1) (k := 0) (n := 0) (st := [.int (iI (0)), .ref 141]) (as := [.int (iI (p0)), .int (iI (p1))]) dL_setSize_5 oX7_setSize rfl w_917 w_918 w_919 (Nat.le_refl _) rfl (Nat.le_of_ble_eq_true rfl) (by decide) (s_0 hsh) rfl hC (Or.inl (k_okl_of (k_Main_len hsh) rfl rfl)) (fun Xn s2 σ2 h => ?_) (fun v s2 σ2 h => by cases h.1)
    obtain ⟨h1, rfl, rfl⟩ := h
    cases h1
    refine k_catchN (j := 4) (name := x_is) (hpc := 21) (ls' := [(0, .ref 0), (1, .int (iI (p0))), (2, .int (iI (p1))), (3, .ref 141)]) [(0, 10, 13, 21), (0, 10, 17, 13)] [] (0, 10, 21, 15) rfl (k_xpass (l := [(21, x_io), (13, x_ia)]) rfl (fun q hq => by
      simp only [List.mem_cons, List.not_mem_nil, or_false] at hq
      rcases hq with rfl | rfl
      · exact ⟨by decide, w_896, by decide +kernel, by decide +kernel, by decide +kernel⟩
      · exact ⟨by decide, w_606, by decide +kernel, by decide +kernel, by decide +kernel⟩
      )) ⟨by decide, by decide⟩ (by decide) w_607 w_800 rfl dL_setSize_21 (by decide) rfl rfl ?_
    refine k_iconst (v := 3) dL_setSize_23 rfl ?_
    exact k_reti dL_setSize_24 rfl rfl (by decide)
set_option maxHeartbeats 4000000 in
theorem cw_sizeOf (hsh : k_Main sh) (hsh' : k_Main sh') {p0 : Int} (hC : k_C E mX7_sizeOf D [.ref 0, .int (iI (p0))] sh σ k1 n1 (k_rx r sh' τ)) (hr : (∃ x : Int32, r = .inl (some (.int x))) ∨ r = .inr x_io) : k_C E mL_sizeOf (D + 1) [.ref 0, .int (iI (p0)), .ref 141] sh σ k1 n1 (k_ret (some (.int (iI (w_code [x_io] r)))) sh' (w_out r τ)) := by
  refine k_C_ofW (ls0 := [(0, .ref 0), (1, .int (iI (p0))), (2, .ref 141)]) (a0 := (0, 9, 12, 21)) (t0 := []) rfl pnL (fun v hv => k_cat1 rfl hv) (Nat.le_of_ble_eq_true rfl) rfl ?_
  refine k_aload_n dL_sizeOf_0 2 rfl rfl (by decide) ?_
  refine k_iconst (v := 0) dL_sizeOf_1 rfl ?_
  refine k_aload_n dL_sizeOf_2 0 rfl rfl (by decide) ?_
  refine k_iload_n dL_sizeOf_3 1 rfl rfl ?_
  rcases hr with ⟨x, rfl⟩ | rfl
  · refine k_callV (k1 := k1) (n1 := n1) (k := 0) (n := 0) (st := [.int (iI (0)), .ref 141]) (as := [.int (iI (p0))]) dL_sizeOf_4 oX7_sizeOf rfl w_939 w_940 w_941 (Nat.le_refl _) rfl (Nat.le_of_ble_eq_true rfl) (by decide) (s_0 hsh) rfl hC (Or.inl (k_okl_of (k_Main_len hsh) rfl rfl)) (fun Xn s2 σ2 h => by cases h.1) (fun v s2 σ2 h => ?_)
    obtain ⟨h1, rfl, rfl⟩ := h
    cases h1
    refine k_eqst (st' := [.int (iI x.toInt), .int (iI 0), .ref 141]) (by rw [← iI_of]; rfl) ?_
    refine k_i2l dL_sizeOf_7 (k_toR x) ?_
    refine k_last dL_sizeOf_8 (by decide) (s_141 hsh') (by decide) (by decide) (by decide) ?_
    refine k_goto (tgt := 15) dL_sizeOf_9 rfl ?_
    refine k_iconst (v := 0) dL_sizeOf_15 rfl ?_
    exact k_reti dL_sizeOf_16 rfl rfl rfl
  · refine k_callV (k1 := k1) (n1 := n1) (k := 0) (n := 0) (st := [.int (iI (0)), .ref 141]) (as := [.int (iI (p0))]) dL_sizeOf_4 oX7_sizeOf rfl w_939 w_940 w_941 (Nat.le_refl _) rfl (Nat.le_of_ble_eq_true rfl) (by decide) (s_0 hsh) rfl hC (Or.inl (k_okl_of (k_Main_len hsh) rfl rfl)) (fun Xn s2 σ2 h => ?_) (fun v s2 σ2 h => by cases h.1)
    obtain ⟨h1, rfl, rfl⟩ := h
    cases h1
    refine k_catch (i := 3) (j := 3) (name := x_io) (hpc := 12) (ls' := [(0, .ref 0), (1, .int (iI (p0))), (2, .ref 141)]) [] [] (0, 9, 12, 21) rfl (fun z hz => absurd hz List.not_mem_nil) ⟨by decide, by decide⟩ (by decide) w_896 w_712 rfl dL_sizeOf_12 rfl (by decide) rfl rfl ?_
    refine k_iconst (v := 1) dL_sizeOf_13 rfl ?_
    exact k_reti dL_sizeOf_14 rfl rfl (by decide)
set_option maxHeartbeats 4000000 in
theorem cw_setBlockCount (hsh : k_Main sh) (hsh' : k_Main sh') {p0 : Int} (hC : k_C E mX7_setBlockCount D [.ref 0, .int (iI (p0))] sh σ k1 n1 (k_rx r sh' τ)) (hr : (∃ x : Int32, r = .inl (some (.int x))) ∨ r = .inr x_ia ∨ r = .inr x_is) : k_C E mL_setBlockCount (D + 1) [.ref 0, .int (iI (p0)), .ref 141] sh σ k1 n1 (k_ret (some (.int (iI (w_code [x_ia, x_is] r)))) sh' (w_out r τ)) := by
  refine k_C_ofW (ls0 := [(0, .ref 0), (1, .int (iI (p0))), (2, .ref 141)]) (a0 := (0, 9, 12, 13)) (t0 := [(0, 9, 15, 15)]) rfl pnL (fun v hv => k_cat1 rfl hv) (Nat.le_of_ble_eq_true rfl) rfl ?_
  refine k_aload_n dL_setBlockCount_0 2 rfl rfl (by decide) ?_
  refine k_iconst (v := 0) dL_setBlockCount_1 rfl ?_
  refine k_aload_n dL_setBlockCount_2 0 rfl rfl (by decide) ?_
  refine k_iload_n dL_setBlockCount_3 1 rfl rfl ?_
  rcases hr with ⟨x, rfl⟩ | rfl | rfl
  · refine k_callV (k1 := k1) (n1 := n1) (k := 0) (n := 0) (st := [.int (iI (0)), .ref 141]) (as := [.int (iI (p0))]) dL_setBlockCount_4 oX7_setBlockCount rfl w_951 w_952 w_953 (Nat.le_refl _) rfl (Nat.le_of_ble_eq_true rfl) (by decide) (s_0 hsh) rfl hC (Or.inl (k_okl_of (k_Main_len hsh) rfl rfl)) (fun Xn s2 σ2 h => by cases h.1) (fun v s2 σ2 h => ?_)
    obtain ⟨h1, rfl, rfl⟩ := h
    cases h1
    refine k_eqst (st' := [.int (iI x.toInt), .int (iI 0), .ref 141]) (by rw [← iI_of]; rfl) ?_
    refine k_i2l dL_setBlockCount_7 (k_toR x) ?_
    refine k_last dL_setBlockCount_8 (by decide) (s_141 hsh') (by decide) (by decide) (by decide) ?_
    refine k_goto (tgt := 18) dL_setBlockCount_9 rfl ?_
    refine k_iconst (v := 0) dL_setBlockCount_18 rfl ?_
    exact k_reti dL_setBlockCount_19 rfl rfl rfl
  · refine k_callV (k1 := k1) (n1 := n1) (k := 0) (n := 0) (st := [.int (iI (0)), .ref 141]) (as := [.int (iI (p0))]) dL_setBlockCount_4 oX7_setBlockCount rfl w_951 w_952 w_953 (Nat.le_refl _) rfl (Nat.le_of_ble_eq_true rfl) (by decide) (s_0 hsh) rfl hC (Or.inl (k_okl_of (k_Main_len hsh) rfl rfl)) (fun Xn s2 σ2 h => ?_) (fun v s2 σ2 h => by cases h.1)
    obtain ⟨h1, rfl, rfl⟩ := h
    cases h1
    refine k_catch (i := 3) (j := 3) (name := x_ia) (hpc := 12) (ls' := [(0, .ref 0), (1, .int (iI (p0))), (2, .ref 141)]) [] [(0, 9, 15, 15)] (0, 9, 12, 13) rfl (fun z hz => absurd hz List.not_mem_nil) ⟨by decide, by decide⟩ (by decide) w_606 w_784 rfl dL_setBlockCount_12 rfl (by decide) rfl rfl ?_
    refine k_iconst (v := 1) dL_setBlockCount_13 rfl ?_
    exact k_reti dL_setBlockCount_14 rfl rfl (by decide)
  · refine k_callV (k1 := k1) (n1 := n1) (k := 0) (n := 0) (st := [.int (iI (0)), .ref 141]) (as := [.int (iI (p0))]) dL_setBlockCount_4 oX7_setBlockCount rfl w_951 w_952 w_953 (Nat.le_refl _) rfl (Nat.le_of_ble_eq_true rfl) (by decide) (s_0 hsh) rfl hC (Or.inl (k_okl_of (k_Main_len hsh) rfl rfl)) (fun Xn s2 σ2 h => ?_) (fun v s2 σ2 h => by cases h.1)
    obtain ⟨h1, rfl, rfl⟩ := h
    cases h1
    refine k_catch (i := 3) (j := 3) (name := x_is) (hpc := 15) (ls' := [(0, .ref 0), (1, .int (iI (p0))), (2, .ref 141)]) [(0, 9, 12, 13)] [] (0, 9, 15, 15) rfl (k_xpass (l := [(13, x_ia)]) rfl (fun q hq => by
      simp only [List.mem_cons, List.not_mem_nil, or_false] at hq
      rcases hq with rfl
      · exact ⟨by decide, w_606, by decide +kernel, by decide +kernel, by decide +kernel⟩
      )) ⟨by decide, by decide⟩ (by decide) w_607 w_800 rfl dL_setBlockCount_15 rfl (by decide) rfl rfl ?_
    refine k_iconst (v := 2) dL_setBlockCount_16 rfl ?_
    exact k_reti dL_setBlockCount_17 rfl rfl (by decide)
set_option maxHeartbeats 4000000 in
theorem cw_openClass (hsh : k_Main sh) (hsh' : k_Main sh') {p0 p1 : Int} (hC : k_C E mX7_openClass D [.ref 0, .int (iI (p0)), .int (iI (p1))] sh σ k1 n1 (k_rx r sh' τ)) (hr : (∃ x : Int32, r = .inl (some (.int x))) ∨ r = .inr x_io ∨ r = .inr x_is) : k_C E mL_openClass (D + 1) [.ref 0, .int (iI (p0)), .int (iI (p1)), .ref 141] sh σ k1 n1 (k_ret (some (.int (iI (w_code [x_io, x_is] r)))) sh' (w_out r τ)) := by
  refine k_C_ofW (ls0 := [(0, .ref 0), (1, .int (iI (p0))), (2, .int (iI (p1))), (3, .ref 141)]) (a0 := (0, 10, 13, 21)) (t0 := [(0, 10, 17, 15)]) rfl pnL (fun v hv => k_cat1 rfl hv) (Nat.le_of_ble_eq_true rfl) rfl ?_
  refine k_aload_n dL_openClass_0 3 rfl rfl (by decide) ?_
  refine k_iconst (v := 0) dL_openClass_1 rfl ?_
  refine k_aload_n dL_openClass_2 0 rfl rfl (by decide) ?_
  refine k_iload_n dL_openClass_3 1 rfl rfl ?_
  refine k_iload_n dL_openClass_4 2 rfl rfl ?_
  rcases hr with ⟨x, rfl⟩ | rfl | rfl
  · refine k_callV (k1 := k1) (n1 := n1) (k := 0) (n := 0) (st := [.int (iI (0)), .ref 141]) (as := [.int (iI (p0)), .int (iI (p1))]) dL_openClass_5 oX7_openClass rfl w_958 w_959 w_960 (Nat.le_refl _) rfl (Nat.le_of_ble_eq_true rfl) (by decide) (s_0 hsh) rfl hC (Or.inl (k_okl_of (k_Main_len hsh) rfl rfl)) (fun Xn s2 σ2 h => by cases h.1) (fun v s2 σ2 h => ?_)
    obtain ⟨h1, rfl, rfl⟩ := h
    cases h1
    refine k_eqst (st' := [.int (iI x.toInt), .int (iI 0), .ref 141]) (by rw [← iI_of]; rfl) ?_
    refine k_i2l dL_openClass_8 (k_toR x) ?_
    refine k_last dL_openClass_9 (by decide) (s_141 hsh') (by decide) (by decide) (by decide) ?_
    refine k_goto (tgt := 21) dL_openClass_10 rfl ?_
    refine k_iconst (v := 0) dL_openClass_21 rfl ?_
    exact k_reti dL_openClass_22 rfl rfl rfl
  · refine k_callV (k1 := k1) (n1 := n1) (k := 0) (n := 0) (st := [.int (iI (0)), .ref 141]) (as := [.int (iI (p0)), .int (iI (p1))]) dL_openClass_5 oX7_openClass rfl w_958 w_959 w_960 (Nat.le_refl _) rfl (Nat.le_of_ble_eq_true rfl) (by decide) (s_0 hsh) rfl hC (Or.inl (k_okl_of (k_Main_len hsh) rfl rfl)) (fun Xn s2 σ2 h => ?_) (fun v s2 σ2 h => by cases h.1)
    obtain ⟨h1, rfl, rfl⟩ := h
    cases h1
    refine k_catchN (j := 4) (name := x_io) (hpc := 13) (ls' := [(0, .ref 0), (1, .int (iI (p0))), (2, .int (iI (p1))), (3, .ref 141)]) [] [(0, 10, 17, 15)] (0, 10, 13, 21) rfl (fun z hz => absurd hz List.not_mem_nil) ⟨by decide, by decide⟩ (by decide) w_896 w_712 rfl dL_openClass_13 (by decide) rfl rfl ?_
    refine k_iconst (v := 1) dL_openClass_15 rfl ?_
    exact k_reti dL_openClass_16 rfl rfl (by decide)
  · refine k_callV (k1 := k1) (n1 := n1) (k := 0) (n := 0) (st := [.int (iI (0)), .ref 141]) (as := [.int (iI (p0)), .int (iI (p1))]) dL_openClass_5 oX7_openClass rfl w_958 w_959 w_960 (Nat.le_refl _) rfl (Nat.le_of_ble_eq_true rfl) (by decide) (s_0 hsh) rfl hC (Or.inl (k_okl_of (k_Main_len hsh) rfl rfl)) (fun Xn s2 σ2 h => ?_) (fun v s2 σ2 h => by cases h.1)
    obtain ⟨h1, rfl, rfl⟩ := h
    cases h1
    refine k_catchN (j := 4) (name := x_is) (hpc := 17) (ls' := [(0, .ref 0), (1, .int (iI (p0))), (2, .int (iI (p1))), (3, .ref 141)]) [(0, 10, 13, 21)] [] (0, 10, 17, 15) rfl (k_xpass (l := [(21, x_io)]) rfl (fun q hq => by
      simp only [List.mem_cons, List.not_mem_nil, or_false] at hq
      rcases hq with rfl
      · exact ⟨by decide, w_896, by decide +kernel, by decide +kernel, by decide +kernel⟩
      )) ⟨by decide, by decide⟩ (by decide) w_607 w_800 rfl dL_openClass_17 (by decide) rfl rfl ?_
    refine k_iconst (v := 2) dL_openClass_19 rfl ?_
    exact k_reti dL_openClass_20 rfl rfl (by decide)
set_option maxHeartbeats 4000000 in
theorem cw_closeClass (hsh : k_Main sh) (hsh' : k_Main sh') {p0 p1 : Int} (hC : k_C E mX7_closeClass D [.ref 0, .int (iI (p0)), .int (iI (p1))] sh σ k1 n1 (k_rx r sh' τ)) (hr : (∃ x : Int32, r = .inl (some (.int x))) ∨ r = .inr x_io ∨ r = .inr x_is) : k_C E mL_closeClass (D + 1) [.ref 0, .int (iI (p0)), .int (iI (p1)), .ref 141] sh σ k1 n1 (k_ret (some (.int (iI (w_code [x_io, x_is] r)))) sh' (w_out r τ)) := by
  refine k_C_ofW (ls0 := [(0, .ref 0), (1, .int (iI (p0))), (2, .int (iI (p1))), (3, .ref 141)]) (a0 := (0, 10, 13, 21)) (t0 := [(0, 10, 17, 15)]) rfl pnL (fun v hv => k_cat1 rfl hv) (Nat.le_of_ble_eq_true rfl) rfl ?_
  refine k_aload_n dL_closeClass_0 3 rfl rfl (by decide) ?_
  refine k_iconst (v := 0) dL_closeClass_1 rfl ?_
  refine k_aload_n dL_closeClass_2 0 rfl rfl (by decide) ?_
  refine k_iload_n dL_closeClass_3 1 rfl rfl ?_
  refine k_iload_n dL_closeClass_4 2 rfl rfl ?_
  rcases hr with ⟨x, rfl⟩ | rfl | rfl
  · refine k_callV (k1 := k1) (n1 := n1) (k := 0) (n := 0) (st := [.int (iI (0)), .ref 141]) (as := [.int (iI (p0)), .int (iI (p1))]) dL_closeClass_5 oX7_closeClass rfl w_965 w_966 w_967 (Nat.le_refl _) rfl (Nat.le_of_ble_eq_true rfl) (by decide) (s_0 hsh) rfl hC (Or.inl (k_okl_of (k_Main_len hsh) rfl rfl)) (fun Xn s2 σ2 h => by cases h.1) (fun v s2 σ2 h => ?_)
    obtain ⟨h1, rfl, rfl⟩ := h
    cases h1
    refine k_eqst (st' := [.int (iI x.toInt), .int (iI 0), .ref 141]) (by rw [← iI_of]; rfl) ?_
    refine k_i2l dL_closeClass_8 (k_toR x) ?_
    refine k_last dL_closeClass_9 (by decide) (s_141 hsh') (by decide) (by decide) (by decide) ?_
    refine k_goto (tgt := 21) dL_closeClass_10 rfl ?_
    refine k_iconst (v := 0) dL_closeClass_21 rfl ?_
    exact k_reti dL_closeClass_22 rfl rfl rfl
  · refine k_callV (k1 := k1) (n1 := n1) (k := 0) (n := 0) (st := [.int (iI (0)), .ref 141]) (as := [.int (iI (p0)), .int (iI (p1))]) dL_closeClass_5 oX7_closeClass rfl w_965 w_966 w_967 (Nat.le_refl _) rfl (Nat.le_of_ble_eq_true rfl) (by decide) (s_0 hsh) rfl hC (Or.inl (k_okl_of (k_Main_len hsh) rfl rfl)) (fun Xn s2 σ2 h => ?_) (fun v s2 σ2 h => by cases h.1)
    obtain ⟨h1, rfl, rfl⟩ := h
    cases h1
    refine k_catchN (j := 4) (name := x_io) (hpc := 13) (ls' := [(0, .ref 0), (1, .int (iI (p0))), (2, .int (iI (p1))), (3, .ref 141)]) [] [(0, 10, 17, 15)] (0, 10, 13, 21) rfl (fun z hz => absurd hz List.not_mem_nil) ⟨by decide, by decide⟩ (by decide) w_896 w_712 rfl dL_closeClass_13 (by decide) rfl rfl ?_
    refine k_iconst (v := 1) dL_closeClass_15 rfl ?_
    exact k_reti dL_closeClass_16 rfl rfl (by decide)
  · refine k_callV (k1 := k1) (n1 := n1) (k := 0) (n := 0) (st := [.int (iI (0)), .ref 141]) (as := [.int (iI (p0)), .int (iI (p1))]) dL_closeClass_5 oX7_closeClass rfl w_965 w_966 w_967 (Nat.le_refl _) rfl (Nat.le_of_ble_eq_true rfl) (by decide) (s_0 hsh) rfl hC (Or.inl (k_okl_of (k_Main_len hsh) rfl rfl)) (fun Xn s2 σ2 h => ?_) (fun v s2 σ2 h => by cases h.1)
    obtain ⟨h1, rfl, rfl⟩ := h
    cases h1
    refine k_catchN (j := 4) (name := x_is) (hpc := 17) (ls' := [(0, .ref 0), (1, .int (iI (p0))), (2, .int (iI (p1))), (3, .ref 141)]) [(0, 10, 13, 21)] [] (0, 10, 17, 15) rfl (k_xpass (l := [(21, x_io)]) rfl (fun q hq => by
      simp only [List.mem_cons, List.not_mem_nil, or_false] at hq
      rcases hq with rfl
      · exact ⟨by decide, w_896, by decide +kernel, by decide +kernel, by decide +kernel⟩
      )) ⟨by decide, by decide⟩ (by decide) w_607 w_800 rfl dL_closeClass_17 (by decide) rfl rfl ?_
    refine k_iconst (v := 2) dL_closeClass_19 rfl ?_
    exact k_reti dL_closeClass_20 rfl rfl (by decide)
set_option maxHeartbeats 4000000 in
theorem cw_isOpen (hsh : k_Main sh) (hsh' : k_Main sh') {p0 p1 : Int} (hC : k_C E mX7_isOpen D [.ref 0, .int (iI (p0)), .int (iI (p1))] sh σ k1 n1 (k_rx r sh' τ)) (hr : (∃ x : Int32, r = .inl (some (.int x))) ∨ r = .inr x_io) : k_C E mL_isOpen (D + 1) [.ref 0, .int (iI (p0)), .int (iI (p1)), .ref 141] sh σ k1 n1 (k_ret (some (.int (iI (w_code [x_io] r)))) sh' (w_outB r τ)) := by
  refine k_C_ofW (ls0 := [(0, .ref 0), (1, .int (iI (p0))), (2, .int (iI (p1))), (3, .ref 141)]) (a0 := (0, 17, 20, 21)) (t0 := []) rfl pnL (fun v hv => k_cat1 rfl hv) (Nat.le_of_ble_eq_true rfl) rfl ?_
  refine k_aload_n dL_isOpen_0 3 rfl rfl (by decide) ?_
  refine k_iconst (v := 0) dL_isOpen_1 rfl ?_
  refine k_aload_n dL_isOpen_2 0 rfl rfl (by decide) ?_
  refine k_iload_n dL_isOpen_3 1 rfl rfl ?_
  refine k_iload_n dL_isOpen_4 2 rfl rfl ?_
  rcases hr with ⟨x, rfl⟩ | rfl
  · refine k_callV (k1 := k1) (n1 := n1) (k := 0) (n := 0) (st := [.int (iI (0)), .ref 141]) (as := [.int (iI (p0)), .int (iI (p1))]) dL_isOpen_5 oX7_isOpen rfl w_972 w_973 w_974 (Nat.le_refl _) rfl (Nat.le_of_ble_eq_true rfl) (by decide) (s_0 hsh) rfl hC (Or.inl (k_okl_of (k_Main_len hsh) rfl rfl)) (fun Xn s2 σ2 h => by cases h.1) (fun v s2 σ2 h => ?_)
    obtain ⟨h1, rfl, rfl⟩ := h
    cases h1
    refine k_eqst (st' := [.int (iI x.toInt), .int (iI 0), .ref 141]) (by rw [← iI_of]; rfl) ?_
    refine k_if_eq (tgt := 15) dL_isOpen_8 rfl (k_toR x) (fun h => ?_) (fun h => ?_)
    · refine k_lconst (v := 0) dL_isOpen_15 rfl ?_
      refine k_last dL_isOpen_16 (by decide) (s_141 hsh') (by decide) (by decide) (by decide) ?_
      refine k_eqσ (σ' := w_outB (.inl (some (.int x))) σ2) (by show k_up σ2 141 (k_u1 (σ2 141) 0 (if x.toInt = 0 then 0 else 1)) = _; rw [if_pos h]; rfl) ?_
      refine k_goto (tgt := 24) dL_isOpen_17 rfl ?_
      refine k_iconst (v := 0) dL_isOpen_24 rfl ?_
      exact k_reti dL_isOpen_25 rfl rfl rfl
    · refine k_lconst (v := 1) dL_isOpen_11 rfl ?_
      refine k_goto (tgt := 16) dL_isOpen_12 rfl ?_
      refine k_last dL_isOpen_16 (by decide) (s_141 hsh') (by decide) (by decide) (by decide) ?_
      refine k_eqσ (σ' := w_outB (.inl (some (.int x))) σ2) (by show k_up σ2 141 (k_u1 (σ2 141) 0 (if x.toInt = 0 then 0 else 1)) = _; rw [if_neg h]; rfl) ?_
      refine k_goto (tgt := 24) dL_isOpen_17 rfl ?_
      refine k_iconst (v := 0) dL_isOpen_24 rfl ?_
      exact k_reti dL_isOpen_25 rfl rfl rfl
  · refine k_callV (k1 := k1) (n1 := n1) (k := 0) (n := 0) (st := [.int (iI (0)), .ref 141]) (as := [.int (iI (p0)), .int (iI (p1))]) dL_isOpen_5 oX7_isOpen rfl w_972 w_973 w_974 (Nat.le_refl _) rfl (Nat.le_of_ble_eq_true rfl) (by decide) (s_0 hsh) rfl hC (Or.inl (k_okl_of (k_Main_len hsh) rfl rfl)) (fun Xn s2 σ2 h => ?_) (fun v s2 σ2 h => by cases h.1)
    obtain ⟨h1, rfl, rfl⟩ := h
    cases h1
    refine k_catchN (j := 4) (name := x_io) (hpc := 20) (ls' := [(0, .ref 0), (1, .int (iI (p0))), (2, .int (iI (p1))), (3, .ref 141)]) [] [] (0, 17, 20, 21) rfl (fun z hz => absurd hz List.not_mem_nil) ⟨by decide, by decide⟩ (by decide) w_896 w_712 rfl dL_isOpen_20 (by decide) rfl rfl ?_
    refine k_iconst (v := 1) dL_isOpen_22 rfl ?_
    exact k_reti dL_isOpen_23 rfl rfl (by decide)
set_option maxHeartbeats 4000000 in
theorem cw_pupilsInClass (hsh : k_Main sh) (hsh' : k_Main sh') {p0 p1 : Int} (hC : k_C E mX7_pupilsInClass D [.ref 0, .int (iI (p0)), .int (iI (p1))] sh σ k1 n1 (k_rx r sh' τ)) (hr : (∃ x : Int32, r = .inl (some (.int x))) ∨ r = .inr x_io) : k_C E mL_pupilsInClass (D + 1) [.ref 0, .int (iI (p0)), .int (iI (p1)), .ref 141] sh σ k1 n1 (k_ret (some (.int (iI (w_code [x_io] r)))) sh' (w_out r τ)) := by
  refine k_C_ofW (ls0 := [(0, .ref 0), (1, .int (iI (p0))), (2, .int (iI (p1))), (3, .ref 141)]) (a0 := (0, 10, 13, 21)) (t0 := []) rfl pnL (fun v hv => k_cat1 rfl hv) (Nat.le_of_ble_eq_true rfl) rfl ?_
  refine k_aload_n dL_pupilsInClass_0 3 rfl rfl (by decide) ?_
  refine k_iconst (v := 0) dL_pupilsInClass_1 rfl ?_
  refine k_aload_n dL_pupilsInClass_2 0 rfl rfl (by decide) ?_
  refine k_iload_n dL_pupilsInClass_3 1 rfl rfl ?_
  refine k_iload_n dL_pupilsInClass_4 2 rfl rfl ?_
  rcases hr with ⟨x, rfl⟩ | rfl
  · refine k_callV (k1 := k1) (n1 := n1) (k := 0) (n := 0) (st := [.int (iI (0)), .ref 141]) (as := [.int (iI (p0)), .int (iI (p1))]) dL_pupilsInClass_5 oX7_pupilsInClass rfl w_981 w_982 w_983 (Nat.le_refl _) rfl (Nat.le_of_ble_eq_true rfl) (by decide) (s_0 hsh) rfl hC (Or.inl (k_okl_of (k_Main_len hsh) rfl rfl)) (fun Xn s2 σ2 h => by cases h.1) (fun v s2 σ2 h => ?_)
    obtain ⟨h1, rfl, rfl⟩ := h
    cases h1
    refine k_eqst (st' := [.int (iI x.toInt), .int (iI 0), .ref 141]) (by rw [← iI_of]; rfl) ?_
    refine k_i2l dL_pupilsInClass_8 (k_toR x) ?_
    refine k_last dL_pupilsInClass_9 (by decide) (s_141 hsh') (by decide) (by decide) (by decide) ?_
    refine k_goto (tgt := 17) dL_pupilsInClass_10 rfl ?_
    refine k_iconst (v := 0) dL_pupilsInClass_17 rfl ?_
    exact k_reti dL_pupilsInClass_18 rfl rfl rfl
  · refine k_callV (k1 := k1) (n1 := n1) (k := 0) (n := 0) (st := [.int (iI (0)), .ref 141]) (as := [.int (iI (p0)), .int (iI (p1))]) dL_pupilsInClass_5 oX7_pupilsInClass rfl w_981 w_982 w_983 (Nat.le_refl _) rfl (Nat.le_of_ble_eq_true rfl) (by decide) (s_0 hsh) rfl hC (Or.inl (k_okl_of (k_Main_len hsh) rfl rfl)) (fun Xn s2 σ2 h => ?_) (fun v s2 σ2 h => by cases h.1)
    obtain ⟨h1, rfl, rfl⟩ := h
    cases h1
    refine k_catchN (j := 4) (name := x_io) (hpc := 13) (ls' := [(0, .ref 0), (1, .int (iI (p0))), (2, .int (iI (p1))), (3, .ref 141)]) [] [] (0, 10, 13, 21) rfl (fun z hz => absurd hz List.not_mem_nil) ⟨by decide, by decide⟩ (by decide) w_896 w_712 rfl dL_pupilsInClass_13 (by decide) rfl rfl ?_
    refine k_iconst (v := 1) dL_pupilsInClass_15 rfl ?_
    exact k_reti dL_pupilsInClass_16 rfl rfl (by decide)
set_option maxHeartbeats 4000000 in
theorem cw_pupilInClass (hsh : k_Main sh) (hsh' : k_Main sh') {p0 p1 p2 : Int} (hC : k_C E mX7_pupilInClass D [.ref 0, .int (iI (p0)), .int (iI (p1)), .int (iI (p2))] sh σ k1 n1 (k_rx r sh' τ)) (hr : (∃ x : Int32, r = .inl (some (.int x))) ∨ r = .inr x_io ∨ r = .inr x_ns) : k_C E mL_pupilInClass (D + 1) [.ref 0, .int (iI (p0)), .int (iI (p1)), .int (iI (p2)), .ref 141] sh σ k1 n1 (k_ret (some (.int (iI (w_code [x_io, x_ns] r)))) sh' (w_out r τ)) := by
  refine k_C_ofW (ls0 := [(0, .ref 0), (1, .int (iI (p0))), (2, .int (iI (p1))), (3, .int (iI (p2))), (4, .ref 141)]) (a0 := (0, 12, 15, 21)) (t0 := [(0, 12, 19, 46)]) rfl pnL (fun v hv => k_cat1 rfl hv) (Nat.le_of_ble_eq_true rfl) rfl ?_
  refine k_aload dL_pupilInClass_0 4 rfl (by decide) ?_
  refine k_iconst (v := 0) dL_pupilInClass_2 rfl ?_
  refine k_aload_n dL_pupilInClass_3 0 rfl rfl (by decide) ?_
  refine k_iload_n dL_pupilInClass_4 1 rfl rfl ?_
  refine k_iload_n dL_pupilInClass_5 2 rfl rfl ?_
  refine k_iload_n dL_pupilInClass_6 3 rfl rfl ?_
  rcases hr with ⟨x, rfl⟩ | rfl | rfl
  · refine k_callV (k1 := k1) (n1 := n1) (k := 0) (n := 0) (st := [.int (iI (0)), .ref 141]) (as := [.int (iI (p0)), .int (iI (p1)), .int (iI (p2))]) dL_pupilInClass_7 oX7_pupilInClass rfl w_991 w_992 w_993 (Nat.le_refl _) rfl (Nat.le_of_ble_eq_true rfl) (by decide) (s_0 hsh) rfl hC (Or.inl (k_okl_of (k_Main_len hsh) rfl rfl)) (fun Xn s2 σ2 h => by cases h.1) (fun v s2 σ2 h => ?_)
    obtain ⟨h1, rfl, rfl⟩ := h
    cases h1
    refine k_eqst (st' := [.int (iI x.toInt), .int (iI 0), .ref 141]) (by rw [← iI_of]; rfl) ?_
    refine k_i2l dL_pupilInClass_10 (k_toR x) ?_
    refine k_last dL_pupilInClass_11 (by decide) (s_141 hsh') (by decide) (by decide) (by decide) ?_
    refine k_goto (tgt := 23) dL_pupilInClass_12 rfl ?_
    refine k_iconst (v := 0) dL_pupilInClass_23 rfl ?_
    exact k_reti dL_pupilInClass_24 rfl rfl rfl
  · refine k_callV (k1 := k1) (n1 := n1) (k := 0) (n := 0) (st := [.int (iI (0)), .ref 141]) (as := [.int (iI (p0)), .int (iI (p1)), .int (iI (p2))]) dL_pupilInClass_7 oX7_pupilInClass rfl w_991 w_992 w_993 (Nat.le_refl _) rfl (Nat.le_of_ble_eq_true rfl) (by decide) (s_0 hsh) rfl hC (Or.inl (k_okl_of (k_Main_len hsh) rfl rfl)) (fun Xn s2 σ2 h => ?_) (fun v s2 σ2 h => by cases h.1)
    obtain ⟨h1, rfl, rfl⟩ := h
    cases h1
    refine k_catchN (j := 5) (name := x_io) (hpc := 15) (ls' := [(0, .ref 0), (1, .int (iI (p0))), (2, .int (iI (p1))), (3, .int (iI (p2))), (4, .ref 141)]) [] [(0, 12, 19, 46)] (0, 12, 15, 21) rfl (fun z hz => absurd hz List.not_mem_nil) ⟨by decide, by decide⟩ (by decide) w_896 w_712 rfl dL_pupilInClass_15 (by decide) rfl rfl ?_
    refine k_iconst (v := 1) dL_pupilInClass_17 rfl ?_
    exact k_reti dL_pupilInClass_18 rfl rfl (by decide)
  · refine k_callV (k1 := k1) (n1 := n1) (k := 0) (n := 0) (st := [.int (iI (0)), .ref 141]) (as := [.int (iI (p0)), .int (iI (p1)), .int (iI (p2))]) dL_pupilInClass_7 oX7_pupilInClass rfl w_991 w_992 w_993 (Nat.le_refl _) rfl (Nat.le_of_ble_eq_true rfl) (by decide) (s_0 hsh) rfl hC (Or.inl (k_okl_of (k_Main_len hsh) rfl rfl)) (fun Xn s2 σ2 h => ?_) (fun v s2 σ2 h => by cases h.1)
    obtain ⟨h1, rfl, rfl⟩ := h
    cases h1
    refine k_catchN (j := 5) (name := x_ns) (hpc := 19) (ls' := [(0, .ref 0), (1, .int (iI (p0))), (2, .int (iI (p1))), (3, .int (iI (p2))), (4, .ref 141)]) [(0, 12, 15, 21)] [] (0, 12, 19, 46) rfl (k_xpass (l := [(21, x_io)]) rfl (fun q hq => by
      simp only [List.mem_cons, List.not_mem_nil, or_false] at hq
      rcases hq with rfl
      · exact ⟨by decide, w_896, by decide +kernel, by decide +kernel, by decide +kernel⟩
      )) ⟨by decide, by decide⟩ (by decide) w_990 w_1000 rfl dL_pupilInClass_19 (by decide) rfl rfl ?_
    refine k_iconst (v := 2) dL_pupilInClass_21 rfl ?_
    exact k_reti dL_pupilInClass_22 rfl rfl (by decide)
set_option maxHeartbeats 4000000 in
theorem cw_addPupil (hsh : k_Main sh) (hsh' : k_Main sh') (hC : k_C E mX7_addPupil D [.ref 0] sh σ k1 n1 (k_rx r sh' τ)) (hr : (∃ x : Int32, r = .inl (some (.int x))) ∨ r = .inr x_is) : k_C E mL_addPupil (D + 1) [.ref 0, .ref 141] sh σ k1 n1 (k_ret (some (.int (iI (w_code [x_is] r)))) sh' (w_out r τ)) := by
  refine k_C_ofW (ls0 := [(0, .ref 0), (1, .ref 141)]) (a0 := (0, 8, 11, 15)) (t0 := []) rfl pnL (fun v hv => k_cat1 rfl hv) (Nat.le_of_ble_eq_true rfl) rfl ?_
  refine k_aload_n dL_addPupil_0 1 rfl rfl (by decide) ?_
  refine k_iconst (v := 0) dL_addPupil_1 rfl ?_
  refine k_aload_n dL_addPupil_2 0 rfl rfl (by decide) ?_
  rcases hr with ⟨x, rfl⟩ | rfl
  · refine k_callV (k1 := k1) (n1 := n1) (k := 0) (n := 0) (st := [.int (iI (0)), .ref 141]) (as := []) dL_addPupil_3 oX7_addPupil rfl w_1018 w_1019 w_1020 (Nat.le_refl _) rfl (Nat.le_of_ble_eq_true rfl) (by decide) (s_0 hsh) rfl hC (Or.inl (k_okl_of (k_Main_len hsh) rfl rfl)) (fun Xn s2 σ2 h => by cases h.1) (fun v s2 σ2 h => ?_)
    obtain ⟨h1, rfl, rfl⟩ := h
    cases h1
    refine k_eqst (st' := [.int (iI x.toInt), .int (iI 0), .ref 141]) (by rw [← iI_of]; rfl) ?_
    refine k_i2l dL_addPupil_6 (k_toR x) ?_
    refine k_last dL_addPupil_7 (by decide) (s_141 hsh') (by decide) (by decide) (by decide) ?_
    refine k_goto (tgt := 14) dL_addPupil_8 rfl ?_
    refine k_iconst (v := 0) dL_addPupil_14 rfl ?_
    exact k_reti dL_addPupil_15 rfl rfl rfl
  · refine k_callV (k1 := k1) (n1 := n1) (k := 0) (n := 0) (st := [.int (iI (0)), .ref 141]) (as := []) dL_addPupil_3 oX7_addPupil rfl w_1018 w_1019 w_1020 (Nat.le_refl _) rfl (Nat.le_of_ble_eq_true rfl) (by decide) (s_0 hsh) rfl hC (Or.inl (k_okl_of (k_Main_len hsh) rfl rfl)) (fun Xn s2 σ2 h => ?_) (fun v s2 σ2 h => by cases h.1)
    obtain ⟨h1, rfl, rfl⟩ := h
    cases h1
    refine k_catch (i := 2) (j := 2) (name := x_is) (hpc := 11) (ls' := [(0, .ref 0), (1, .ref 141)]) [] [] (0, 8, 11, 15) rfl (fun z hz => absurd hz List.not_mem_nil) ⟨by decide, by decide⟩ (by decide) w_607 w_800 rfl dL_addPupil_11 rfl (by decide) rfl rfl ?_
    refine k_iconst (v := 1) dL_addPupil_12 rfl ?_
    exact k_reti dL_addPupil_13 rfl rfl (by decide)
set_option maxHeartbeats 4000000 in
theorem cw_addWish (hsh : k_Main sh) (hsh' : k_Main sh') {p0 p1 : Int} (hC : k_C E mX7_addWish D [.ref 0, .int (iI (p0)), .int (iI (p1))] sh σ k1 n1 (k_rx r sh' τ)) (hr : (∃ x : Int32, r = .inl (some (.int x))) ∨ r = .inr x_io ∨ r = .inr x_is) : k_C E mL_addWish (D + 1) [.ref 0, .int (iI (p0)), .int (iI (p1)), .ref 141] sh σ k1 n1 (k_ret (some (.int (iI (w_code [x_io, x_is] r)))) sh' (w_out r τ)) := by
  refine k_C_ofW (ls0 := [(0, .ref 0), (1, .int (iI (p0))), (2, .int (iI (p1))), (3, .ref 141)]) (a0 := (0, 10, 13, 21)) (t0 := [(0, 10, 17, 15)]) rfl pnL (fun v hv => k_cat1 rfl hv) (Nat.le_of_ble_eq_true rfl) rfl ?_
  refine k_aload_n dL_addWish_0 3 rfl rfl (by decide) ?_
  refine k_iconst (v := 0) dL_addWish_1 rfl ?_
  refine k_aload_n dL_addWish_2 0 rfl rfl (by decide) ?_
  refine k_iload_n dL_addWish_3 1 rfl rfl ?_
  refine k_iload_n dL_addWish_4 2 rfl rfl ?_
  rcases hr with ⟨x, rfl⟩ | rfl | rfl
  · refine k_callV (k1 := k1) (n1 := n1) (k := 0) (n := 0) (st := [.int (iI (0)), .ref 141]) (as := [.int (iI (p0)), .int (iI (p1))]) dL_addWish_5 oX7_addWish rfl w_1025 w_1026 w_1027 (Nat.le_refl _) rfl (Nat.le_of_ble_eq_true rfl) (by decide) (s_0 hsh) rfl hC (Or.inl (k_okl_of (k_Main_len hsh) rfl rfl)) (fun Xn s2 σ2 h => by cases h.1) (fun v s2 σ2 h => ?_)
    obtain ⟨h1, rfl, rfl⟩ := h
    cases h1
    refine k_eqst (st' := [.int (iI x.toInt), .int (iI 0), .ref 141]) (by rw [← iI_of]; rfl) ?_
    refine k_i2l dL_addWish_8 (k_toR x) ?_
    refine k_last dL_addWish_9 (by decide) (s_141 hsh') (by decide) (by decide) (by decide) ?_
    refine k_goto (tgt := 21) dL_addWish_10 rfl ?_
    refine k_iconst (v := 0) dL_addWish_21 rfl ?_
    exact k_reti dL_addWish_22 rfl rfl rfl
  · refine k_callV (k1 := k1) (n1 := n1) (k := 0) (n := 0) (st := [.int (iI (0)), .ref 141]) (as := [.int (iI (p0)), .int (iI (p1))]) dL_addWish_5 oX7_addWish rfl w_1025 w_1026 w_1027 (Nat.le_refl _) rfl (Nat.le_of_ble_eq_true rfl) (by decide) (s_0 hsh) rfl hC (Or.inl (k_okl_of (k_Main_len hsh) rfl rfl)) (fun Xn s2 σ2 h => ?_) (fun v s2 σ2 h => by cases h.1)
    obtain ⟨h1, rfl, rfl⟩ := h
    cases h1
    refine k_catchN (j := 4) (name := x_io) (hpc := 13) (ls' := [(0, .ref 0), (1, .int (iI (p0))), (2, .int (iI (p1))), (3, .ref 141)]) [] [(0, 10, 17, 15)] (0, 10, 13, 21) rfl (fun z hz => absurd hz List.not_mem_nil) ⟨by decide, by decide⟩ (by decide) w_896 w_712 rfl dL_addWish_13 (by decide) rfl rfl ?_
    refine k_iconst (v := 1) dL_addWish_15 rfl ?_
    exact k_reti dL_addWish_16 rfl rfl (by decide)
  · refine k_callV (k1 := k1) (n1 := n1) (k := 0) (n := 0) (st := [.int (iI (0)), .ref 141]) (as := [.int (iI (p0)), .int (iI (p1))]) dL_addWish_5 oX7_addWish rfl w_1025 w_1026 w_1027 (Nat.le_refl _) rfl (Nat.le_of_ble_eq_true rfl) (by decide) (s_0 hsh) rfl hC (Or.inl (k_okl_of (k_Main_len hsh) rfl rfl)) (fun Xn s2 σ2 h => ?_) (fun v s2 σ2 h => by cases h.1)
    obtain ⟨h1, rfl, rfl⟩ := h
    cases h1
    refine k_catchN (j := 4) (name := x_is) (hpc := 17) (ls' := [(0, .ref 0), (1, .int (iI (p0))), (2, .int (iI (p1))), (3, .ref 141)]) [(0, 10, 13, 21)] [] (0, 10, 17, 15) rfl (k_xpass (l := [(21, x_io)]) rfl (fun q hq => by
      simp only [List.mem_cons, List.not_mem_nil, or_false] at hq
      rcases hq with rfl
      · exact ⟨by decide, w_896, by decide +kernel, by decide +kernel, by decide +kernel⟩
      )) ⟨by decide, by decide⟩ (by decide) w_607 w_800 rfl dL_addWish_17 (by decide) rfl rfl ?_
    refine k_iconst (v := 2) dL_addWish_19 rfl ?_
    exact k_reti dL_addWish_20 rfl rfl (by decide)
set_option maxHeartbeats 4000000 in
theorem cw_setReserve (hsh : k_Main sh) (hsh' : k_Main sh') {p0 p1 : Int} (hC : k_C E mX7_setReserve D [.ref 0, .int (iI (p0)), .int (iI (p1))] sh σ k1 n1 (k_rx r sh' τ)) (hr : (∃ x : Int32, r = .inl (some (.int x))) ∨ r = .inr x_io ∨ r = .inr x_is) : k_C E mL_setReserve (D + 1) [.ref 0, .int (iI (p0)), .int (iI (p1)), .ref 141] sh σ k1 n1 (k_ret (some (.int (iI (w_code [x_io, x_is] r)))) sh' (w_out r τ)) := by
  refine k_C_ofW (ls0 := [(0, .ref 0), (1, .int (iI (p0))), (2, .int (iI (p1))), (3, .ref 141)]) (a0 := (0, 10, 13, 21)) (t0 := [(0, 10, 17, 15)]) rfl pnL (fun v hv => k_cat1 rfl hv) (Nat.le_of_ble_eq_true rfl) rfl ?_
  refine k_aload_n dL_setReserve_0 3 rfl rfl (by decide) ?_
  refine k_iconst (v := 0) dL_setReserve_1 rfl ?_
  refine k_aload_n dL_setReserve_2 0 rfl rfl (by decide) ?_
  refine k_iload_n dL_setReserve_3 1 rfl rfl ?_
  refine k_iload_n dL_setReserve_4 2 rfl rfl ?_
  rcases hr with ⟨x, rfl⟩ | rfl | rfl
  · refine k_callV (k1 := k1) (n1 := n1) (k := 0) (n := 0) (st := [.int (iI (0)), .ref 141]) (as := [.int (iI (p0)), .int (iI (p1))]) dL_setReserve_5 oX7_setReserve rfl w_1032 w_1033 w_1034 (Nat.le_refl _) rfl (Nat.le_of_ble_eq_true rfl) (by decide) (s_0 hsh) rfl hC (Or.inl (k_okl_of (k_Main_len hsh) rfl rfl)) (fun Xn s2 σ2 h => by cases h.1) (fun v s2 σ2 h => ?_)
    obtain ⟨h1, rfl, rfl⟩ := h
    cases h1
    refine k_eqst (st' := [.int (iI x.toInt), .int (iI 0), .ref 141]) (by rw [← iI_of]; rfl) ?_
    refine k_i2l dL_setReserve_8 (k_toR x) ?_
    refine k_last dL_setReserve_9 (by decide) (s_141 hsh') (by decide) (by decide) (by decide) ?_
    refine k_goto (tgt := 21) dL_setReserve_10 rfl ?_
    refine k_iconst (v := 0) dL_setReserve_21 rfl ?_
    exact k_reti dL_setReserve_22 rfl rfl rfl
  · refine k_callV (k1 := k1) (n1 := n1) (k := 0) (n := 0) (st := [.int (iI (0)), .ref 141]) (as := [.int (iI (p0)), .int (iI (p1))]) dL_setReserve_5 oX7_setReserve rfl w_1032 w_1033 w_1034 (Nat.le_refl _) rfl (Nat.le_of_ble_eq_true rfl) (by decide) (s_0 hsh) rfl hC (Or.inl (k_okl_of (k_Main_len hsh) rfl rfl)) (fun Xn s2 σ2 h => ?_) (fun v s2 σ2 h => by cases h.1)
    obtain ⟨h1, rfl, rfl⟩ := h
    cases h1
    refine k_catchN (j := 4) (name := x_io) (hpc := 13) (ls' := [(0, .ref 0), (1, .int (iI (p0))), (2, .int (iI (p1))), (3, .ref 141)]) [] [(0, 10, 17, 15)] (0, 10, 13, 21) rfl (fun z hz => absurd hz List.not_mem_nil) ⟨by decide, by decide⟩ (by decide) w_896 w_712 rfl dL_setReserve_13 (by decide) rfl rfl ?_
    refine k_iconst (v := 1) dL_setReserve_15 rfl ?_
    exact k_reti dL_setReserve_16 rfl rfl (by decide)
  · refine k_callV (k1 := k1) (n1 := n1) (k := 0) (n := 0) (st := [.int (iI (0)), .ref 141]) (as := [.int (iI (p0)), .int (iI (p1))]) dL_setReserve_5 oX7_setReserve rfl w_1032 w_1033 w_1034 (Nat.le_refl _) rfl (Nat.le_of_ble_eq_true rfl) (by decide) (s_0 hsh) rfl hC (Or.inl (k_okl_of (k_Main_len hsh) rfl rfl)) (fun Xn s2 σ2 h => ?_) (fun v s2 σ2 h => by cases h.1)
    obtain ⟨h1, rfl, rfl⟩ := h
    cases h1
    refine k_catchN (j := 4) (name := x_is) (hpc := 17) (ls' := [(0, .ref 0), (1, .int (iI (p0))), (2, .int (iI (p1))), (3, .ref 141)]) [(0, 10, 13, 21)] [] (0, 10, 17, 15) rfl (k_xpass (l := [(21, x_io)]) rfl (fun q hq => by
      simp only [List.mem_cons, List.not_mem_nil, or_false] at hq
      rcases hq with rfl
      · exact ⟨by decide, w_896, by decide +kernel, by decide +kernel, by decide +kernel⟩
      )) ⟨by decide, by decide⟩ (by decide) w_607 w_800 rfl dL_setReserve_17 (by decide) rfl rfl ?_
    refine k_iconst (v := 2) dL_setReserve_19 rfl ?_
    exact k_reti dL_setReserve_20 rfl rfl (by decide)
set_option maxHeartbeats 4000000 in
theorem cw_wishCount (hsh : k_Main sh) (hsh' : k_Main sh') {p0 : Int} (hC : k_C E mX7_wishCount D [.ref 0, .int (iI (p0))] sh σ k1 n1 (k_rx r sh' τ)) (hr : (∃ x : Int32, r = .inl (some (.int x))) ∨ r = .inr x_io) : k_C E mL_wishCount (D + 1) [.ref 0, .int (iI (p0)), .ref 141] sh σ k1 n1 (k_ret (some (.int (iI (w_code [x_io] r)))) sh' (w_out r τ)) := by
  refine k_C_ofW (ls0 := [(0, .ref 0), (1, .int (iI (p0))), (2, .ref 141)]) (a0 := (0, 9, 12, 21)) (t0 := []) rfl pnL (fun v hv => k_cat1 rfl hv) (Nat.le_of_ble_eq_true rfl) rfl ?_
  refine k_aload_n dL_wishCount_0 2 rfl rfl (by decide) ?_
  refine k_iconst (v := 0) dL_wishCount_1 rfl ?_
  refine k_aload_n dL_wishCount_2 0 rfl rfl (by decide) ?_
  refine k_iload_n dL_wishCount_3 1 rfl rfl ?_
  rcases hr with ⟨x, rfl⟩ | rfl
  · refine k_callV (k1 := k1) (n1 := n1) (k := 0) (n := 0) (st := [.int (iI (0)), .ref 141]) (as := [.int (iI (p0))]) dL_wishCount_4 oX7_wishCount rfl w_1039 w_1040 w_1041 (Nat.le_refl _) rfl (Nat.le_of_ble_eq_true rfl) (by decide) (s_0 hsh) rfl hC (Or.inl (k_okl_of (k_Main_len hsh) rfl rfl)) (fun Xn s2 σ2 h => by cases h.1) (fun v s2 σ2 h => ?_)
    obtain ⟨h1, rfl, rfl⟩ := h
    cases h1
    refine k_eqst (st' := [.int (iI x.toInt), .int (iI 0), .ref 141]) (by rw [← iI_of]; rfl) ?_
    refine k_i2l dL_wishCount_7 (k_toR x) ?_
    refine k_last dL_wishCount_8 (by decide) (s_141 hsh') (by decide) (by decide) (by decide) ?_
    refine k_goto (tgt := 15) dL_wishCount_9 rfl ?_
    refine k_iconst (v := 0) dL_wishCount_15 rfl ?_
    exact k_reti dL_wishCount_16 rfl rfl rfl
  · refine k_callV (k1 := k1) (n1 := n1) (k := 0) (n := 0) (st := [.int (iI (0)), .ref 141]) (as := [.int (iI (p0))]) dL_wishCount_4 oX7_wishCount rfl w_1039 w_1040 w_1041 (Nat.le_refl _) rfl (Nat.le_of_ble_eq_true rfl) (by decide) (s_0 hsh) rfl hC (Or.inl (k_okl_of (k_Main_len hsh) rfl rfl)) (fun Xn s2 σ2 h => ?_) (fun v s2 σ2 h => by cases h.1)
    obtain ⟨h1, rfl, rfl⟩ := h
    cases h1
    refine k_catch (i := 3) (j := 3) (name := x_io) (hpc := 12) (ls' := [(0, .ref 0), (1, .int (iI (p0))), (2, .ref 141)]) [] [] (0, 9, 12, 21) rfl (fun z hz => absurd hz List.not_mem_nil) ⟨by decide, by decide⟩ (by decide) w_896 w_712 rfl dL_wishCount_12 rfl (by decide) rfl rfl ?_
    refine k_iconst (v := 1) dL_wishCount_13 rfl ?_
    exact k_reti dL_wishCount_14 rfl rfl (by decide)
set_option maxHeartbeats 4000000 in
theorem cw_wishAt (hsh : k_Main sh) (hsh' : k_Main sh') {p0 p1 : Int} (hC : k_C E mX7_wishAt D [.ref 0, .int (iI (p0)), .int (iI (p1))] sh σ k1 n1 (k_rx r sh' τ)) (hr : (∃ x : Int32, r = .inl (some (.int x))) ∨ r = .inr x_io ∨ r = .inr x_ns) : k_C E mL_wishAt (D + 1) [.ref 0, .int (iI (p0)), .int (iI (p1)), .ref 141] sh σ k1 n1 (k_ret (some (.int (iI (w_code [x_io, x_ns] r)))) sh' (w_out r τ)) := by
  refine k_C_ofW (ls0 := [(0, .ref 0), (1, .int (iI (p0))), (2, .int (iI (p1))), (3, .ref 141)]) (a0 := (0, 10, 13, 21)) (t0 := [(0, 10, 17, 46)]) rfl pnL (fun v hv => k_cat1 rfl hv) (Nat.le_of_ble_eq_true rfl) rfl ?_
  refine k_aload_n dL_wishAt_0 3 rfl rfl (by decide) ?_
  refine k_iconst (v := 0) dL_wishAt_1 rfl ?_
  refine k_aload_n dL_wishAt_2 0 rfl rfl (by decide) ?_
  refine k_iload_n dL_wishAt_3 1 rfl rfl ?_
  refine k_iload_n dL_wishAt_4 2 rfl rfl ?_
  rcases hr with ⟨x, rfl⟩ | rfl | rfl
  · refine k_callV (k1 := k1) (n1 := n1) (k := 0) (n := 0) (st := [.int (iI (0)), .ref 141]) (as := [.int (iI (p0)), .int (iI (p1))]) dL_wishAt_5 oX7_wishAt rfl w_1047 w_1048 w_1049 (Nat.le_refl _) rfl (Nat.le_of_ble_eq_true rfl) (by decide) (s_0 hsh) rfl hC (Or.inl (k_okl_of (k_Main_len hsh) rfl rfl)) (fun Xn s2 σ2 h => by cases h.1) (fun v s2 σ2 h => ?_)
    obtain ⟨h1, rfl, rfl⟩ := h
    cases h1
    refine k_eqst (st' := [.int (iI x.toInt), .int (iI 0), .ref 141]) (by rw [← iI_of]; rfl) ?_
    refine k_i2l dL_wishAt_8 (k_toR x) ?_
    refine k_last dL_wishAt_9 (by decide) (s_141 hsh') (by decide) (by decide) (by decide) ?_
    refine k_goto (tgt := 21) dL_wishAt_10 rfl ?_
    refine k_iconst (v := 0) dL_wishAt_21 rfl ?_
    exact k_reti dL_wishAt_22 rfl rfl rfl
  · refine k_callV (k1 := k1) (n1 := n1) (k := 0) (n := 0) (st := [.int (iI (0)), .ref 141]) (as := [.int (iI (p0)), .int (iI (p1))]) dL_wishAt_5 oX7_wishAt rfl w_1047 w_1048 w_1049 (Nat.le_refl _) rfl (Nat.le_of_ble_eq_true rfl) (by decide) (s_0 hsh) rfl hC (Or.inl (k_okl_of (k_Main_len hsh) rfl rfl)) (fun Xn s2 σ2 h => ?_) (fun v s2 σ2 h => by cases h.1)
    obtain ⟨h1, rfl, rfl⟩ := h
    cases h1
    refine k_catchN (j := 4) (name := x_io) (hpc := 13) (ls' := [(0, .ref 0), (1, .int (iI (p0))), (2, .int (iI (p1))), (3, .ref 141)]) [] [(0, 10, 17, 46)] (0, 10, 13, 21) rfl (fun z hz => absurd hz List.not_mem_nil) ⟨by decide, by decide⟩ (by decide) w_896 w_712 rfl dL_wishAt_13 (by decide) rfl rfl ?_
    refine k_iconst (v := 1) dL_wishAt_15 rfl ?_
    exact k_reti dL_wishAt_16 rfl rfl (by decide)
  · refine k_callV (k1 := k1) (n1 := n1) (k := 0) (n := 0) (st := [.int (iI (0)), .ref 141]) (as := [.int (iI (p0)), .int (iI (p1))]) dL_wishAt_5 oX7_wishAt rfl w_1047 w_1048 w_1049 (Nat.le_refl _) rfl (Nat.le_of_ble_eq_true rfl) (by decide) (s_0 hsh) rfl hC (Or.inl (k_okl_of (k_Main_len hsh) rfl rfl)) (fun Xn s2 σ2 h => ?_) (fun v s2 σ2 h => by cases h.1)
    obtain ⟨h1, rfl, rfl⟩ := h
    cases h1
    refine k_catchN (j := 4) (name := x_ns) (hpc := 17) (ls' := [(0, .ref 0), (1, .int (iI (p0))), (2, .int (iI (p1))), (3, .ref 141)]) [(0, 10, 13, 21)] [] (0, 10, 17, 46) rfl (k_xpass (l := [(21, x_io)]) rfl (fun q hq => by
      simp only [List.mem_cons, List.not_mem_nil, or_false] at hq
      rcases hq with rfl
      · exact ⟨by decide, w_896, by decide +kernel, by decide +kernel, by decide +kernel⟩
      )) ⟨by decide, by decide⟩ (by decide) w_990 w_1000 rfl dL_wishAt_17 (by decide) rfl rfl ?_
    refine k_iconst (v := 2) dL_wishAt_19 rfl ?_
    exact k_reti dL_wishAt_20 rfl rfl (by decide)
set_option maxHeartbeats 4000000 in
theorem cw_reserveOf (hsh : k_Main sh) (hsh' : k_Main sh') {p0 : Int} (hC : k_C E mX7_reserveOf D [.ref 0, .int (iI (p0))] sh σ k1 n1 (k_rx r sh' τ)) (hr : (∃ x : Int32, r = .inl (some (.int x))) ∨ r = .inr x_io) : k_C E mL_reserveOf (D + 1) [.ref 0, .int (iI (p0)), .ref 141] sh σ k1 n1 (k_ret (some (.int (iI (w_code [x_io] r)))) sh' (w_out r τ)) := by
  refine k_C_ofW (ls0 := [(0, .ref 0), (1, .int (iI (p0))), (2, .ref 141)]) (a0 := (0, 9, 12, 21)) (t0 := []) rfl pnL (fun v hv => k_cat1 rfl hv) (Nat.le_of_ble_eq_true rfl) rfl ?_
  refine k_aload_n dL_reserveOf_0 2 rfl rfl (by decide) ?_
  refine k_iconst (v := 0) dL_reserveOf_1 rfl ?_
  refine k_aload_n dL_reserveOf_2 0 rfl rfl (by decide) ?_
  refine k_iload_n dL_reserveOf_3 1 rfl rfl ?_
  rcases hr with ⟨x, rfl⟩ | rfl
  · refine k_callV (k1 := k1) (n1 := n1) (k := 0) (n := 0) (st := [.int (iI (0)), .ref 141]) (as := [.int (iI (p0))]) dL_reserveOf_4 oX7_reserveOf rfl w_1055 w_1056 w_1057 (Nat.le_refl _) rfl (Nat.le_of_ble_eq_true rfl) (by decide) (s_0 hsh) rfl hC (Or.inl (k_okl_of (k_Main_len hsh) rfl rfl)) (fun Xn s2 σ2 h => by cases h.1) (fun v s2 σ2 h => ?_)
    obtain ⟨h1, rfl, rfl⟩ := h
    cases h1
    refine k_eqst (st' := [.int (iI x.toInt), .int (iI 0), .ref 141]) (by rw [← iI_of]; rfl) ?_
    refine k_i2l dL_reserveOf_7 (k_toR x) ?_
    refine k_last dL_reserveOf_8 (by decide) (s_141 hsh') (by decide) (by decide) (by decide) ?_
    refine k_goto (tgt := 15) dL_reserveOf_9 rfl ?_
    refine k_iconst (v := 0) dL_reserveOf_15 rfl ?_
    exact k_reti dL_reserveOf_16 rfl rfl rfl
  · refine k_callV (k1 := k1) (n1 := n1) (k := 0) (n := 0) (st := [.int (iI (0)), .ref 141]) (as := [.int (iI (p0))]) dL_reserveOf_4 oX7_reserveOf rfl w_1055 w_1056 w_1057 (Nat.le_refl _) rfl (Nat.le_of_ble_eq_true rfl) (by decide) (s_0 hsh) rfl hC (Or.inl (k_okl_of (k_Main_len hsh) rfl rfl)) (fun Xn s2 σ2 h => ?_) (fun v s2 σ2 h => by cases h.1)
    obtain ⟨h1, rfl, rfl⟩ := h
    cases h1
    refine k_catch (i := 3) (j := 3) (name := x_io) (hpc := 12) (ls' := [(0, .ref 0), (1, .int (iI (p0))), (2, .ref 141)]) [] [] (0, 9, 12, 21) rfl (fun z hz => absurd hz List.not_mem_nil) ⟨by decide, by decide⟩ (by decide) w_896 w_712 rfl dL_reserveOf_12 rfl (by decide) rfl rfl ?_
    refine k_iconst (v := 1) dL_reserveOf_13 rfl ?_
    exact k_reti dL_reserveOf_14 rfl rfl (by decide)
set_option maxHeartbeats 4000000 in
theorem cw_subjectIn (hsh : k_Main sh) (hsh' : k_Main sh') {p0 p1 : Int} (hC : k_C E mX7_subjectIn D [.ref 0, .int (iI (p0)), .int (iI (p1))] sh σ k1 n1 (k_rx r sh' τ)) (hr : (∃ x : Int32, r = .inl (some (.int x))) ∨ r = .inr x_io) : k_C E mL_subjectIn (D + 1) [.ref 0, .int (iI (p0)), .int (iI (p1)), .ref 141] sh σ k1 n1 (k_ret (some (.int (iI (w_code [x_io] r)))) sh' (w_out r τ)) := by
  refine k_C_ofW (ls0 := [(0, .ref 0), (1, .int (iI (p0))), (2, .int (iI (p1))), (3, .ref 141)]) (a0 := (0, 10, 13, 21)) (t0 := []) rfl pnL (fun v hv => k_cat1 rfl hv) (Nat.le_of_ble_eq_true rfl) rfl ?_
  refine k_aload_n dL_subjectIn_0 3 rfl rfl (by decide) ?_
  refine k_iconst (v := 0) dL_subjectIn_1 rfl ?_
  refine k_aload_n dL_subjectIn_2 0 rfl rfl (by decide) ?_
  refine k_iload_n dL_subjectIn_3 1 rfl rfl ?_
  refine k_iload_n dL_subjectIn_4 2 rfl rfl ?_
  rcases hr with ⟨x, rfl⟩ | rfl
  · refine k_callV (k1 := k1) (n1 := n1) (k := 0) (n := 0) (st := [.int (iI (0)), .ref 141]) (as := [.int (iI (p0)), .int (iI (p1))]) dL_subjectIn_5 oX7_subjectIn rfl w_1062 w_1063 w_1064 (Nat.le_refl _) rfl (Nat.le_of_ble_eq_true rfl) (by decide) (s_0 hsh) rfl hC (Or.inl (k_okl_of (k_Main_len hsh) rfl rfl)) (fun Xn s2 σ2 h => by cases h.1) (fun v s2 σ2 h => ?_)
    obtain ⟨h1, rfl, rfl⟩ := h
    cases h1
    refine k_eqst (st' := [.int (iI x.toInt), .int (iI 0), .ref 141]) (by rw [← iI_of]; rfl) ?_
    refine k_i2l dL_subjectIn_8 (k_toR x) ?_
    refine k_last dL_subjectIn_9 (by decide) (s_141 hsh') (by decide) (by decide) (by decide) ?_
    refine k_goto (tgt := 17) dL_subjectIn_10 rfl ?_
    refine k_iconst (v := 0) dL_subjectIn_17 rfl ?_
    exact k_reti dL_subjectIn_18 rfl rfl rfl
  · refine k_callV (k1 := k1) (n1 := n1) (k := 0) (n := 0) (st := [.int (iI (0)), .ref 141]) (as := [.int (iI (p0)), .int (iI (p1))]) dL_subjectIn_5 oX7_subjectIn rfl w_1062 w_1063 w_1064 (Nat.le_refl _) rfl (Nat.le_of_ble_eq_true rfl) (by decide) (s_0 hsh) rfl hC (Or.inl (k_okl_of (k_Main_len hsh) rfl rfl)) (fun Xn s2 σ2 h => ?_) (fun v s2 σ2 h => by cases h.1)
    obtain ⟨h1, rfl, rfl⟩ := h
    cases h1
    refine k_catchN (j := 4) (name := x_io) (hpc := 13) (ls' := [(0, .ref 0), (1, .int (iI (p0))), (2, .int (iI (p1))), (3, .ref 141)]) [] [] (0, 10, 13, 21) rfl (fun z hz => absurd hz List.not_mem_nil) ⟨by decide, by decide⟩ (by decide) w_896 w_712 rfl dL_subjectIn_13 (by decide) rfl rfl ?_
    refine k_iconst (v := 1) dL_subjectIn_15 rfl ?_
    exact k_reti dL_subjectIn_16 rfl rfl (by decide)
set_option maxHeartbeats 4000000 in
theorem cw_blockOf (hsh : k_Main sh) (hsh' : k_Main sh') {p0 p1 : Int} (hC : k_C E mX7_blockOf D [.ref 0, .int (iI (p0)), .int (iI (p1))] sh σ k1 n1 (k_rx r sh' τ)) (hr : (∃ x : Int32, r = .inl (some (.int x))) ∨ r = .inr x_io) : k_C E mL_blockOf (D + 1) [.ref 0, .int (iI (p0)), .int (iI (p1)), .ref 141] sh σ k1 n1 (k_ret (some (.int (iI (w_code [x_io] r)))) sh' (w_out r τ)) := by
  refine k_C_ofW (ls0 := [(0, .ref 0), (1, .int (iI (p0))), (2, .int (iI (p1))), (3, .ref 141)]) (a0 := (0, 10, 13, 21)) (t0 := []) rfl pnL (fun v hv => k_cat1 rfl hv) (Nat.le_of_ble_eq_true rfl) rfl ?_
  refine k_aload_n dL_blockOf_0 3 rfl rfl (by decide) ?_
  refine k_iconst (v := 0) dL_blockOf_1 rfl ?_
  refine k_aload_n dL_blockOf_2 0 rfl rfl (by decide) ?_
  refine k_iload_n dL_blockOf_3 1 rfl rfl ?_
  refine k_iload_n dL_blockOf_4 2 rfl rfl ?_
  rcases hr with ⟨x, rfl⟩ | rfl
  · refine k_callV (k1 := k1) (n1 := n1) (k := 0) (n := 0) (st := [.int (iI (0)), .ref 141]) (as := [.int (iI (p0)), .int (iI (p1))]) dL_blockOf_5 oX7_blockOf rfl w_1074 w_1075 w_1076 (Nat.le_refl _) rfl (Nat.le_of_ble_eq_true rfl) (by decide) (s_0 hsh) rfl hC (Or.inl (k_okl_of (k_Main_len hsh) rfl rfl)) (fun Xn s2 σ2 h => by cases h.1) (fun v s2 σ2 h => ?_)
    obtain ⟨h1, rfl, rfl⟩ := h
    cases h1
    refine k_eqst (st' := [.int (iI x.toInt), .int (iI 0), .ref 141]) (by rw [← iI_of]; rfl) ?_
    refine k_i2l dL_blockOf_8 (k_toR x) ?_
    refine k_last dL_blockOf_9 (by decide) (s_141 hsh') (by decide) (by decide) (by decide) ?_
    refine k_goto (tgt := 17) dL_blockOf_10 rfl ?_
    refine k_iconst (v := 0) dL_blockOf_17 rfl ?_
    exact k_reti dL_blockOf_18 rfl rfl rfl
  · refine k_callV (k1 := k1) (n1 := n1) (k := 0) (n := 0) (st := [.int (iI (0)), .ref 141]) (as := [.int (iI (p0)), .int (iI (p1))]) dL_blockOf_5 oX7_blockOf rfl w_1074 w_1075 w_1076 (Nat.le_refl _) rfl (Nat.le_of_ble_eq_true rfl) (by decide) (s_0 hsh) rfl hC (Or.inl (k_okl_of (k_Main_len hsh) rfl rfl)) (fun Xn s2 σ2 h => ?_) (fun v s2 σ2 h => by cases h.1)
    obtain ⟨h1, rfl, rfl⟩ := h
    cases h1
    refine k_catchN (j := 4) (name := x_io) (hpc := 13) (ls' := [(0, .ref 0), (1, .int (iI (p0))), (2, .int (iI (p1))), (3, .ref 141)]) [] [] (0, 10, 13, 21) rfl (fun z hz => absurd hz List.not_mem_nil) ⟨by decide, by decide⟩ (by decide) w_896 w_712 rfl dL_blockOf_13 (by decide) rfl rfl ?_
    refine k_iconst (v := 1) dL_blockOf_15 rfl ?_
    exact k_reti dL_blockOf_16 rfl rfl (by decide)
set_option maxHeartbeats 4000000 in
theorem cw_enrol (hsh : k_Main sh) (hsh' : k_Main sh') {p0 : Int} (hC : k_C E mX7_enrol D [.ref 0, .int (iI (p0))] sh σ k1 n1 (k_rx r sh' τ)) (hr : (∃ x : Int32, r = .inl (some (.int x))) ∨ r = .inr x_io ∨ r = .inr x_is) : k_C E mL_enrol (D + 1) [.ref 0, .int (iI (p0)), .ref 141] sh σ k1 n1 (k_ret (some (.int (iI (w_code [x_io, x_is] r)))) sh' (w_out r τ)) := by
  refine k_C_ofW (ls0 := [(0, .ref 0), (1, .int (iI (p0))), (2, .ref 141)]) (a0 := (0, 9, 12, 21)) (t0 := [(0, 9, 15, 15)]) rfl pnL (fun v hv => k_cat1 rfl hv) (Nat.le_of_ble_eq_true rfl) rfl ?_
  refine k_aload_n dL_enrol_0 2 rfl rfl (by decide) ?_
  refine k_iconst (v := 0) dL_enrol_1 rfl ?_
  refine k_aload_n dL_enrol_2 0 rfl rfl (by decide) ?_
  refine k_iload_n dL_enrol_3 1 rfl rfl ?_
  rcases hr with ⟨x, rfl⟩ | rfl | rfl
  · refine k_callV (k1 := k1) (n1 := n1) (k := 0) (n := 0) (st := [.int (iI (0)), .ref 141]) (as := [.int (iI (p0))]) dL_enrol_4 oX7_enrol rfl w_1082 w_1083 w_1084 (Nat.le_refl _) rfl (Nat.le_of_ble_eq_true rfl) (by decide) (s_0 hsh) rfl hC (Or.inl (k_okl_of (k_Main_len hsh) rfl rfl)) (fun Xn s2 σ2 h => by cases h.1) (fun v s2 σ2 h => ?_)
    obtain ⟨h1, rfl, rfl⟩ := h
    cases h1
    refine k_eqst (st' := [.int (iI x.toInt), .int (iI 0), .ref 141]) (by rw [← iI_of]; rfl) ?_
    refine k_i2l dL_enrol_7 (k_toR x) ?_
    refine k_last dL_enrol_8 (by decide) (s_141 hsh') (by decide) (by decide) (by decide) ?_
    refine k_goto (tgt := 18) dL_enrol_9 rfl ?_
    refine k_iconst (v := 0) dL_enrol_18 rfl ?_
    exact k_reti dL_enrol_19 rfl rfl rfl
  · refine k_callV (k1 := k1) (n1 := n1) (k := 0) (n := 0) (st := [.int (iI (0)), .ref 141]) (as := [.int (iI (p0))]) dL_enrol_4 oX7_enrol rfl w_1082 w_1083 w_1084 (Nat.le_refl _) rfl (Nat.le_of_ble_eq_true rfl) (by decide) (s_0 hsh) rfl hC (Or.inl (k_okl_of (k_Main_len hsh) rfl rfl)) (fun Xn s2 σ2 h => ?_) (fun v s2 σ2 h => by cases h.1)
    obtain ⟨h1, rfl, rfl⟩ := h
    cases h1
    refine k_catch (i := 3) (j := 3) (name := x_io) (hpc := 12) (ls' := [(0, .ref 0), (1, .int (iI (p0))), (2, .ref 141)]) [] [(0, 9, 15, 15)] (0, 9, 12, 21) rfl (fun z hz => absurd hz List.not_mem_nil) ⟨by decide, by decide⟩ (by decide) w_896 w_712 rfl dL_enrol_12 rfl (by decide) rfl rfl ?_
    refine k_iconst (v := 1) dL_enrol_13 rfl ?_
    exact k_reti dL_enrol_14 rfl rfl (by decide)
  · refine k_callV (k1 := k1) (n1 := n1) (k := 0) (n := 0) (st := [.int (iI (0)), .ref 141]) (as := [.int (iI (p0))]) dL_enrol_4 oX7_enrol rfl w_1082 w_1083 w_1084 (Nat.le_refl _) rfl (Nat.le_of_ble_eq_true rfl) (by decide) (s_0 hsh) rfl hC (Or.inl (k_okl_of (k_Main_len hsh) rfl rfl)) (fun Xn s2 σ2 h => ?_) (fun v s2 σ2 h => by cases h.1)
    obtain ⟨h1, rfl, rfl⟩ := h
    cases h1
    refine k_catch (i := 3) (j := 3) (name := x_is) (hpc := 15) (ls' := [(0, .ref 0), (1, .int (iI (p0))), (2, .ref 141)]) [(0, 9, 12, 21)] [] (0, 9, 15, 15) rfl (k_xpass (l := [(21, x_io)]) rfl (fun q hq => by
      simp only [List.mem_cons, List.not_mem_nil, or_false] at hq
      rcases hq with rfl
      · exact ⟨by decide, w_896, by decide +kernel, by decide +kernel, by decide +kernel⟩
      )) ⟨by decide, by decide⟩ (by decide) w_607 w_800 rfl dL_enrol_15 rfl (by decide) rfl rfl ?_
    refine k_iconst (v := 2) dL_enrol_16 rfl ?_
    exact k_reti dL_enrol_17 rfl rfl (by decide)
set_option maxHeartbeats 4000000 in
theorem cw_withdraw (hsh : k_Main sh) (hsh' : k_Main sh') {p0 : Int} (hC : k_C E mX7_withdraw D [.ref 0, .int (iI (p0))] sh σ k1 n1 (k_rx r sh' τ)) (hr : (∃ x : Int32, r = .inl (some (.int x))) ∨ r = .inr x_io ∨ r = .inr x_is) : k_C E mL_withdraw (D + 1) [.ref 0, .int (iI (p0)), .ref 141] sh σ k1 n1 (k_ret (some (.int (iI (w_code [x_io, x_is] r)))) sh' (w_out r τ)) := by
  refine k_C_ofW (ls0 := [(0, .ref 0), (1, .int (iI (p0))), (2, .ref 141)]) (a0 := (0, 9, 12, 21)) (t0 := [(0, 9, 15, 15)]) rfl pnL (fun v hv => k_cat1 rfl hv) (Nat.le_of_ble_eq_true rfl) rfl ?_
  refine k_aload_n dL_withdraw_0 2 rfl rfl (by decide) ?_
  refine k_iconst (v := 0) dL_withdraw_1 rfl ?_
  refine k_aload_n dL_withdraw_2 0 rfl rfl (by decide) ?_
  refine k_iload_n dL_withdraw_3 1 rfl rfl ?_
  rcases hr with ⟨x, rfl⟩ | rfl | rfl
  · refine k_callV (k1 := k1) (n1 := n1) (k := 0) (n := 0) (st := [.int (iI (0)), .ref 141]) (as := [.int (iI (p0))]) dL_withdraw_4 oX7_withdraw rfl w_1089 w_1090 w_1091 (Nat.le_refl _) rfl (Nat.le_of_ble_eq_true rfl) (by decide) (s_0 hsh) rfl hC (Or.inl (k_okl_of (k_Main_len hsh) rfl rfl)) (fun Xn s2 σ2 h => by cases h.1) (fun v s2 σ2 h => ?_)
    obtain ⟨h1, rfl, rfl⟩ := h
    cases h1
    refine k_eqst (st' := [.int (iI x.toInt), .int (iI 0), .ref 141]) (by rw [← iI_of]; rfl) ?_
    refine k_i2l dL_withdraw_7 (k_toR x) ?_
    refine k_last dL_withdraw_8 (by decide) (s_141 hsh') (by decide) (by decide) (by decide) ?_
    refine k_goto (tgt := 18) dL_withdraw_9 rfl ?_
    refine k_iconst (v := 0) dL_withdraw_18 rfl ?_
    exact k_reti dL_withdraw_19 rfl rfl rfl
  · refine k_callV (k1 := k1) (n1 := n1) (k := 0) (n := 0) (st := [.int (iI (0)), .ref 141]) (as := [.int (iI (p0))]) dL_withdraw_4 oX7_withdraw rfl w_1089 w_1090 w_1091 (Nat.le_refl _) rfl (Nat.le_of_ble_eq_true rfl) (by decide) (s_0 hsh) rfl hC (Or.inl (k_okl_of (k_Main_len hsh) rfl rfl)) (fun Xn s2 σ2 h => ?_) (fun v s2 σ2 h => by cases h.1)
    obtain ⟨h1, rfl, rfl⟩ := h
    cases h1
    refine k_catch (i := 3) (j := 3) (name := x_io) (hpc := 12) (ls' := [(0, .ref 0), (1, .int (iI (p0))), (2, .ref 141)]) [] [(0, 9, 15, 15)] (0, 9, 12, 21) rfl (fun z hz => absurd hz List.not_mem_nil) ⟨by decide, by decide⟩ (by decide) w_896 w_712 rfl dL_withdraw_12 rfl (by decide) rfl rfl ?_
    refine k_iconst (v := 1) dL_withdraw_13 rfl ?_
    exact k_reti dL_withdraw_14 rfl rfl (by decide)
  · refine k_callV (k1 := k1) (n1 := n1) (k := 0) (n := 0) (st := [.int (iI (0)), .ref 141]) (as := [.int (iI (p0))]) dL_withdraw_4 oX7_withdraw rfl w_1089 w_1090 w_1091 (Nat.le_refl _) rfl (Nat.le_of_ble_eq_true rfl) (by decide) (s_0 hsh) rfl hC (Or.inl (k_okl_of (k_Main_len hsh) rfl rfl)) (fun Xn s2 σ2 h => ?_) (fun v s2 σ2 h => by cases h.1)
    obtain ⟨h1, rfl, rfl⟩ := h
    cases h1
    refine k_catch (i := 3) (j := 3) (name := x_is) (hpc := 15) (ls' := [(0, .ref 0), (1, .int (iI (p0))), (2, .ref 141)]) [(0, 9, 12, 21)] [] (0, 9, 15, 15) rfl (k_xpass (l := [(21, x_io)]) rfl (fun q hq => by
      simp only [List.mem_cons, List.not_mem_nil, or_false] at hq
      rcases hq with rfl
      · exact ⟨by decide, w_896, by decide +kernel, by decide +kernel, by decide +kernel⟩
      )) ⟨by decide, by decide⟩ (by decide) w_607 w_800 rfl dL_withdraw_15 rfl (by decide) rfl rfl ?_
    refine k_iconst (v := 2) dL_withdraw_16 rfl ?_
    exact k_reti dL_withdraw_17 rfl rfl (by decide)
set_option maxHeartbeats 4000000 in
theorem cw_bestValue (hsh : k_Main sh) (hsh' : k_Main sh') {p0 : Int} (hC : k_C E mX7_bestValue D [.ref 0, .int (iI (p0))] sh σ k1 n1 (k_rx r sh' τ)) (hr : (∃ x : Int32, r = .inl (some (.int x))) ∨ r = .inr x_io) : k_C E mL_bestValue (D + 1) [.ref 0, .int (iI (p0)), .ref 141] sh σ k1 n1 (k_ret (some (.int (iI (w_code [x_io] r)))) sh' (w_out r τ)) := by
  refine k_C_ofW (ls0 := [(0, .ref 0), (1, .int (iI (p0))), (2, .ref 141)]) (a0 := (0, 9, 12, 21)) (t0 := []) rfl pnL (fun v hv => k_cat1 rfl hv) (Nat.le_of_ble_eq_true rfl) rfl ?_
  refine k_aload_n dL_bestValue_0 2 rfl rfl (by decide) ?_
  refine k_iconst (v := 0) dL_bestValue_1 rfl ?_
  refine k_aload_n dL_bestValue_2 0 rfl rfl (by decide) ?_
  refine k_iload_n dL_bestValue_3 1 rfl rfl ?_
  rcases hr with ⟨x, rfl⟩ | rfl
  · refine k_callV (k1 := k1) (n1 := n1) (k := 0) (n := 0) (st := [.int (iI (0)), .ref 141]) (as := [.int (iI (p0))]) dL_bestValue_4 oX7_bestValue rfl w_1106 w_1107 w_1108 (Nat.le_refl _) rfl (Nat.le_of_ble_eq_true rfl) (by decide) (s_0 hsh) rfl hC (Or.inl (k_okl_of (k_Main_len hsh) rfl rfl)) (fun Xn s2 σ2 h => by cases h.1) (fun v s2 σ2 h => ?_)
    obtain ⟨h1, rfl, rfl⟩ := h
    cases h1
    refine k_eqst (st' := [.int (iI x.toInt), .int (iI 0), .ref 141]) (by rw [← iI_of]; rfl) ?_
    refine k_i2l dL_bestValue_7 (k_toR x) ?_
    refine k_last dL_bestValue_8 (by decide) (s_141 hsh') (by decide) (by decide) (by decide) ?_
    refine k_goto (tgt := 15) dL_bestValue_9 rfl ?_
    refine k_iconst (v := 0) dL_bestValue_15 rfl ?_
    exact k_reti dL_bestValue_16 rfl rfl rfl
  · refine k_callV (k1 := k1) (n1 := n1) (k := 0) (n := 0) (st := [.int (iI (0)), .ref 141]) (as := [.int (iI (p0))]) dL_bestValue_4 oX7_bestValue rfl w_1106 w_1107 w_1108 (Nat.le_refl _) rfl (Nat.le_of_ble_eq_true rfl) (by decide) (s_0 hsh) rfl hC (Or.inl (k_okl_of (k_Main_len hsh) rfl rfl)) (fun Xn s2 σ2 h => ?_) (fun v s2 σ2 h => by cases h.1)
    obtain ⟨h1, rfl, rfl⟩ := h
    cases h1
    refine k_catch (i := 3) (j := 3) (name := x_io) (hpc := 12) (ls' := [(0, .ref 0), (1, .int (iI (p0))), (2, .ref 141)]) [] [] (0, 9, 12, 21) rfl (fun z hz => absurd hz List.not_mem_nil) ⟨by decide, by decide⟩ (by decide) w_896 w_712 rfl dL_bestValue_12 rfl (by decide) rfl rfl ?_
    refine k_iconst (v := 1) dL_bestValue_13 rfl ?_
    exact k_reti dL_bestValue_14 rfl rfl (by decide)
set_option maxHeartbeats 4000000 in
theorem cw_bestValueBySets (hsh : k_Main sh) (hsh' : k_Main sh') {p0 : Int} (hC : k_C E mX7_bestValueBySets D [.ref 0, .int (iI (p0))] sh σ k1 n1 (k_rx r sh' τ)) (hr : (∃ x : Int32, r = .inl (some (.int x))) ∨ r = .inr x_io) : k_C E mL_bestValueBySets (D + 1) [.ref 0, .int (iI (p0)), .ref 141] sh σ k1 n1 (k_ret (some (.int (iI (w_code [x_io] r)))) sh' (w_out r τ)) := by
  refine k_C_ofW (ls0 := [(0, .ref 0), (1, .int (iI (p0))), (2, .ref 141)]) (a0 := (0, 9, 12, 21)) (t0 := []) rfl pnL (fun v hv => k_cat1 rfl hv) (Nat.le_of_ble_eq_true rfl) rfl ?_
  refine k_aload_n dL_bestValueBySets_0 2 rfl rfl (by decide) ?_
  refine k_iconst (v := 0) dL_bestValueBySets_1 rfl ?_
  refine k_aload_n dL_bestValueBySets_2 0 rfl rfl (by decide) ?_
  refine k_iload_n dL_bestValueBySets_3 1 rfl rfl ?_
  rcases hr with ⟨x, rfl⟩ | rfl
  · refine k_callV (k1 := k1) (n1 := n1) (k := 0) (n := 0) (st := [.int (iI (0)), .ref 141]) (as := [.int (iI (p0))]) dL_bestValueBySets_4 oX7_bestValueBySets rfl w_1117 w_1118 w_1119 (Nat.le_refl _) rfl (Nat.le_of_ble_eq_true rfl) (by decide) (s_0 hsh) rfl hC (Or.inl (k_okl_of (k_Main_len hsh) rfl rfl)) (fun Xn s2 σ2 h => by cases h.1) (fun v s2 σ2 h => ?_)
    obtain ⟨h1, rfl, rfl⟩ := h
    cases h1
    refine k_eqst (st' := [.int (iI x.toInt), .int (iI 0), .ref 141]) (by rw [← iI_of]; rfl) ?_
    refine k_i2l dL_bestValueBySets_7 (k_toR x) ?_
    refine k_last dL_bestValueBySets_8 (by decide) (s_141 hsh') (by decide) (by decide) (by decide) ?_
    refine k_goto (tgt := 15) dL_bestValueBySets_9 rfl ?_
    refine k_iconst (v := 0) dL_bestValueBySets_15 rfl ?_
    exact k_reti dL_bestValueBySets_16 rfl rfl rfl
  · refine k_callV (k1 := k1) (n1 := n1) (k := 0) (n := 0) (st := [.int (iI (0)), .ref 141]) (as := [.int (iI (p0))]) dL_bestValueBySets_4 oX7_bestValueBySets rfl w_1117 w_1118 w_1119 (Nat.le_refl _) rfl (Nat.le_of_ble_eq_true rfl) (by decide) (s_0 hsh) rfl hC (Or.inl (k_okl_of (k_Main_len hsh) rfl rfl)) (fun Xn s2 σ2 h => ?_) (fun v s2 σ2 h => by cases h.1)
    obtain ⟨h1, rfl, rfl⟩ := h
    cases h1
    refine k_catch (i := 3) (j := 3) (name := x_io) (hpc := 12) (ls' := [(0, .ref 0), (1, .int (iI (p0))), (2, .ref 141)]) [] [] (0, 9, 12, 21) rfl (fun z hz => absurd hz List.not_mem_nil) ⟨by decide, by decide⟩ (by decide) w_896 w_712 rfl dL_bestValueBySets_12 rfl (by decide) rfl rfl ?_
    refine k_iconst (v := 1) dL_bestValueBySets_13 rfl ?_
    exact k_reti dL_bestValueBySets_14 rfl rfl (by decide)
set_option maxHeartbeats 4000000 in
theorem cw_canServe (hsh : k_Main sh) (hsh' : k_Main sh') {p0 : Int} (hC : k_C E mX7_canServe D [.ref 0, .int (iI (p0))] sh σ k1 n1 (k_rx r sh' τ)) (hr : (∃ x : Int32, r = .inl (some (.int x))) ∨ r = .inr x_io) : k_C E mL_canServe (D + 1) [.ref 0, .int (iI (p0)), .ref 141] sh σ k1 n1 (k_ret (some (.int (iI (w_code [x_io] r)))) sh' (w_outB r τ)) := by
  refine k_C_ofW (ls0 := [(0, .ref 0), (1, .int (iI (p0))), (2, .ref 141)]) (a0 := (0, 16, 19, 21)) (t0 := []) rfl pnL (fun v hv => k_cat1 rfl hv) (Nat.le_of_ble_eq_true rfl) rfl ?_
  refine k_aload_n dL_canServe_0 2 rfl rfl (by decide) ?_
  refine k_iconst (v := 0) dL_canServe_1 rfl ?_
  refine k_aload_n dL_canServe_2 0 rfl rfl (by decide) ?_
  refine k_iload_n dL_canServe_3 1 rfl rfl ?_
  rcases hr with ⟨x, rfl⟩ | rfl
  · refine k_callV (k1 := k1) (n1 := n1) (k := 0) (n := 0) (st := [.int (iI (0)), .ref 141]) (as := [.int (iI (p0))]) dL_canServe_4 oX7_canServe rfl w_1135 w_1136 w_1137 (Nat.le_refl _) rfl (Nat.le_of_ble_eq_true rfl) (by decide) (s_0 hsh) rfl hC (Or.inl (k_okl_of (k_Main_len hsh) rfl rfl)) (fun Xn s2 σ2 h => by cases h.1) (fun v s2 σ2 h => ?_)
    obtain ⟨h1, rfl, rfl⟩ := h
    cases h1
    refine k_eqst (st' := [.int (iI x.toInt), .int (iI 0), .ref 141]) (by rw [← iI_of]; rfl) ?_
    refine k_if_eq (tgt := 14) dL_canServe_7 rfl (k_toR x) (fun h => ?_) (fun h => ?_)
    · refine k_lconst (v := 0) dL_canServe_14 rfl ?_
      refine k_last dL_canServe_15 (by decide) (s_141 hsh') (by decide) (by decide) (by decide) ?_
      refine k_eqσ (σ' := w_outB (.inl (some (.int x))) σ2) (by show k_up σ2 141 (k_u1 (σ2 141) 0 (if x.toInt = 0 then 0 else 1)) = _; rw [if_pos h]; rfl) ?_
      refine k_goto (tgt := 22) dL_canServe_16 rfl ?_
      refine k_iconst (v := 0) dL_canServe_22 rfl ?_
      exact k_reti dL_canServe_23 rfl rfl rfl
    · refine k_lconst (v := 1) dL_canServe_10 rfl ?_
      refine k_goto (tgt := 15) dL_canServe_11 rfl ?_
      refine k_last dL_canServe_15 (by decide) (s_141 hsh') (by decide) (by decide) (by decide) ?_
      refine k_eqσ (σ' := w_outB (.inl (some (.int x))) σ2) (by show k_up σ2 141 (k_u1 (σ2 141) 0 (if x.toInt = 0 then 0 else 1)) = _; rw [if_neg h]; rfl) ?_
      refine k_goto (tgt := 22) dL_canServe_16 rfl ?_
      refine k_iconst (v := 0) dL_canServe_22 rfl ?_
      exact k_reti dL_canServe_23 rfl rfl rfl
  · refine k_callV (k1 := k1) (n1 := n1) (k := 0) (n := 0) (st := [.int (iI (0)), .ref 141]) (as := [.int (iI (p0))]) dL_canServe_4 oX7_canServe rfl w_1135 w_1136 w_1137 (Nat.le_refl _) rfl (Nat.le_of_ble_eq_true rfl) (by decide) (s_0 hsh) rfl hC (Or.inl (k_okl_of (k_Main_len hsh) rfl rfl)) (fun Xn s2 σ2 h => ?_) (fun v s2 σ2 h => by cases h.1)
    obtain ⟨h1, rfl, rfl⟩ := h
    cases h1
    refine k_catch (i := 3) (j := 3) (name := x_io) (hpc := 19) (ls' := [(0, .ref 0), (1, .int (iI (p0))), (2, .ref 141)]) [] [] (0, 16, 19, 21) rfl (fun z hz => absurd hz List.not_mem_nil) ⟨by decide, by decide⟩ (by decide) w_896 w_712 rfl dL_canServe_19 rfl (by decide) rfl rfl ?_
    refine k_iconst (v := 1) dL_canServe_20 rfl ?_
    exact k_reti dL_canServe_21 rfl rfl (by decide)
set_option maxHeartbeats 4000000 in
theorem cw_canServeByCounting (hsh : k_Main sh) (hsh' : k_Main sh') {p0 : Int} (hC : k_C E mX7_canServeByCounting D [.ref 0, .int (iI (p0))] sh σ k1 n1 (k_rx r sh' τ)) (hr : (∃ x : Int32, r = .inl (some (.int x))) ∨ r = .inr x_io) : k_C E mL_canServeByCounting (D + 1) [.ref 0, .int (iI (p0)), .ref 141] sh σ k1 n1 (k_ret (some (.int (iI (w_code [x_io] r)))) sh' (w_outB r τ)) := by
  refine k_C_ofW (ls0 := [(0, .ref 0), (1, .int (iI (p0))), (2, .ref 141)]) (a0 := (0, 16, 19, 21)) (t0 := []) rfl pnL (fun v hv => k_cat1 rfl hv) (Nat.le_of_ble_eq_true rfl) rfl ?_
  refine k_aload_n dL_canServeByCounting_0 2 rfl rfl (by decide) ?_
  refine k_iconst (v := 0) dL_canServeByCounting_1 rfl ?_
  refine k_aload_n dL_canServeByCounting_2 0 rfl rfl (by decide) ?_
  refine k_iload_n dL_canServeByCounting_3 1 rfl rfl ?_
  rcases hr with ⟨x, rfl⟩ | rfl
  · refine k_callV (k1 := k1) (n1 := n1) (k := 0) (n := 0) (st := [.int (iI (0)), .ref 141]) (as := [.int (iI (p0))]) dL_canServeByCounting_4 oX7_canServeByCounting rfl w_1154 w_1155 w_1156 (Nat.le_refl _) rfl (Nat.le_of_ble_eq_true rfl) (by decide) (s_0 hsh) rfl hC (Or.inl (k_okl_of (k_Main_len hsh) rfl rfl)) (fun Xn s2 σ2 h => by cases h.1) (fun v s2 σ2 h => ?_)
    obtain ⟨h1, rfl, rfl⟩ := h
    cases h1
    refine k_eqst (st' := [.int (iI x.toInt), .int (iI 0), .ref 141]) (by rw [← iI_of]; rfl) ?_
    refine k_if_eq (tgt := 14) dL_canServeByCounting_7 rfl (k_toR x) (fun h => ?_) (fun h => ?_)
    · refine k_lconst (v := 0) dL_canServeByCounting_14 rfl ?_
      refine k_last dL_canServeByCounting_15 (by decide) (s_141 hsh') (by decide) (by decide) (by decide) ?_
      refine k_eqσ (σ' := w_outB (.inl (some (.int x))) σ2) (by show k_up σ2 141 (k_u1 (σ2 141) 0 (if x.toInt = 0 then 0 else 1)) = _; rw [if_pos h]; rfl) ?_
      refine k_goto (tgt := 22) dL_canServeByCounting_16 rfl ?_
      refine k_iconst (v := 0) dL_canServeByCounting_22 rfl ?_
      exact k_reti dL_canServeByCounting_23 rfl rfl rfl
    · refine k_lconst (v := 1) dL_canServeByCounting_10 rfl ?_
      refine k_goto (tgt := 15) dL_canServeByCounting_11 rfl ?_
      refine k_last dL_canServeByCounting_15 (by decide) (s_141 hsh') (by decide) (by decide) (by decide) ?_
      refine k_eqσ (σ' := w_outB (.inl (some (.int x))) σ2) (by show k_up σ2 141 (k_u1 (σ2 141) 0 (if x.toInt = 0 then 0 else 1)) = _; rw [if_neg h]; rfl) ?_
      refine k_goto (tgt := 22) dL_canServeByCounting_16 rfl ?_
      refine k_iconst (v := 0) dL_canServeByCounting_22 rfl ?_
      exact k_reti dL_canServeByCounting_23 rfl rfl rfl
  · refine k_callV (k1 := k1) (n1 := n1) (k := 0) (n := 0) (st := [.int (iI (0)), .ref 141]) (as := [.int (iI (p0))]) dL_canServeByCounting_4 oX7_canServeByCounting rfl w_1154 w_1155 w_1156 (Nat.le_refl _) rfl (Nat.le_of_ble_eq_true rfl) (by decide) (s_0 hsh) rfl hC (Or.inl (k_okl_of (k_Main_len hsh) rfl rfl)) (fun Xn s2 σ2 h => ?_) (fun v s2 σ2 h => by cases h.1)
    obtain ⟨h1, rfl, rfl⟩ := h
    cases h1
    refine k_catch (i := 3) (j := 3) (name := x_io) (hpc := 19) (ls' := [(0, .ref 0), (1, .int (iI (p0))), (2, .ref 141)]) [] [] (0, 16, 19, 21) rfl (fun z hz => absurd hz List.not_mem_nil) ⟨by decide, by decide⟩ (by decide) w_896 w_712 rfl dL_canServeByCounting_19 rfl (by decide) rfl rfl ?_
    refine k_iconst (v := 1) dL_canServeByCounting_20 rfl ?_
    exact k_reti dL_canServeByCounting_21 rfl rfl (by decide)
set_option maxHeartbeats 4000000 in
theorem cw_meanClassSize (hsh : k_Main sh) (hsh' : k_Main sh') (hC : k_C E mX7_meanClassSize D [.ref 0] sh σ k1 n1 (k_rx r sh' τ)) (hr : (∃ x : UInt64, r = .inl (some (.double x))) ∨ r = .inr x_ar) : k_C E mL_meanClassSize (D + 1) [.ref 0, .ref 142] sh σ k1 n1 (k_ret (some (.int (iI (w_code [x_ar] r)))) sh' (w_outD r τ)) := by
  refine k_C_ofW (ls0 := [(0, .ref 0), (1, .ref 142)]) (a0 := (0, 7, 10, 96)) (t0 := []) rfl pnL (fun v hv => k_cat1 rfl hv) (Nat.le_of_ble_eq_true rfl) rfl ?_
  refine k_aload_n dL_meanClassSize_0 1 rfl rfl (by decide) ?_
  refine k_iconst (v := 0) dL_meanClassSize_1 rfl ?_
  refine k_aload_n dL_meanClassSize_2 0 rfl rfl (by decide) ?_
  rcases hr with ⟨x, rfl⟩ | rfl
  · refine k_callV (k1 := k1) (n1 := n1) (k := 0) (n := 0) (st := [.int (iI (0)), .ref 142]) (as := []) dL_meanClassSize_3 oX7_meanClassSize rfl w_1181 w_1182 w_1183 (Nat.le_refl _) rfl (Nat.le_of_ble_eq_true rfl) (by decide) (s_0 hsh) rfl hC (Or.inl (k_okl_of (k_Main_len hsh) rfl rfl)) (fun Xn s2 σ2 h => by cases h.1) (fun v s2 σ2 h => ?_)
    obtain ⟨h1, rfl, rfl⟩ := h
    cases h1
    refine k_dast (z := (x.toNat : Int)) dL_meanClassSize_6 (by decide) (s_142 hsh') (by decide) (by decide) (by decide) (k_u64 x) ?_
    refine k_goto (tgt := 13) dL_meanClassSize_7 rfl ?_
    refine k_iconst (v := 0) dL_meanClassSize_13 rfl ?_
    exact k_reti dL_meanClassSize_14 rfl rfl rfl
  · refine k_callV (k1 := k1) (n1 := n1) (k := 0) (n := 0) (st := [.int (iI (0)), .ref 142]) (as := []) dL_meanClassSize_3 oX7_meanClassSize rfl w_1181 w_1182 w_1183 (Nat.le_refl _) rfl (Nat.le_of_ble_eq_true rfl) (by decide) (s_0 hsh) rfl hC (Or.inl (k_okl_of (k_Main_len hsh) rfl rfl)) (fun Xn s2 σ2 h => ?_) (fun v s2 σ2 h => by cases h.1)
    obtain ⟨h1, rfl, rfl⟩ := h
    cases h1
    refine k_catch (i := 2) (j := 2) (name := x_ar) (hpc := 10) (ls' := [(0, .ref 0), (1, .ref 142)]) [] [] (0, 7, 10, 96) rfl (fun z hz => absurd hz List.not_mem_nil) ⟨by decide, by decide⟩ (by decide) w_1167 w_1179 rfl dL_meanClassSize_10 rfl (by decide) rfl rfl ?_
    refine k_iconst (v := 1) dL_meanClassSize_11 rfl ?_
    exact k_reti dL_meanClassSize_12 rfl rfl (by decide)
set_option maxHeartbeats 4000000 in
theorem cw_movesFor (hsh : k_Main sh) (hsh' : k_Main sh') {p0 p1 : Int} (hC : k_C E mX7_movesFor D [.ref 0, .int (iI (p0)), .int (iI (p1))] sh σ k1 n1 (k_rx r sh' τ)) (hr : (∃ x : Int32, r = .inl (some (.int x))) ∨ r = .inr x_io ∨ r = .inr x_is ∨ r = .inr x_ns) : k_C E mL_movesFor (D + 1) [.ref 0, .int (iI (p0)), .int (iI (p1)), .ref 141] sh σ k1 n1 (k_ret (some (.int (iI (w_code [x_io, x_is, x_ns] r)))) sh' (w_out r τ)) := by
  refine k_C_ofW (ls0 := [(0, .ref 0), (1, .int (iI (p0))), (2, .int (iI (p1))), (3, .ref 141)]) (a0 := (0, 10, 13, 21)) (t0 := [(0, 10, 17, 15), (0, 10, 21, 46)]) rfl pnL (fun v hv => k_cat1 rfl hv) (Nat.le_of_ble_eq_true rfl) rfl ?_
  refine k_aload_n dL_movesFor_0 3 rfl rfl (by decide) ?_
  refine k_iconst (v := 0) dL_movesFor_1 rfl ?_
  refine k_aload_n dL_movesFor_2 0 rfl rfl (by decide) ?_
  refine k_iload_n dL_movesFor_3 1 rfl rfl ?_
  refine k_iload_n dL_movesFor_4 2 rfl rfl ?_
  rcases hr with ⟨x, rfl⟩ | rfl | rfl | rfl
  · refine k_callV (k1 := k1) (n1 := n1) (k := 0) (n := 0) (st := [.int (iI (0)), .ref 141]) (as := [.int (iI (p0)), .int (iI (p1))]) dL_movesFor_5 oX7_movesFor rfl w_1196 w_1197 w_1198 (Nat.le_refl _) rfl (Nat.le_of_ble_eq_true rfl) (by decide) (s_0 hsh) rfl hC (Or.inl (k_okl_of (k_Main_len hsh) rfl rfl)) (fun Xn s2 σ2 h => by cases h.1) (fun v s2 σ2 h => ?_)
    obtain ⟨h1, rfl, rfl⟩ := h
    cases h1
    refine k_eqst (st' := [.int (iI x.toInt), .int (iI 0), .ref 141]) (by rw [← iI_of]; rfl) ?_
    refine k_i2l dL_movesFor_8 (k_toR x) ?_
    refine k_last dL_movesFor_9 (by decide) (s_141 hsh') (by decide) (by decide) (by decide) ?_
    refine k_goto (tgt := 25) dL_movesFor_10 rfl ?_
    refine k_iconst (v := 0) dL_movesFor_25 rfl ?_
    exact k_reti dL_movesFor_26 rfl rfl rfl
  · refine k_callV (k1 := k1) (n1 := n1) (k := 0) (n := 0) (st := [.int (iI (0)), .ref 141]) (as := [.int (iI (p0)), .int (iI (p1))]) dL_movesFor_5 oX7_movesFor rfl w_1196 w_1197 w_1198 (Nat.le_refl _) rfl (Nat.le_of_ble_eq_true rfl) (by decide) (s_0 hsh) rfl hC (Or.inl (k_okl_of (k_Main_len hsh) rfl rfl)) (fun Xn s2 σ2 h => ?_) (fun v s2 σ2 h => by cases h.1)
    obtain ⟨h1, rfl, rfl⟩ := h
    cases h1
    refine k_catchN (j := 4) (name := x_io) (hpc := 13) (ls' := [(0, .ref 0), (1, .int (iI (p0))), (2, .int (iI (p1))), (3, .ref 141)]) [] [(0, 10, 17, 15), (0, 10, 21, 46)] (0, 10, 13, 21) rfl (fun z hz => absurd hz List.not_mem_nil) ⟨by decide, by decide⟩ (by decide) w_896 w_712 rfl dL_movesFor_13 (by decide) rfl rfl ?_
    refine k_iconst (v := 1) dL_movesFor_15 rfl ?_
    exact k_reti dL_movesFor_16 rfl rfl (by decide)
  · refine k_callV (k1 := k1) (n1 := n1) (k := 0) (n := 0) (st := [.int (iI (0)), .ref 141]) (as := [.int (iI (p0)), .int (iI (p1))]) dL_movesFor_5 oX7_movesFor rfl w_1196 w_1197 w_1198 (Nat.le_refl _) rfl (Nat.le_of_ble_eq_true rfl) (by decide) (s_0 hsh) rfl hC (Or.inl (k_okl_of (k_Main_len hsh) rfl rfl)) (fun Xn s2 σ2 h => ?_) (fun v s2 σ2 h => by cases h.1)
    obtain ⟨h1, rfl, rfl⟩ := h
    cases h1
    refine k_catchN (j := 4) (name := x_is) (hpc := 17) (ls' := [(0, .ref 0), (1, .int (iI (p0))), (2, .int (iI (p1))), (3, .ref 141)]) [(0, 10, 13, 21)] [(0, 10, 21, 46)] (0, 10, 17, 15) rfl (k_xpass (l := [(21, x_io)]) rfl (fun q hq => by
      simp only [List.mem_cons, List.not_mem_nil, or_false] at hq
      rcases hq with rfl
      · exact ⟨by decide, w_896, by decide +kernel, by decide +kernel, by decide +kernel⟩
      )) ⟨by decide, by decide⟩ (by decide) w_607 w_800 rfl dL_movesFor_17 (by decide) rfl rfl ?_
    refine k_iconst (v := 2) dL_movesFor_19 rfl ?_
    exact k_reti dL_movesFor_20 rfl rfl (by decide)
  · refine k_callV (k1 := k1) (n1 := n1) (k := 0) (n := 0) (st := [.int (iI (0)), .ref 141]) (as := [.int (iI (p0)), .int (iI (p1))]) dL_movesFor_5 oX7_movesFor rfl w_1196 w_1197 w_1198 (Nat.le_refl _) rfl (Nat.le_of_ble_eq_true rfl) (by decide) (s_0 hsh) rfl hC (Or.inl (k_okl_of (k_Main_len hsh) rfl rfl)) (fun Xn s2 σ2 h => ?_) (fun v s2 σ2 h => by cases h.1)
    obtain ⟨h1, rfl, rfl⟩ := h
    cases h1
    refine k_catchN (j := 4) (name := x_ns) (hpc := 21) (ls' := [(0, .ref 0), (1, .int (iI (p0))), (2, .int (iI (p1))), (3, .ref 141)]) [(0, 10, 13, 21), (0, 10, 17, 15)] [] (0, 10, 21, 46) rfl (k_xpass (l := [(21, x_io), (15, x_is)]) rfl (fun q hq => by
      simp only [List.mem_cons, List.not_mem_nil, or_false] at hq
      rcases hq with rfl | rfl
      · exact ⟨by decide, w_896, by decide +kernel, by decide +kernel, by decide +kernel⟩
      · exact ⟨by decide, w_607, by decide +kernel, by decide +kernel, by decide +kernel⟩
      )) ⟨by decide, by decide⟩ (by decide) w_990 w_1000 rfl dL_movesFor_21 (by decide) rfl rfl ?_
    refine k_iconst (v := 3) dL_movesFor_23 rfl ?_
    exact k_reti dL_movesFor_24 rfl rfl (by decide)
set_option maxHeartbeats 4000000 in
theorem cw_movesByTrial (hsh : k_Main sh) (hsh' : k_Main sh') {p0 p1 : Int} (hC : k_C E mX7_movesByTrial D [.ref 0, .int (iI (p0)), .int (iI (p1))] sh σ k1 n1 (k_rx r sh' τ)) (hr : (∃ x : Int32, r = .inl (some (.int x))) ∨ r = .inr x_io ∨ r = .inr x_is ∨ r = .inr x_ns) : k_C E mL_movesByTrial (D + 1) [.ref 0, .int (iI (p0)), .int (iI (p1)), .ref 141] sh σ k1 n1 (k_ret (some (.int (iI (w_code [x_io, x_is, x_ns] r)))) sh' (w_out r τ)) := by
  refine k_C_ofW (ls0 := [(0, .ref 0), (1, .int (iI (p0))), (2, .int (iI (p1))), (3, .ref 141)]) (a0 := (0, 10, 13, 21)) (t0 := [(0, 10, 17, 15), (0, 10, 21, 46)]) rfl pnL (fun v hv => k_cat1 rfl hv) (Nat.le_of_ble_eq_true rfl) rfl ?_
  refine k_aload_n dL_movesByTrial_0 3 rfl rfl (by decide) ?_
  refine k_iconst (v := 0) dL_movesByTrial_1 rfl ?_
  refine k_aload_n dL_movesByTrial_2 0 rfl rfl (by decide) ?_
  refine k_iload_n dL_movesByTrial_3 1 rfl rfl ?_
  refine k_iload_n dL_movesByTrial_4 2 rfl rfl ?_
  rcases hr with ⟨x, rfl⟩ | rfl | rfl | rfl
  · refine k_callV (k1 := k1) (n1 := n1) (k := 0) (n := 0) (st := [.int (iI (0)), .ref 141]) (as := [.int (iI (p0)), .int (iI (p1))]) dL_movesByTrial_5 oX7_movesByTrial rfl w_1206 w_1207 w_1208 (Nat.le_refl _) rfl (Nat.le_of_ble_eq_true rfl) (by decide) (s_0 hsh) rfl hC (Or.inl (k_okl_of (k_Main_len hsh) rfl rfl)) (fun Xn s2 σ2 h => by cases h.1) (fun v s2 σ2 h => ?_)
    obtain ⟨h1, rfl, rfl⟩ := h
    cases h1
    refine k_eqst (st' := [.int (iI x.toInt), .int (iI 0), .ref 141]) (by rw [← iI_of]; rfl) ?_
    refine k_i2l dL_movesByTrial_8 (k_toR x) ?_
    refine k_last dL_movesByTrial_9 (by decide) (s_141 hsh') (by decide) (by decide) (by decide) ?_
    refine k_goto (tgt := 25) dL_movesByTrial_10 rfl ?_
    refine k_iconst (v := 0) dL_movesByTrial_25 rfl ?_
    exact k_reti dL_movesByTrial_26 rfl rfl rfl
  · refine k_callV (k1 := k1) (n1 := n1) (k := 0) (n := 0) (st := [.int (iI (0)), .ref 141]) (as := [.int (iI (p0)), .int (iI (p1))]) dL_movesByTrial_5 oX7_movesByTrial rfl w_1206 w_1207 w_1208 (Nat.le_refl _) rfl (Nat.le_of_ble_eq_true rfl) (by decide) (s_0 hsh) rfl hC (Or.inl (k_okl_of (k_Main_len hsh) rfl rfl)) (fun Xn s2 σ2 h => ?_) (fun v s2 σ2 h => by cases h.1)
    obtain ⟨h1, rfl, rfl⟩ := h
    cases h1
    refine k_catchN (j := 4) (name := x_io) (hpc := 13) (ls' := [(0, .ref 0), (1, .int (iI (p0))), (2, .int (iI (p1))), (3, .ref 141)]) [] [(0, 10, 17, 15), (0, 10, 21, 46)] (0, 10, 13, 21) rfl (fun z hz => absurd hz List.not_mem_nil) ⟨by decide, by decide⟩ (by decide) w_896 w_712 rfl dL_movesByTrial_13 (by decide) rfl rfl ?_
    refine k_iconst (v := 1) dL_movesByTrial_15 rfl ?_
    exact k_reti dL_movesByTrial_16 rfl rfl (by decide)
  · refine k_callV (k1 := k1) (n1 := n1) (k := 0) (n := 0) (st := [.int (iI (0)), .ref 141]) (as := [.int (iI (p0)), .int (iI (p1))]) dL_movesByTrial_5 oX7_movesByTrial rfl w_1206 w_1207 w_1208 (Nat.le_refl _) rfl (Nat.le_of_ble_eq_true rfl) (by decide) (s_0 hsh) rfl hC (Or.inl (k_okl_of (k_Main_len hsh) rfl rfl)) (fun Xn s2 σ2 h => ?_) (fun v s2 σ2 h => by cases h.1)
    obtain ⟨h1, rfl, rfl⟩ := h
    cases h1
    refine k_catchN (j := 4) (name := x_is) (hpc := 17) (ls' := [(0, .ref 0), (1, .int (iI (p0))), (2, .int (iI (p1))), (3, .ref 141)]) [(0, 10, 13, 21)] [(0, 10, 21, 46)] (0, 10, 17, 15) rfl (k_xpass (l := [(21, x_io)]) rfl (fun q hq => by
      simp only [List.mem_cons, List.not_mem_nil, or_false] at hq
      rcases hq with rfl
      · exact ⟨by decide, w_896, by decide +kernel, by decide +kernel, by decide +kernel⟩
      )) ⟨by decide, by decide⟩ (by decide) w_607 w_800 rfl dL_movesByTrial_17 (by decide) rfl rfl ?_
    refine k_iconst (v := 2) dL_movesByTrial_19 rfl ?_
    exact k_reti dL_movesByTrial_20 rfl rfl (by decide)
  · refine k_callV (k1 := k1) (n1 := n1) (k := 0) (n := 0) (st := [.int (iI (0)), .ref 141]) (as := [.int (iI (p0)), .int (iI (p1))]) dL_movesByTrial_5 oX7_movesByTrial rfl w_1206 w_1207 w_1208 (Nat.le_refl _) rfl (Nat.le_of_ble_eq_true rfl) (by decide) (s_0 hsh) rfl hC (Or.inl (k_okl_of (k_Main_len hsh) rfl rfl)) (fun Xn s2 σ2 h => ?_) (fun v s2 σ2 h => by cases h.1)
    obtain ⟨h1, rfl, rfl⟩ := h
    cases h1
    refine k_catchN (j := 4) (name := x_ns) (hpc := 21) (ls' := [(0, .ref 0), (1, .int (iI (p0))), (2, .int (iI (p1))), (3, .ref 141)]) [(0, 10, 13, 21), (0, 10, 17, 15)] [] (0, 10, 21, 46) rfl (k_xpass (l := [(21, x_io), (15, x_is)]) rfl (fun q hq => by
      simp only [List.mem_cons, List.not_mem_nil, or_false] at hq
      rcases hq with rfl | rfl
      · exact ⟨by decide, w_896, by decide +kernel, by decide +kernel, by decide +kernel⟩
      · exact ⟨by decide, w_607, by decide +kernel, by decide +kernel, by decide +kernel⟩
      )) ⟨by decide, by decide⟩ (by decide) w_990 w_1000 rfl dL_movesByTrial_21 (by decide) rfl rfl ?_
    refine k_iconst (v := 3) dL_movesByTrial_23 rfl ?_
    exact k_reti dL_movesByTrial_24 rfl rfl (by decide)
set_option maxHeartbeats 4000000 in
theorem cw_join (hsh : k_Main sh) (hsh' : k_Main sh') {p0 p1 : Int} (hC : k_C E mX7_join D [.ref 0, .int (iI (p0)), .int (iI (p1))] sh σ k1 n1 (k_rx r sh' τ)) (hr : (∃ x : Int32, r = .inl (some (.int x))) ∨ r = .inr x_io ∨ r = .inr x_is ∨ r = .inr x_uo) : k_C E mL_join (D + 1) [.ref 0, .int (iI (p0)), .int (iI (p1)), .ref 141] sh σ k1 n1 (k_ret (some (.int (iI (w_code [x_io, x_is, x_uo] r)))) sh' (w_out r τ)) := by
  refine k_C_ofW (ls0 := [(0, .ref 0), (1, .int (iI (p0))), (2, .int (iI (p1))), (3, .ref 141)]) (a0 := (0, 10, 13, 21)) (t0 := [(0, 10, 17, 15), (0, 10, 21, 107)]) rfl pnL (fun v hv => k_cat1 rfl hv) (Nat.le_of_ble_eq_true rfl) rfl ?_
  refine k_aload_n dL_join_0 3 rfl rfl (by decide) ?_
  refine k_iconst (v := 0) dL_join_1 rfl ?_
  refine k_aload_n dL_join_2 0 rfl rfl (by decide) ?_
  refine k_iload_n dL_join_3 1 rfl rfl ?_
  refine k_iload_n dL_join_4 2 rfl rfl ?_
  rcases hr with ⟨x, rfl⟩ | rfl | rfl | rfl
  · refine k_callV (k1 := k1) (n1 := n1) (k := 0) (n := 0) (st := [.int (iI (0)), .ref 141]) (as := [.int (iI (p0)), .int (iI (p1))]) dL_join_5 oX7_join rfl w_1221 w_1222 w_1223 (Nat.le_refl _) rfl (Nat.le_of_ble_eq_true rfl) (by decide) (s_0 hsh) rfl hC (Or.inl (k_okl_of (k_Main_len hsh) rfl rfl)) (fun Xn s2 σ2 h => by cases h.1) (fun v s2 σ2 h => ?_)
    obtain ⟨h1, rfl, rfl⟩ := h
    cases h1
    refine k_eqst (st' := [.int (iI x.toInt), .int (iI 0), .ref 141]) (by rw [← iI_of]; rfl) ?_
    refine k_i2l dL_join_8 (k_toR x) ?_
    refine k_last dL_join_9 (by decide) (s_141 hsh') (by decide) (by decide) (by decide) ?_
    refine k_goto (tgt := 25) dL_join_10 rfl ?_
    refine k_iconst (v := 0) dL_join_25 rfl ?_
    exact k_reti dL_join_26 rfl rfl rfl
  · refine k_callV (k1 := k1) (n1 := n1) (k := 0) (n := 0) (st := [.int (iI (0)), .ref 141]) (as := [.int (iI (p0)), .int (iI (p1))]) dL_join_5 oX7_join rfl w_1221 w_1222 w_1223 (Nat.le_refl _) rfl (Nat.le_of_ble_eq_true rfl) (by decide) (s_0 hsh) rfl hC (Or.inl (k_okl_of (k_Main_len hsh) rfl rfl)) (fun Xn s2 σ2 h => ?_) (fun v s2 σ2 h => by cases h.1)
    obtain ⟨h1, rfl, rfl⟩ := h
    cases h1
    refine k_catchN (j := 4) (name := x_io) (hpc := 13) (ls' := [(0, .ref 0), (1, .int (iI (p0))), (2, .int (iI (p1))), (3, .ref 141)]) [] [(0, 10, 17, 15), (0, 10, 21, 107)] (0, 10, 13, 21) rfl (fun z hz => absurd hz List.not_mem_nil) ⟨by decide, by decide⟩ (by decide) w_896 w_712 rfl dL_join_13 (by decide) rfl rfl ?_
    refine k_iconst (v := 1) dL_join_15 rfl ?_
    exact k_reti dL_join_16 rfl rfl (by decide)
  · refine k_callV (k1 := k1) (n1 := n1) (k := 0) (n := 0) (st := [.int (iI (0)), .ref 141]) (as := [.int (iI (p0)), .int (iI (p1))]) dL_join_5 oX7_join rfl w_1221 w_1222 w_1223 (Nat.le_refl _) rfl (Nat.le_of_ble_eq_true rfl) (by decide) (s_0 hsh) rfl hC (Or.inl (k_okl_of (k_Main_len hsh) rfl rfl)) (fun Xn s2 σ2 h => ?_) (fun v s2 σ2 h => by cases h.1)
    obtain ⟨h1, rfl, rfl⟩ := h
    cases h1
    refine k_catchN (j := 4) (name := x_is) (hpc := 17) (ls' := [(0, .ref 0), (1, .int (iI (p0))), (2, .int (iI (p1))), (3, .ref 141)]) [(0, 10, 13, 21)] [(0, 10, 21, 107)] (0, 10, 17, 15) rfl (k_xpass (l := [(21, x_io)]) rfl (fun q hq => by
      simp only [List.mem_cons, List.not_mem_nil, or_false] at hq
      rcases hq with rfl
      · exact ⟨by decide, w_896, by decide +kernel, by decide +kernel, by decide +kernel⟩
      )) ⟨by decide, by decide⟩ (by decide) w_607 w_800 rfl dL_join_17 (by decide) rfl rfl ?_
    refine k_iconst (v := 2) dL_join_19 rfl ?_
    exact k_reti dL_join_20 rfl rfl (by decide)
  · refine k_callV (k1 := k1) (n1 := n1) (k := 0) (n := 0) (st := [.int (iI (0)), .ref 141]) (as := [.int (iI (p0)), .int (iI (p1))]) dL_join_5 oX7_join rfl w_1221 w_1222 w_1223 (Nat.le_refl _) rfl (Nat.le_of_ble_eq_true rfl) (by decide) (s_0 hsh) rfl hC (Or.inl (k_okl_of (k_Main_len hsh) rfl rfl)) (fun Xn s2 σ2 h => ?_) (fun v s2 σ2 h => by cases h.1)
    obtain ⟨h1, rfl, rfl⟩ := h
    cases h1
    refine k_catchN (j := 4) (name := x_uo) (hpc := 21) (ls' := [(0, .ref 0), (1, .int (iI (p0))), (2, .int (iI (p1))), (3, .ref 141)]) [(0, 10, 13, 21), (0, 10, 17, 15)] [] (0, 10, 21, 107) rfl (k_xpass (l := [(21, x_io), (15, x_is)]) rfl (fun q hq => by
      simp only [List.mem_cons, List.not_mem_nil, or_false] at hq
      rcases hq with rfl | rfl
      · exact ⟨by decide, w_896, by decide +kernel, by decide +kernel, by decide +kernel⟩
      · exact ⟨by decide, w_607, by decide +kernel, by decide +kernel, by decide +kernel⟩
      )) ⟨by decide, by decide⟩ (by decide) w_1220 w_816 rfl dL_join_21 (by decide) rfl rfl ?_
    refine k_iconst (v := 3) dL_join_23 rfl ?_
    exact k_reti dL_join_24 rfl rfl (by decide)
set_option maxHeartbeats 4000000 in
theorem cw_quit (hsh : k_Main sh) (hsh' : k_Main sh') {p0 p1 : Int} (hC : k_C E mX7_quit D [.ref 0, .int (iI (p0)), .int (iI (p1))] sh σ k1 n1 (k_rx r sh' τ)) (hr : (∃ x : Int32, r = .inl (some (.int x))) ∨ r = .inr x_io ∨ r = .inr x_is) : k_C E mL_quit (D + 1) [.ref 0, .int (iI (p0)), .int (iI (p1)), .ref 141] sh σ k1 n1 (k_ret (some (.int (iI (w_code [x_io, x_is] r)))) sh' (w_out r τ)) := by
  refine k_C_ofW (ls0 := [(0, .ref 0), (1, .int (iI (p0))), (2, .int (iI (p1))), (3, .ref 141)]) (a0 := (0, 10, 13, 21)) (t0 := [(0, 10, 17, 15)]) rfl pnL (fun v hv => k_cat1 rfl hv) (Nat.le_of_ble_eq_true rfl) rfl ?_
  refine k_aload_n dL_quit_0 3 rfl rfl (by decide) ?_
  refine k_iconst (v := 0) dL_quit_1 rfl ?_
  refine k_aload_n dL_quit_2 0 rfl rfl (by decide) ?_
  refine k_iload_n dL_quit_3 1 rfl rfl ?_
  refine k_iload_n dL_quit_4 2 rfl rfl ?_
  rcases hr with ⟨x, rfl⟩ | rfl | rfl
  · refine k_callV (k1 := k1) (n1 := n1) (k := 0) (n := 0) (st := [.int (iI (0)), .ref 141]) (as := [.int (iI (p0)), .int (iI (p1))]) dL_quit_5 oX7_quit rfl w_1228 w_1229 w_1230 (Nat.le_refl _) rfl (Nat.le_of_ble_eq_true rfl) (by decide) (s_0 hsh) rfl hC (Or.inl (k_okl_of (k_Main_len hsh) rfl rfl)) (fun Xn s2 σ2 h => by cases h.1) (fun v s2 σ2 h => ?_)
    obtain ⟨h1, rfl, rfl⟩ := h
    cases h1
    refine k_eqst (st' := [.int (iI x.toInt), .int (iI 0), .ref 141]) (by rw [← iI_of]; rfl) ?_
    refine k_i2l dL_quit_8 (k_toR x) ?_
    refine k_last dL_quit_9 (by decide) (s_141 hsh') (by decide) (by decide) (by decide) ?_
    refine k_goto (tgt := 21) dL_quit_10 rfl ?_
    refine k_iconst (v := 0) dL_quit_21 rfl ?_
    exact k_reti dL_quit_22 rfl rfl rfl
  · refine k_callV (k1 := k1) (n1 := n1) (k := 0) (n := 0) (st := [.int (iI (0)), .ref 141]) (as := [.int (iI (p0)), .int (iI (p1))]) dL_quit_5 oX7_quit rfl w_1228 w_1229 w_1230 (Nat.le_refl _) rfl (Nat.le_of_ble_eq_true rfl) (by decide) (s_0 hsh) rfl hC (Or.inl (k_okl_of (k_Main_len hsh) rfl rfl)) (fun Xn s2 σ2 h => ?_) (fun v s2 σ2 h => by cases h.1)
    obtain ⟨h1, rfl, rfl⟩ := h
    cases h1
    refine k_catchN (j := 4) (name := x_io) (hpc := 13) (ls' := [(0, .ref 0), (1, .int (iI (p0))), (2, .int (iI (p1))), (3, .ref 141)]) [] [(0, 10, 17, 15)] (0, 10, 13, 21) rfl (fun z hz => absurd hz List.not_mem_nil) ⟨by decide, by decide⟩ (by decide) w_896 w_712 rfl dL_quit_13 (by decide) rfl rfl ?_
    refine k_iconst (v := 1) dL_quit_15 rfl ?_
    exact k_reti dL_quit_16 rfl rfl (by decide)
  · refine k_callV (k1 := k1) (n1 := n1) (k := 0) (n := 0) (st := [.int (iI (0)), .ref 141]) (as := [.int (iI (p0)), .int (iI (p1))]) dL_quit_5 oX7_quit rfl w_1228 w_1229 w_1230 (Nat.le_refl _) rfl (Nat.le_of_ble_eq_true rfl) (by decide) (s_0 hsh) rfl hC (Or.inl (k_okl_of (k_Main_len hsh) rfl rfl)) (fun Xn s2 σ2 h => ?_) (fun v s2 σ2 h => by cases h.1)
    obtain ⟨h1, rfl, rfl⟩ := h
    cases h1
    refine k_catchN (j := 4) (name := x_is) (hpc := 17) (ls' := [(0, .ref 0), (1, .int (iI (p0))), (2, .int (iI (p1))), (3, .ref 141)]) [(0, 10, 13, 21)] [] (0, 10, 17, 15) rfl (k_xpass (l := [(21, x_io)]) rfl (fun q hq => by
      simp only [List.mem_cons, List.not_mem_nil, or_false] at hq
      rcases hq with rfl
      · exact ⟨by decide, w_896, by decide +kernel, by decide +kernel, by decide +kernel⟩
      )) ⟨by decide, by decide⟩ (by decide) w_607 w_800 rfl dL_quit_17 (by decide) rfl rfl ?_
    refine k_iconst (v := 2) dL_quit_19 rfl ?_
    exact k_reti dL_quit_20 rfl rfl (by decide)
set_option maxHeartbeats 4000000 in
theorem cw_change (hsh : k_Main sh) (hsh' : k_Main sh') {p0 p1 p2 : Int} (hC : k_C E mX7_change D [.ref 0, .int (iI (p0)), .int (iI (p1)), .int (iI (p2))] sh σ k1 n1 (k_rx r sh' τ)) (hr : (∃ x : Int32, r = .inl (some (.int x))) ∨ r = .inr x_io ∨ r = .inr x_is ∨ r = .inr x_uo) : k_C E mL_change (D + 1) [.ref 0, .int (iI (p0)), .int (iI (p1)), .int (iI (p2)), .ref 141] sh σ k1 n1 (k_ret (some (.int (iI (w_code [x_io, x_is, x_uo] r)))) sh' (w_out r τ)) := by
  refine k_C_ofW (ls0 := [(0, .ref 0), (1, .int (iI (p0))), (2, .int (iI (p1))), (3, .int (iI (p2))), (4, .ref 141)]) (a0 := (0, 12, 15, 21)) (t0 := [(0, 12, 19, 15), (0, 12, 23, 107)]) rfl pnL (fun v hv => k_cat1 rfl hv) (Nat.le_of_ble_eq_true rfl) rfl ?_
  refine k_aload dL_change_0 4 rfl (by decide) ?_
  refine k_iconst (v := 0) dL_change_2 rfl ?_
  refine k_aload_n dL_change_3 0 rfl rfl (by decide) ?_
  refine k_iload_n dL_change_4 1 rfl rfl ?_
  refine k_iload_n dL_change_5 2 rfl rfl ?_
  refine k_iload_n dL_change_6 3 rfl rfl ?_
  rcases hr with ⟨x, rfl⟩ | rfl | rfl | rfl
  · refine k_callV (k1 := k1) (n1 := n1) (k := 0) (n := 0) (st := [.int (iI (0)), .ref 141]) (as := [.int (iI (p0)), .int (iI (p1)), .int (iI (p2))]) dL_change_7 oX7_change rfl w_1235 w_1236 w_1237 (Nat.le_refl _) rfl (Nat.le_of_ble_eq_true rfl) (by decide) (s_0 hsh) rfl hC (Or.inl (k_okl_of (k_Main_len hsh) rfl rfl)) (fun Xn s2 σ2 h => by cases h.1) (fun v s2 σ2 h => ?_)
    obtain ⟨h1, rfl, rfl⟩ := h
    cases h1
    refine k_eqst (st' := [.int (iI x.toInt), .int (iI 0), .ref 141]) (by rw [← iI_of]; rfl) ?_
    refine k_i2l dL_change_10 (k_toR x) ?_
    refine k_last dL_change_11 (by decide) (s_141 hsh') (by decide) (by decide) (by decide) ?_
    refine k_goto (tgt := 27) dL_change_12 rfl ?_
    refine k_iconst (v := 0) dL_change_27 rfl ?_
    exact k_reti dL_change_28 rfl rfl rfl
  · refine k_callV (k1 := k1) (n1 := n1) (k := 0) (n := 0) (st := [.int (iI (0)), .ref 141]) (as := [.int (iI (p0)), .int (iI (p1)), .int (iI (p2))]) dL_change_7 oX7_change rfl w_1235 w_1236 w_1237 (Nat.le_refl _) rfl (Nat.le_of_ble_eq_true rfl) (by decide) (s_0 hsh) rfl hC (Or.inl (k_okl_of (k_Main_len hsh) rfl rfl)) (fun Xn s2 σ2 h => ?_) (fun v s2 σ2 h => by cases h.1)
    obtain ⟨h1, rfl, rfl⟩ := h
    cases h1
    refine k_catchN (j := 5) (name := x_io) (hpc := 15) (ls' := [(0, .ref 0), (1, .int (iI (p0))), (2, .int (iI (p1))), (3, .int (iI (p2))), (4, .ref 141)]) [] [(0, 12, 19, 15), (0, 12, 23, 107)] (0, 12, 15, 21) rfl (fun z hz => absurd hz List.not_mem_nil) ⟨by decide, by decide⟩ (by decide) w_896 w_712 rfl dL_change_15 (by decide) rfl rfl ?_
    refine k_iconst (v := 1) dL_change_17 rfl ?_
    exact k_reti dL_change_18 rfl rfl (by decide)
  · refine k_callV (k1 := k1) (n1 := n1) (k := 0) (n := 0) (st := [.int (iI (0)), .ref 141]) (as := [.int (iI (p0)), .int (iI (p1)), .int (iI (p2))]) dL_change_7 oX7_change rfl w_1235 w_1236 w_1237 (Nat.le_refl _) rfl (Nat.le_of_ble_eq_true rfl) (by decide) (s_0 hsh) rfl hC (Or.inl (k_okl_of (k_Main_len hsh) rfl rfl)) (fun Xn s2 σ2 h => ?_) (fun v s2 σ2 h => by cases h.1)
    obtain ⟨h1, rfl, rfl⟩ := h
    cases h1
    refine k_catchN (j := 5) (name := x_is) (hpc := 19) (ls' := [(0, .ref 0), (1, .int (iI (p0))), (2, .int (iI (p1))), (3, .int (iI (p2))), (4, .ref 141)]) [(0, 12, 15, 21)] [(0, 12, 23, 107)] (0, 12, 19, 15) rfl (k_xpass (l := [(21, x_io)]) rfl (fun q hq => by
      simp only [List.mem_cons, List.not_mem_nil, or_false] at hq
      rcases hq with rfl
      · exact ⟨by decide, w_896, by decide +kernel, by decide +kernel, by decide +kernel⟩
      )) ⟨by decide, by decide⟩ (by decide) w_607 w_800 rfl dL_change_19 (by decide) rfl rfl ?_
    refine k_iconst (v := 2) dL_change_21 rfl ?_
    exact k_reti dL_change_22 rfl rfl (by decide)
  · refine k_callV (k1 := k1) (n1 := n1) (k := 0) (n := 0) (st := [.int (iI (0)), .ref 141]) (as := [.int (iI (p0)), .int (iI (p1)), .int (iI (p2))]) dL_change_7 oX7_change rfl w_1235 w_1236 w_1237 (Nat.le_refl _) rfl (Nat.le_of_ble_eq_true rfl) (by decide) (s_0 hsh) rfl hC (Or.inl (k_okl_of (k_Main_len hsh) rfl rfl)) (fun Xn s2 σ2 h => ?_) (fun v s2 σ2 h => by cases h.1)
    obtain ⟨h1, rfl, rfl⟩ := h
    cases h1
    refine k_catchN (j := 5) (name := x_uo) (hpc := 23) (ls' := [(0, .ref 0), (1, .int (iI (p0))), (2, .int (iI (p1))), (3, .int (iI (p2))), (4, .ref 141)]) [(0, 12, 15, 21), (0, 12, 19, 15)] [] (0, 12, 23, 107) rfl (k_xpass (l := [(21, x_io), (15, x_is)]) rfl (fun q hq => by
      simp only [List.mem_cons, List.not_mem_nil, or_false] at hq
      rcases hq with rfl | rfl
      · exact ⟨by decide, w_896, by decide +kernel, by decide +kernel, by decide +kernel⟩
      · exact ⟨by decide, w_607, by decide +kernel, by decide +kernel, by decide +kernel⟩
      )) ⟨by decide, by decide⟩ (by decide) w_1220 w_816 rfl dL_change_23 (by decide) rfl rfl ?_
    refine k_iconst (v := 3) dL_change_25 rfl ?_
    exact k_reti dL_change_26 rfl rfl (by decide)
set_option maxHeartbeats 4000000 in
theorem cw_refusalReason (hsh : k_Main sh) (hsh' : k_Main sh') (hC : k_C E mX7_refusalReason D [.ref 0] sh σ k1 n1 (k_rx r sh' τ)) (hr : (∃ x : Int32, r = .inl (some (.int x))) ∨ r = .inr x_ns) : k_C E mL_refusalReason (D + 1) [.ref 0, .ref 141] sh σ k1 n1 (k_ret (some (.int (iI (w_code [x_ns] r)))) sh' (w_out r τ)) := by
  refine k_C_ofW (ls0 := [(0, .ref 0), (1, .ref 141)]) (a0 := (0, 8, 11, 46)) (t0 := []) rfl pnL (fun v hv => k_cat1 rfl hv) (Nat.le_of_ble_eq_true rfl) rfl ?_
  refine k_aload_n dL_refusalReason_0 1 rfl rfl (by decide) ?_
  refine k_iconst (v := 0) dL_refusalReason_1 rfl ?_
  refine k_aload_n dL_refusalReason_2 0 rfl rfl (by decide) ?_
  rcases hr with ⟨x, rfl⟩ | rfl
  · refine k_callV (k1 := k1) (n1 := n1) (k := 0) (n := 0) (st := [.int (iI (0)), .ref 141]) (as := []) dL_refusalReason_3 oX7_refusalReason rfl w_1242 w_1243 w_1244 (Nat.le_refl _) rfl (Nat.le_of_ble_eq_true rfl) (by decide) (s_0 hsh) rfl hC (Or.inl (k_okl_of (k_Main_len hsh) rfl rfl)) (fun Xn s2 σ2 h => by cases h.1) (fun v s2 σ2 h => ?_)
    obtain ⟨h1, rfl, rfl⟩ := h
    cases h1
    refine k_eqst (st' := [.int (iI x.toInt), .int (iI 0), .ref 141]) (by rw [← iI_of]; rfl) ?_
    refine k_i2l dL_refusalReason_6 (k_toR x) ?_
    refine k_last dL_refusalReason_7 (by decide) (s_141 hsh') (by decide) (by decide) (by decide) ?_
    refine k_goto (tgt := 14) dL_refusalReason_8 rfl ?_
    refine k_iconst (v := 0) dL_refusalReason_14 rfl ?_
    exact k_reti dL_refusalReason_15 rfl rfl rfl
  · refine k_callV (k1 := k1) (n1 := n1) (k := 0) (n := 0) (st := [.int (iI (0)), .ref 141]) (as := []) dL_refusalReason_3 oX7_refusalReason rfl w_1242 w_1243 w_1244 (Nat.le_refl _) rfl (Nat.le_of_ble_eq_true rfl) (by decide) (s_0 hsh) rfl hC (Or.inl (k_okl_of (k_Main_len hsh) rfl rfl)) (fun Xn s2 σ2 h => ?_) (fun v s2 σ2 h => by cases h.1)
    obtain ⟨h1, rfl, rfl⟩ := h
    cases h1
    refine k_catch (i := 2) (j := 2) (name := x_ns) (hpc := 11) (ls' := [(0, .ref 0), (1, .ref 141)]) [] [] (0, 8, 11, 46) rfl (fun z hz => absurd hz List.not_mem_nil) ⟨by decide, by decide⟩ (by decide) w_990 w_1000 rfl dL_refusalReason_11 rfl (by decide) rfl rfl ?_
    refine k_iconst (v := 1) dL_refusalReason_12 rfl ?_
    exact k_reti dL_refusalReason_13 rfl rfl (by decide)
set_option maxHeartbeats 4000000 in
theorem cw_chainMoves (hsh : k_Main sh) (hsh' : k_Main sh') (hC : k_C E mX7_chainMoves D [.ref 0] sh σ k1 n1 (k_rx r sh' τ)) (hr : (∃ x : Int32, r = .inl (some (.int x))) ∨ r = .inr x_ns) : k_C E mL_chainMoves (D + 1) [.ref 0, .ref 141] sh σ k1 n1 (k_ret (some (.int (iI (w_code [x_ns] r)))) sh' (w_out r τ)) := by
  refine k_C_ofW (ls0 := [(0, .ref 0), (1, .ref 141)]) (a0 := (0, 8, 11, 46)) (t0 := []) rfl pnL (fun v hv => k_cat1 rfl hv) (Nat.le_of_ble_eq_true rfl) rfl ?_
  refine k_aload_n dL_chainMoves_0 1 rfl rfl (by decide) ?_
  refine k_iconst (v := 0) dL_chainMoves_1 rfl ?_
  refine k_aload_n dL_chainMoves_2 0 rfl rfl (by decide) ?_
  rcases hr with ⟨x, rfl⟩ | rfl
  · refine k_callV (k1 := k1) (n1 := n1) (k := 0) (n := 0) (st := [.int (iI (0)), .ref 141]) (as := []) dL_chainMoves_3 oX7_chainMoves rfl w_1249 w_1250 w_1251 (Nat.le_refl _) rfl (Nat.le_of_ble_eq_true rfl) (by decide) (s_0 hsh) rfl hC (Or.inl (k_okl_of (k_Main_len hsh) rfl rfl)) (fun Xn s2 σ2 h => by cases h.1) (fun v s2 σ2 h => ?_)
    obtain ⟨h1, rfl, rfl⟩ := h
    cases h1
    refine k_eqst (st' := [.int (iI x.toInt), .int (iI 0), .ref 141]) (by rw [← iI_of]; rfl) ?_
    refine k_i2l dL_chainMoves_6 (k_toR x) ?_
    refine k_last dL_chainMoves_7 (by decide) (s_141 hsh') (by decide) (by decide) (by decide) ?_
    refine k_goto (tgt := 14) dL_chainMoves_8 rfl ?_
    refine k_iconst (v := 0) dL_chainMoves_14 rfl ?_
    exact k_reti dL_chainMoves_15 rfl rfl rfl
  · refine k_callV (k1 := k1) (n1 := n1) (k := 0) (n := 0) (st := [.int (iI (0)), .ref 141]) (as := []) dL_chainMoves_3 oX7_chainMoves rfl w_1249 w_1250 w_1251 (Nat.le_refl _) rfl (Nat.le_of_ble_eq_true rfl) (by decide) (s_0 hsh) rfl hC (Or.inl (k_okl_of (k_Main_len hsh) rfl rfl)) (fun Xn s2 σ2 h => ?_) (fun v s2 σ2 h => by cases h.1)
    obtain ⟨h1, rfl, rfl⟩ := h
    cases h1
    refine k_catch (i := 2) (j := 2) (name := x_ns) (hpc := 11) (ls' := [(0, .ref 0), (1, .ref 141)]) [] [] (0, 8, 11, 46) rfl (fun z hz => absurd hz List.not_mem_nil) ⟨by decide, by decide⟩ (by decide) w_990 w_1000 rfl dL_chainMoves_11 rfl (by decide) rfl rfl ?_
    refine k_iconst (v := 1) dL_chainMoves_12 rfl ?_
    exact k_reti dL_chainMoves_13 rfl rfl (by decide)
set_option maxHeartbeats 4000000 in
theorem cw_chainPupil (hsh : k_Main sh) (hsh' : k_Main sh') {p0 : Int} (hC : k_C E mX7_chainPupil D [.ref 0, .int (iI (p0))] sh σ k1 n1 (k_rx r sh' τ)) (hr : (∃ x : Int32, r = .inl (some (.int x))) ∨ r = .inr x_ns) : k_C E mL_chainPupil (D + 1) [.ref 0, .int (iI (p0)), .ref 141] sh σ k1 n1 (k_ret (some (.int (iI (w_code [x_ns] r)))) sh' (w_out r τ)) := by
  refine k_C_ofW (ls0 := [(0, .ref 0), (1, .int (iI (p0))), (2, .ref 141)]) (a0 := (0, 9, 12, 46)) (t0 := []) rfl pnL (fun v hv => k_cat1 rfl hv) (Nat.le_of_ble_eq_true rfl) rfl ?_
  refine k_aload_n dL_chainPupil_0 2 rfl rfl (by decide) ?_
  refine k_iconst (v := 0) dL_chainPupil_1 rfl ?_
  refine k_aload_n dL_chainPupil_2 0 rfl rfl (by decide) ?_
  refine k_iload_n dL_chainPupil_3 1 rfl rfl ?_
  rcases hr with ⟨x, rfl⟩ | rfl
  · refine k_callV (k1 := k1) (n1 := n1) (k := 0) (n := 0) (st := [.int (iI (0)), .ref 141]) (as := [.int (iI (p0))]) dL_chainPupil_4 oX7_chainPupil rfl w_1256 w_1257 w_1258 (Nat.le_refl _) rfl (Nat.le_of_ble_eq_true rfl) (by decide) (s_0 hsh) rfl hC (Or.inl (k_okl_of (k_Main_len hsh) rfl rfl)) (fun Xn s2 σ2 h => by cases h.1) (fun v s2 σ2 h => ?_)
    obtain ⟨h1, rfl, rfl⟩ := h
    cases h1
    refine k_eqst (st' := [.int (iI x.toInt), .int (iI 0), .ref 141]) (by rw [← iI_of]; rfl) ?_
    refine k_i2l dL_chainPupil_7 (k_toR x) ?_
    refine k_last dL_chainPupil_8 (by decide) (s_141 hsh') (by decide) (by decide) (by decide) ?_
    refine k_goto (tgt := 15) dL_chainPupil_9 rfl ?_
    refine k_iconst (v := 0) dL_chainPupil_15 rfl ?_
    exact k_reti dL_chainPupil_16 rfl rfl rfl
  · refine k_callV (k1 := k1) (n1 := n1) (k := 0) (n := 0) (st := [.int (iI (0)), .ref 141]) (as := [.int (iI (p0))]) dL_chainPupil_4 oX7_chainPupil rfl w_1256 w_1257 w_1258 (Nat.le_refl _) rfl (Nat.le_of_ble_eq_true rfl) (by decide) (s_0 hsh) rfl hC (Or.inl (k_okl_of (k_Main_len hsh) rfl rfl)) (fun Xn s2 σ2 h => ?_) (fun v s2 σ2 h => by cases h.1)
    obtain ⟨h1, rfl, rfl⟩ := h
    cases h1
    refine k_catch (i := 3) (j := 3) (name := x_ns) (hpc := 12) (ls' := [(0, .ref 0), (1, .int (iI (p0))), (2, .ref 141)]) [] [] (0, 9, 12, 46) rfl (fun z hz => absurd hz List.not_mem_nil) ⟨by decide, by decide⟩ (by decide) w_990 w_1000 rfl dL_chainPupil_12 rfl (by decide) rfl rfl ?_
    refine k_iconst (v := 1) dL_chainPupil_13 rfl ?_
    exact k_reti dL_chainPupil_14 rfl rfl (by decide)
set_option maxHeartbeats 4000000 in
theorem cw_chainBlock (hsh : k_Main sh) (hsh' : k_Main sh') {p0 : Int} (hC : k_C E mX7_chainBlock D [.ref 0, .int (iI (p0))] sh σ k1 n1 (k_rx r sh' τ)) (hr : (∃ x : Int32, r = .inl (some (.int x))) ∨ r = .inr x_ns) : k_C E mL_chainBlock (D + 1) [.ref 0, .int (iI (p0)), .ref 141] sh σ k1 n1 (k_ret (some (.int (iI (w_code [x_ns] r)))) sh' (w_out r τ)) := by
  refine k_C_ofW (ls0 := [(0, .ref 0), (1, .int (iI (p0))), (2, .ref 141)]) (a0 := (0, 9, 12, 46)) (t0 := []) rfl pnL (fun v hv => k_cat1 rfl hv) (Nat.le_of_ble_eq_true rfl) rfl ?_
  refine k_aload_n dL_chainBlock_0 2 rfl rfl (by decide) ?_
  refine k_iconst (v := 0) dL_chainBlock_1 rfl ?_
  refine k_aload_n dL_chainBlock_2 0 rfl rfl (by decide) ?_
  refine k_iload_n dL_chainBlock_3 1 rfl rfl ?_
  rcases hr with ⟨x, rfl⟩ | rfl
  · refine k_callV (k1 := k1) (n1 := n1) (k := 0) (n := 0) (st := [.int (iI (0)), .ref 141]) (as := [.int (iI (p0))]) dL_chainBlock_4 oX7_chainBlock rfl w_1263 w_1264 w_1265 (Nat.le_refl _) rfl (Nat.le_of_ble_eq_true rfl) (by decide) (s_0 hsh) rfl hC (Or.inl (k_okl_of (k_Main_len hsh) rfl rfl)) (fun Xn s2 σ2 h => by cases h.1) (fun v s2 σ2 h => ?_)
    obtain ⟨h1, rfl, rfl⟩ := h
    cases h1
    refine k_eqst (st' := [.int (iI x.toInt), .int (iI 0), .ref 141]) (by rw [← iI_of]; rfl) ?_
    refine k_i2l dL_chainBlock_7 (k_toR x) ?_
    refine k_last dL_chainBlock_8 (by decide) (s_141 hsh') (by decide) (by decide) (by decide) ?_
    refine k_goto (tgt := 15) dL_chainBlock_9 rfl ?_
    refine k_iconst (v := 0) dL_chainBlock_15 rfl ?_
    exact k_reti dL_chainBlock_16 rfl rfl rfl
  · refine k_callV (k1 := k1) (n1 := n1) (k := 0) (n := 0) (st := [.int (iI (0)), .ref 141]) (as := [.int (iI (p0))]) dL_chainBlock_4 oX7_chainBlock rfl w_1263 w_1264 w_1265 (Nat.le_refl _) rfl (Nat.le_of_ble_eq_true rfl) (by decide) (s_0 hsh) rfl hC (Or.inl (k_okl_of (k_Main_len hsh) rfl rfl)) (fun Xn s2 σ2 h => ?_) (fun v s2 σ2 h => by cases h.1)
    obtain ⟨h1, rfl, rfl⟩ := h
    cases h1
    refine k_catch (i := 3) (j := 3) (name := x_ns) (hpc := 12) (ls' := [(0, .ref 0), (1, .int (iI (p0))), (2, .ref 141)]) [] [] (0, 9, 12, 46) rfl (fun z hz => absurd hz List.not_mem_nil) ⟨by decide, by decide⟩ (by decide) w_990 w_1000 rfl dL_chainBlock_12 rfl (by decide) rfl rfl ?_
    refine k_iconst (v := 1) dL_chainBlock_13 rfl ?_
    exact k_reti dL_chainBlock_14 rfl rfl (by decide)
set_option maxHeartbeats 4000000 in
theorem cw_commonWishes (hsh : k_Main sh) (hsh' : k_Main sh') {p0 p1 : Int} (hC : k_C E mX7_commonWishes D [.ref 0, .int (iI (p0)), .int (iI (p1))] sh σ k1 n1 (k_rx r sh' τ)) (hr : (∃ x : Int32, r = .inl (some (.int x))) ∨ r = .inr x_io ∨ r = .inr x_ia) : k_C E mL_commonWishes (D + 1) [.ref 0, .int (iI (p0)), .int (iI (p1)), .ref 141] sh σ k1 n1 (k_ret (some (.int (iI (w_code [x_io, x_ia] r)))) sh' (w_out r τ)) := by
  refine k_C_ofW (ls0 := [(0, .ref 0), (1, .int (iI (p0))), (2, .int (iI (p1))), (3, .ref 141)]) (a0 := (0, 10, 13, 21)) (t0 := [(0, 10, 17, 13)]) rfl pnL (fun v hv => k_cat1 rfl hv) (Nat.le_of_ble_eq_true rfl) rfl ?_
  refine k_aload_n dL_commonWishes_0 3 rfl rfl (by decide) ?_
  refine k_iconst (v := 0) dL_commonWishes_1 rfl ?_
  refine k_aload_n dL_commonWishes_2 0 rfl rfl (by decide) ?_
  refine k_iload_n dL_commonWishes_3 1 rfl rfl ?_
  refine k_iload_n dL_commonWishes_4 2 rfl rfl ?_
  rcases hr with ⟨x, rfl⟩ | rfl | rfl
  · refine k_callV (k1 := k1) (n1 := n1) (k := 0) (n := 0) (st := [.int (iI (0)), .ref 141]) (as := [.int (iI (p0)), .int (iI (p1))]) dL_commonWishes_5 oX7_commonWishes rfl w_1270 w_1271 w_1272 (Nat.le_refl _) rfl (Nat.le_of_ble_eq_true rfl) (by decide) (s_0 hsh) rfl hC (Or.inl (k_okl_of (k_Main_len hsh) rfl rfl)) (fun Xn s2 σ2 h => by cases h.1) (fun v s2 σ2 h => ?_)
    obtain ⟨h1, rfl, rfl⟩ := h
    cases h1
    refine k_eqst (st' := [.int (iI x.toInt), .int (iI 0), .ref 141]) (by rw [← iI_of]; rfl) ?_
    refine k_i2l dL_commonWishes_8 (k_toR x) ?_
    refine k_last dL_commonWishes_9 (by decide) (s_141 hsh') (by decide) (by decide) (by decide) ?_
    refine k_goto (tgt := 21) dL_commonWishes_10 rfl ?_
    refine k_iconst (v := 0) dL_commonWishes_21 rfl ?_
    exact k_reti dL_commonWishes_22 rfl rfl rfl
  · refine k_callV (k1 := k1) (n1 := n1) (k := 0) (n := 0) (st := [.int (iI (0)), .ref 141]) (as := [.int (iI (p0)), .int (iI (p1))]) dL_commonWishes_5 oX7_commonWishes rfl w_1270 w_1271 w_1272 (Nat.le_refl _) rfl (Nat.le_of_ble_eq_true rfl) (by decide) (s_0 hsh) rfl hC (Or.inl (k_okl_of (k_Main_len hsh) rfl rfl)) (fun Xn s2 σ2 h => ?_) (fun v s2 σ2 h => by cases h.1)
    obtain ⟨h1, rfl, rfl⟩ := h
    cases h1
    refine k_catchN (j := 4) (name := x_io) (hpc := 13) (ls' := [(0, .ref 0), (1, .int (iI (p0))), (2, .int (iI (p1))), (3, .ref 141)]) [] [(0, 10, 17, 13)] (0, 10, 13, 21) rfl (fun z hz => absurd hz List.not_mem_nil) ⟨by decide, by decide⟩ (by decide) w_896 w_712 rfl dL_commonWishes_13 (by decide) rfl rfl ?_
    refine k_iconst (v := 1) dL_commonWishes_15 rfl ?_
    exact k_reti dL_commonWishes_16 rfl rfl (by decide)
  · refine k_callV (k1 := k1) (n1 := n1) (k := 0) (n := 0) (st := [.int (iI (0)), .ref 141]) (as := [.int (iI (p0)), .int (iI (p1))]) dL_commonWishes_5 oX7_commonWishes rfl w_1270 w_1271 w_1272 (Nat.le_refl _) rfl (Nat.le_of_ble_eq_true rfl) (by decide) (s_0 hsh) rfl hC (Or.inl (k_okl_of (k_Main_len hsh) rfl rfl)) (fun Xn s2 σ2 h => ?_) (fun v s2 σ2 h => by cases h.1)
    obtain ⟨h1, rfl, rfl⟩ := h
    cases h1
    refine k_catchN (j := 4) (name := x_ia) (hpc := 17) (ls' := [(0, .ref 0), (1, .int (iI (p0))), (2, .int (iI (p1))), (3, .ref 141)]) [(0, 10, 13, 21)] [] (0, 10, 17, 13) rfl (k_xpass (l := [(21, x_io)]) rfl (fun q hq => by
      simp only [List.mem_cons, List.not_mem_nil, or_false] at hq
      rcases hq with rfl
      · exact ⟨by decide, w_896, by decide +kernel, by decide +kernel, by decide +kernel⟩
      )) ⟨by decide, by decide⟩ (by decide) w_606 w_784 rfl dL_commonWishes_17 (by decide) rfl rfl ?_
    refine k_iconst (v := 2) dL_commonWishes_19 rfl ?_
    exact k_reti dL_commonWishes_20 rfl rfl (by decide)
set_option maxHeartbeats 4000000 in
theorem cw_doClash (hsh : k_Main sh) (hsh' : k_Main sh') {p0 p1 : Int} (hC : k_C E mX7_doClash D [.ref 0, .int (iI (p0)), .int (iI (p1))] sh σ k1 n1 (k_rx r sh' τ)) (hr : (∃ x : Int32, r = .inl (some (.int x))) ∨ r = .inr x_io ∨ r = .inr x_ia) : k_C E mL_doClash (D + 1) [.ref 0, .int (iI (p0)), .int (iI (p1)), .ref 141] sh σ k1 n1 (k_ret (some (.int (iI (w_code [x_io, x_ia] r)))) sh' (w_outB r τ)) := by
  refine k_C_ofW (ls0 := [(0, .ref 0), (1, .int (iI (p0))), (2, .int (iI (p1))), (3, .ref 141)]) (a0 := (0, 17, 20, 21)) (t0 := [(0, 17, 24, 13)]) rfl pnL (fun v hv => k_cat1 rfl hv) (Nat.le_of_ble_eq_true rfl) rfl ?_
  refine k_aload_n dL_doClash_0 3 rfl rfl (by decide) ?_
  refine k_iconst (v := 0) dL_doClash_1 rfl ?_
  refine k_aload_n dL_doClash_2 0 rfl rfl (by decide) ?_
  refine k_iload_n dL_doClash_3 1 rfl rfl ?_
  refine k_iload_n dL_doClash_4 2 rfl rfl ?_
  rcases hr with ⟨x, rfl⟩ | rfl | rfl
  · refine k_callV (k1 := k1) (n1 := n1) (k := 0) (n := 0) (st := [.int (iI (0)), .ref 141]) (as := [.int (iI (p0)), .int (iI (p1))]) dL_doClash_5 oX7_doClash rfl w_1282 w_1283 w_1284 (Nat.le_refl _) rfl (Nat.le_of_ble_eq_true rfl) (by decide) (s_0 hsh) rfl hC (Or.inl (k_okl_of (k_Main_len hsh) rfl rfl)) (fun Xn s2 σ2 h => by cases h.1) (fun v s2 σ2 h => ?_)
    obtain ⟨h1, rfl, rfl⟩ := h
    cases h1
    refine k_eqst (st' := [.int (iI x.toInt), .int (iI 0), .ref 141]) (by rw [← iI_of]; rfl) ?_
    refine k_if_eq (tgt := 15) dL_doClash_8 rfl (k_toR x) (fun h => ?_) (fun h => ?_)
    · refine k_lconst (v := 0) dL_doClash_15 rfl ?_
      refine k_last dL_doClash_16 (by decide) (s_141 hsh') (by decide) (by decide) (by decide) ?_
      refine k_eqσ (σ' := w_outB (.inl (some (.int x))) σ2) (by show k_up σ2 141 (k_u1 (σ2 141) 0 (if x.toInt = 0 then 0 else 1)) = _; rw [if_pos h]; rfl) ?_
      refine k_goto (tgt := 28) dL_doClash_17 rfl ?_
      refine k_iconst (v := 0) dL_doClash_28 rfl ?_
      exact k_reti dL_doClash_29 rfl rfl rfl
    · refine k_lconst (v := 1) dL_doClash_11 rfl ?_
      refine k_goto (tgt := 16) dL_doClash_12 rfl ?_
      refine k_last dL_doClash_16 (by decide) (s_141 hsh') (by decide) (by decide) (by decide) ?_
      refine k_eqσ (σ' := w_outB (.inl (some (.int x))) σ2) (by show k_up σ2 141 (k_u1 (σ2 141) 0 (if x.toInt = 0 then 0 else 1)) = _; rw [if_neg h]; rfl) ?_
      refine k_goto (tgt := 28) dL_doClash_17 rfl ?_
      refine k_iconst (v := 0) dL_doClash_28 rfl ?_
      exact k_reti dL_doClash_29 rfl rfl rfl
  · refine k_callV (k1 := k1) (n1 := n1) (k := 0) (n := 0) (st := [.int (iI (0)), .ref 141]) (as := [.int (iI (p0)), .int (iI (p1))]) dL_doClash_5 oX7_doClash rfl w_1282 w_1283 w_1284 (Nat.le_refl _) rfl (Nat.le_of_ble_eq_true rfl) (by decide) (s_0 hsh) rfl hC (Or.inl (k_okl_of (k_Main_len hsh) rfl rfl)) (fun Xn s2 σ2 h => ?_) (fun v s2 σ2 h => by cases h.1)
    obtain ⟨h1, rfl, rfl⟩ := h
    cases h1
    refine k_catchN (j := 4) (name := x_io) (hpc := 20) (ls' := [(0, .ref 0), (1, .int (iI (p0))), (2, .int (iI (p1))), (3, .ref 141)]) [] [(0, 17, 24, 13)] (0, 17, 20, 21) rfl (fun z hz => absurd hz List.not_mem_nil) ⟨by decide, by decide⟩ (by decide) w_896 w_712 rfl dL_doClash_20 (by decide) rfl rfl ?_
    refine k_iconst (v := 1) dL_doClash_22 rfl ?_
    exact k_reti dL_doClash_23 rfl rfl (by decide)
  · refine k_callV (k1 := k1) (n1 := n1) (k := 0) (n := 0) (st := [.int (iI (0)), .ref 141]) (as := [.int (iI (p0)), .int (iI (p1))]) dL_doClash_5 oX7_doClash rfl w_1282 w_1283 w_1284 (Nat.le_refl _) rfl (Nat.le_of_ble_eq_true rfl) (by decide) (s_0 hsh) rfl hC (Or.inl (k_okl_of (k_Main_len hsh) rfl rfl)) (fun Xn s2 σ2 h => ?_) (fun v s2 σ2 h => by cases h.1)
    obtain ⟨h1, rfl, rfl⟩ := h
    cases h1
    refine k_catchN (j := 4) (name := x_ia) (hpc := 24) (ls' := [(0, .ref 0), (1, .int (iI (p0))), (2, .int (iI (p1))), (3, .ref 141)]) [(0, 17, 20, 21)] [] (0, 17, 24, 13) rfl (k_xpass (l := [(21, x_io)]) rfl (fun q hq => by
      simp only [List.mem_cons, List.not_mem_nil, or_false] at hq
      rcases hq with rfl
      · exact ⟨by decide, w_896, by decide +kernel, by decide +kernel, by decide +kernel⟩
      )) ⟨by decide, by decide⟩ (by decide) w_606 w_784 rfl dL_doClash_24 (by decide) rfl rfl ?_
    refine k_iconst (v := 2) dL_doClash_26 rfl ?_
    exact k_reti dL_doClash_27 rfl rfl (by decide)
set_option maxHeartbeats 4000000 in
theorem cw_arrange (hsh : k_Main sh) (hsh' : k_Main sh') (hC : k_C E mX7_arrange D [.ref 0] sh σ k1 n1 (k_rx r sh' τ)) (hr : (∃ x : Int32, r = .inl (some (.int x))) ∨ r = .inr x_is) : k_C E mL_arrange (D + 1) [.ref 0, .ref 141] sh σ k1 n1 (k_ret (some (.int (iI (w_code [x_is] r)))) sh' (w_out r τ)) := by
  refine k_C_ofW (ls0 := [(0, .ref 0), (1, .ref 141)]) (a0 := (0, 8, 11, 15)) (t0 := []) rfl pnL (fun v hv => k_cat1 rfl hv) (Nat.le_of_ble_eq_true rfl) rfl ?_
  refine k_aload_n dL_arrange_0 1 rfl rfl (by decide) ?_
  refine k_iconst (v := 0) dL_arrange_1 rfl ?_
  refine k_aload_n dL_arrange_2 0 rfl rfl (by decide) ?_
  rcases hr with ⟨x, rfl⟩ | rfl
  · refine k_callV (k1 := k1) (n1 := n1) (k := 0) (n := 0) (st := [.int (iI (0)), .ref 141]) (as := []) dL_arrange_3 oX7_arrange rfl w_1289 w_1290 w_1291 (Nat.le_refl _) rfl (Nat.le_of_ble_eq_true rfl) (by decide) (s_0 hsh) rfl hC (Or.inl (k_okl_of (k_Main_len hsh) rfl rfl)) (fun Xn s2 σ2 h => by cases h.1) (fun v s2 σ2 h => ?_)
    obtain ⟨h1, rfl, rfl⟩ := h
    cases h1
    refine k_eqst (st' := [.int (iI x.toInt), .int (iI 0), .ref 141]) (by rw [← iI_of]; rfl) ?_
    refine k_i2l dL_arrange_6 (k_toR x) ?_
    refine k_last dL_arrange_7 (by decide) (s_141 hsh') (by decide) (by decide) (by decide) ?_
    refine k_goto (tgt := 14) dL_arrange_8 rfl ?_
    refine k_iconst (v := 0) dL_arrange_14 rfl ?_
    exact k_reti dL_arrange_15 rfl rfl rfl
  · refine k_callV (k1 := k1) (n1 := n1) (k := 0) (n := 0) (st := [.int (iI (0)), .ref 141]) (as := []) dL_arrange_3 oX7_arrange rfl w_1289 w_1290 w_1291 (Nat.le_refl _) rfl (Nat.le_of_ble_eq_true rfl) (by decide) (s_0 hsh) rfl hC (Or.inl (k_okl_of (k_Main_len hsh) rfl rfl)) (fun Xn s2 σ2 h => ?_) (fun v s2 σ2 h => by cases h.1)
    obtain ⟨h1, rfl, rfl⟩ := h
    cases h1
    refine k_catch (i := 2) (j := 2) (name := x_is) (hpc := 11) (ls' := [(0, .ref 0), (1, .ref 141)]) [] [] (0, 8, 11, 15) rfl (fun z hz => absurd hz List.not_mem_nil) ⟨by decide, by decide⟩ (by decide) w_607 w_800 rfl dL_arrange_11 rfl (by decide) rfl rfl ?_
    refine k_iconst (v := 1) dL_arrange_12 rfl ?_
    exact k_reti dL_arrange_13 rfl rfl (by decide)
set_option maxHeartbeats 4000000 in
theorem cw_writeTimetable (hsh : k_Main sh) (hsh' : k_Main sh') {p0 : Int} (hC : k_C E mX7_writeTimetable D [.ref 0, .int (iI (p0))] sh σ k1 n1 (k_rx r sh' τ)) (hr : (∃ x : Int32, r = .inl (some (.int x))) ∨ r = .inr x_io) : k_C E mL_writeTimetable (D + 1) [.ref 0, .int (iI (p0)), .ref 141] sh σ k1 n1 (k_ret (some (.int (iI (w_code [x_io] r)))) sh' (w_out r τ)) := by
  refine k_C_ofW (ls0 := [(0, .ref 0), (1, .int (iI (p0))), (2, .ref 141)]) (a0 := (0, 9, 12, 21)) (t0 := []) rfl pnL (fun v hv => k_cat1 rfl hv) (Nat.le_of_ble_eq_true rfl) rfl ?_
  refine k_aload_n dL_writeTimetable_0 2 rfl rfl (by decide) ?_
  refine k_iconst (v := 0) dL_writeTimetable_1 rfl ?_
  refine k_aload_n dL_writeTimetable_2 0 rfl rfl (by decide) ?_
  refine k_iload_n dL_writeTimetable_3 1 rfl rfl ?_
  rcases hr with ⟨x, rfl⟩ | rfl
  · refine k_callV (k1 := k1) (n1 := n1) (k := 0) (n := 0) (st := [.int (iI (0)), .ref 141]) (as := [.int (iI (p0))]) dL_writeTimetable_4 oX7_writeTimetable rfl w_1296 w_1297 w_1298 (Nat.le_refl _) rfl (Nat.le_of_ble_eq_true rfl) (by decide) (s_0 hsh) rfl hC (Or.inl (k_okl_of (k_Main_len hsh) rfl rfl)) (fun Xn s2 σ2 h => by cases h.1) (fun v s2 σ2 h => ?_)
    obtain ⟨h1, rfl, rfl⟩ := h
    cases h1
    refine k_eqst (st' := [.int (iI x.toInt), .int (iI 0), .ref 141]) (by rw [← iI_of]; rfl) ?_
    refine k_i2l dL_writeTimetable_7 (k_toR x) ?_
    refine k_last dL_writeTimetable_8 (by decide) (s_141 hsh') (by decide) (by decide) (by decide) ?_
    refine k_goto (tgt := 15) dL_writeTimetable_9 rfl ?_
    refine k_iconst (v := 0) dL_writeTimetable_15 rfl ?_
    exact k_reti dL_writeTimetable_16 rfl rfl rfl
  · refine k_callV (k1 := k1) (n1 := n1) (k := 0) (n := 0) (st := [.int (iI (0)), .ref 141]) (as := [.int (iI (p0))]) dL_writeTimetable_4 oX7_writeTimetable rfl w_1296 w_1297 w_1298 (Nat.le_refl _) rfl (Nat.le_of_ble_eq_true rfl) (by decide) (s_0 hsh) rfl hC (Or.inl (k_okl_of (k_Main_len hsh) rfl rfl)) (fun Xn s2 σ2 h => ?_) (fun v s2 σ2 h => by cases h.1)
    obtain ⟨h1, rfl, rfl⟩ := h
    cases h1
    refine k_catch (i := 3) (j := 3) (name := x_io) (hpc := 12) (ls' := [(0, .ref 0), (1, .int (iI (p0))), (2, .ref 141)]) [] [] (0, 9, 12, 21) rfl (fun z hz => absurd hz List.not_mem_nil) ⟨by decide, by decide⟩ (by decide) w_896 w_712 rfl dL_writeTimetable_12 rfl (by decide) rfl rfl ?_
    refine k_iconst (v := 1) dL_writeTimetable_13 rfl ?_
    exact k_reti dL_writeTimetable_14 rfl rfl (by decide)
set_option maxHeartbeats 4000000 in
theorem cw_lineAt (hsh : k_Main sh) (hsh' : k_Main sh') {p0 : Int} (hC : k_C E mX7_lineAt D [.ref 0, .int (iI (p0))] sh σ k1 n1 (k_rx r sh' τ)) (hr : (∃ x : Int32, r = .inl (some (.int x))) ∨ r = .inr x_io) : k_C E mL_lineAt (D + 1) [.ref 0, .int (iI (p0)), .ref 141] sh σ k1 n1 (k_ret (some (.int (iI (w_code [x_io] r)))) sh' (w_out r τ)) := by
  refine k_C_ofW (ls0 := [(0, .ref 0), (1, .int (iI (p0))), (2, .ref 141)]) (a0 := (0, 9, 12, 21)) (t0 := []) rfl pnL (fun v hv => k_cat1 rfl hv) (Nat.le_of_ble_eq_true rfl) rfl ?_
  refine k_aload_n dL_lineAt_0 2 rfl rfl (by decide) ?_
  refine k_iconst (v := 0) dL_lineAt_1 rfl ?_
  refine k_aload_n dL_lineAt_2 0 rfl rfl (by decide) ?_
  refine k_iload_n dL_lineAt_3 1 rfl rfl ?_
  rcases hr with ⟨x, rfl⟩ | rfl
  · refine k_callV (k1 := k1) (n1 := n1) (k := 0) (n := 0) (st := [.int (iI (0)), .ref 141]) (as := [.int (iI (p0))]) dL_lineAt_4 oX7_lineAt rfl w_1582 w_1583 w_1584 (Nat.le_refl _) rfl (Nat.le_of_ble_eq_true rfl) (by decide) (s_0 hsh) rfl hC (Or.inl (k_okl_of (k_Main_len hsh) rfl rfl)) (fun Xn s2 σ2 h => by cases h.1) (fun v s2 σ2 h => ?_)
    obtain ⟨h1, rfl, rfl⟩ := h
    cases h1
    refine k_eqst (st' := [.int (iI x.toInt), .int (iI 0), .ref 141]) (by rw [← iI_of]; rfl) ?_
    refine k_i2l dL_lineAt_7 (k_toR x) ?_
    refine k_last dL_lineAt_8 (by decide) (s_141 hsh') (by decide) (by decide) (by decide) ?_
    refine k_goto (tgt := 15) dL_lineAt_9 rfl ?_
    refine k_iconst (v := 0) dL_lineAt_15 rfl ?_
    exact k_reti dL_lineAt_16 rfl rfl rfl
  · refine k_callV (k1 := k1) (n1 := n1) (k := 0) (n := 0) (st := [.int (iI (0)), .ref 141]) (as := [.int (iI (p0))]) dL_lineAt_4 oX7_lineAt rfl w_1582 w_1583 w_1584 (Nat.le_refl _) rfl (Nat.le_of_ble_eq_true rfl) (by decide) (s_0 hsh) rfl hC (Or.inl (k_okl_of (k_Main_len hsh) rfl rfl)) (fun Xn s2 σ2 h => ?_) (fun v s2 σ2 h => by cases h.1)
    obtain ⟨h1, rfl, rfl⟩ := h
    cases h1
    refine k_catch (i := 3) (j := 3) (name := x_io) (hpc := 12) (ls' := [(0, .ref 0), (1, .int (iI (p0))), (2, .ref 141)]) [] [] (0, 9, 12, 21) rfl (fun z hz => absurd hz List.not_mem_nil) ⟨by decide, by decide⟩ (by decide) w_896 w_712 rfl dL_lineAt_12 rfl (by decide) rfl rfl ?_
    refine k_iconst (v := 1) dL_lineAt_13 rfl ?_
    exact k_reti dL_lineAt_14 rfl rfl (by decide)
set_option maxHeartbeats 4000000 in
theorem cw_type (hsh : k_Main sh) (hsh' : k_Main sh') {p0 : Int} (hC : k_C E mX7_type D [.ref 0, .int (iI (p0))] sh σ k1 n1 (k_rx r sh' τ)) (hr : (∃ x : Int32, r = .inl (some (.int x))) ∨ r = .inr x_ia ∨ r = .inr x_is) : k_C E mL_type (D + 1) [.ref 0, .int (iI (p0)), .ref 141] sh σ k1 n1 (k_ret (some (.int (iI (w_code [x_ia, x_is] r)))) sh' (w_out r τ)) := by
  refine k_C_ofW (ls0 := [(0, .ref 0), (1, .int (iI (p0))), (2, .ref 141)]) (a0 := (0, 9, 12, 13)) (t0 := [(0, 9, 15, 15)]) rfl pnL (fun v hv => k_cat1 rfl hv) (Nat.le_of_ble_eq_true rfl) rfl ?_
  refine k_aload_n dL_type_0 2 rfl rfl (by decide) ?_
  refine k_iconst (v := 0) dL_type_1 rfl ?_
  refine k_aload_n dL_type_2 0 rfl rfl (by decide) ?_
  refine k_iload_n dL_type_3 1 rfl rfl ?_
  rcases hr with ⟨x, rfl⟩ | rfl | rfl
  · refine k_callV (k1 := k1) (n1 := n1) (k := 0) (n := 0) (st := [.int (iI (0)), .ref 141]) (as := [.int (iI (p0))]) dL_type_4 oX7_type rfl w_1599 w_1600 w_1601 (Nat.le_refl _) rfl (Nat.le_of_ble_eq_true rfl) (by decide) (s_0 hsh) rfl hC (Or.inl (k_okl_of (k_Main_len hsh) rfl rfl)) (fun Xn s2 σ2 h => by cases h.1) (fun v s2 σ2 h => ?_)
    obtain ⟨h1, rfl, rfl⟩ := h
    cases h1
    refine k_eqst (st' := [.int (iI x.toInt), .int (iI 0), .ref 141]) (by rw [← iI_of]; rfl) ?_
    refine k_i2l dL_type_7 (k_toR x) ?_
    refine k_last dL_type_8 (by decide) (s_141 hsh') (by decide) (by decide) (by decide) ?_
    refine k_goto (tgt := 18) dL_type_9 rfl ?_
    refine k_iconst (v := 0) dL_type_18 rfl ?_
    exact k_reti dL_type_19 rfl rfl rfl
  · refine k_callV (k1 := k1) (n1 := n1) (k := 0) (n := 0) (st := [.int (iI (0)), .ref 141]) (as := [.int (iI (p0))]) dL_type_4 oX7_type rfl w_1599 w_1600 w_1601 (Nat.le_refl _) rfl (Nat.le_of_ble_eq_true rfl) (by decide) (s_0 hsh) rfl hC (Or.inl (k_okl_of (k_Main_len hsh) rfl rfl)) (fun Xn s2 σ2 h => ?_) (fun v s2 σ2 h => by cases h.1)
    obtain ⟨h1, rfl, rfl⟩ := h
    cases h1
    refine k_catch (i := 3) (j := 3) (name := x_ia) (hpc := 12) (ls' := [(0, .ref 0), (1, .int (iI (p0))), (2, .ref 141)]) [] [(0, 9, 15, 15)] (0, 9, 12, 13) rfl (fun z hz => absurd hz List.not_mem_nil) ⟨by decide, by decide⟩ (by decide) w_606 w_784 rfl dL_type_12 rfl (by decide) rfl rfl ?_
    refine k_iconst (v := 1) dL_type_13 rfl ?_
    exact k_reti dL_type_14 rfl rfl (by decide)
  · refine k_callV (k1 := k1) (n1 := n1) (k := 0) (n := 0) (st := [.int (iI (0)), .ref 141]) (as := [.int (iI (p0))]) dL_type_4 oX7_type rfl w_1599 w_1600 w_1601 (Nat.le_refl _) rfl (Nat.le_of_ble_eq_true rfl) (by decide) (s_0 hsh) rfl hC (Or.inl (k_okl_of (k_Main_len hsh) rfl rfl)) (fun Xn s2 σ2 h => ?_) (fun v s2 σ2 h => by cases h.1)
    obtain ⟨h1, rfl, rfl⟩ := h
    cases h1
    refine k_catch (i := 3) (j := 3) (name := x_is) (hpc := 15) (ls' := [(0, .ref 0), (1, .int (iI (p0))), (2, .ref 141)]) [(0, 9, 12, 13)] [] (0, 9, 15, 15) rfl (k_xpass (l := [(13, x_ia)]) rfl (fun q hq => by
      simp only [List.mem_cons, List.not_mem_nil, or_false] at hq
      rcases hq with rfl
      · exact ⟨by decide, w_606, by decide +kernel, by decide +kernel, by decide +kernel⟩
      )) ⟨by decide, by decide⟩ (by decide) w_607 w_800 rfl dL_type_15 rfl (by decide) rfl rfl ?_
    refine k_iconst (v := 2) dL_type_16 rfl ?_
    exact k_reti dL_type_17 rfl rfl (by decide)
set_option maxHeartbeats 4000000 in
theorem cw_execute (hsh : k_Main sh) (hsh' : k_Main sh') (hC : k_C E mX7_execute D [.ref 0] sh σ k1 n1 (k_rx r sh' τ)) (hr : (∃ x : Int32, r = .inl (some (.int x))) ∨ r = .inr x_ia ∨ r = .inr x_is) : k_C E mL_execute (D + 1) [.ref 0, .ref 141] sh σ k1 n1 (k_ret (some (.int (iI (w_code [x_ia, x_is] r)))) sh' (w_out r τ)) := by
  refine k_C_ofW (ls0 := [(0, .ref 0), (1, .ref 141)]) (a0 := (0, 8, 11, 13)) (t0 := [(0, 8, 14, 15)]) rfl pnL (fun v hv => k_cat1 rfl hv) (Nat.le_of_ble_eq_true rfl) rfl ?_
  refine k_aload_n dL_execute_0 1 rfl rfl (by decide) ?_
  refine k_iconst (v := 0) dL_execute_1 rfl ?_
  refine k_aload_n dL_execute_2 0 rfl rfl (by decide) ?_
  rcases hr with ⟨x, rfl⟩ | rfl | rfl
  · refine k_callV (k1 := k1) (n1 := n1) (k := 0) (n := 0) (st := [.int (iI (0)), .ref 141]) (as := []) dL_execute_3 oX7_execute rfl w_1608 w_1609 w_1610 (Nat.le_refl _) rfl (Nat.le_of_ble_eq_true rfl) (by decide) (s_0 hsh) rfl hC (Or.inl (k_okl_of (k_Main_len hsh) rfl rfl)) (fun Xn s2 σ2 h => by cases h.1) (fun v s2 σ2 h => ?_)
    obtain ⟨h1, rfl, rfl⟩ := h
    cases h1
    refine k_eqst (st' := [.int (iI x.toInt), .int (iI 0), .ref 141]) (by rw [← iI_of]; rfl) ?_
    refine k_i2l dL_execute_6 (k_toR x) ?_
    refine k_last dL_execute_7 (by decide) (s_141 hsh') (by decide) (by decide) (by decide) ?_
    refine k_goto (tgt := 17) dL_execute_8 rfl ?_
    refine k_iconst (v := 0) dL_execute_17 rfl ?_
    exact k_reti dL_execute_18 rfl rfl rfl
  · refine k_callV (k1 := k1) (n1 := n1) (k := 0) (n := 0) (st := [.int (iI (0)), .ref 141]) (as := []) dL_execute_3 oX7_execute rfl w_1608 w_1609 w_1610 (Nat.le_refl _) rfl (Nat.le_of_ble_eq_true rfl) (by decide) (s_0 hsh) rfl hC (Or.inl (k_okl_of (k_Main_len hsh) rfl rfl)) (fun Xn s2 σ2 h => ?_) (fun v s2 σ2 h => by cases h.1)
    obtain ⟨h1, rfl, rfl⟩ := h
    cases h1
    refine k_catch (i := 2) (j := 2) (name := x_ia) (hpc := 11) (ls' := [(0, .ref 0), (1, .ref 141)]) [] [(0, 8, 14, 15)] (0, 8, 11, 13) rfl (fun z hz => absurd hz List.not_mem_nil) ⟨by decide, by decide⟩ (by decide) w_606 w_784 rfl dL_execute_11 rfl (by decide) rfl rfl ?_
    refine k_iconst (v := 1) dL_execute_12 rfl ?_
    exact k_reti dL_execute_13 rfl rfl (by decide)
  · refine k_callV (k1 := k1) (n1 := n1) (k := 0) (n := 0) (st := [.int (iI (0)), .ref 141]) (as := []) dL_execute_3 oX7_execute rfl w_1608 w_1609 w_1610 (Nat.le_refl _) rfl (Nat.le_of_ble_eq_true rfl) (by decide) (s_0 hsh) rfl hC (Or.inl (k_okl_of (k_Main_len hsh) rfl rfl)) (fun Xn s2 σ2 h => ?_) (fun v s2 σ2 h => by cases h.1)
    obtain ⟨h1, rfl, rfl⟩ := h
    cases h1
    refine k_catch (i := 2) (j := 2) (name := x_is) (hpc := 14) (ls' := [(0, .ref 0), (1, .ref 141)]) [(0, 8, 11, 13)] [] (0, 8, 14, 15) rfl (k_xpass (l := [(13, x_ia)]) rfl (fun q hq => by
      simp only [List.mem_cons, List.not_mem_nil, or_false] at hq
      rcases hq with rfl
      · exact ⟨by decide, w_606, by decide +kernel, by decide +kernel, by decide +kernel⟩
      )) ⟨by decide, by decide⟩ (by decide) w_607 w_800 rfl dL_execute_14 rfl (by decide) rfl rfl ?_
    refine k_iconst (v := 2) dL_execute_15 rfl ?_
    exact k_reti dL_execute_16 rfl rfl (by decide)
set_option maxHeartbeats 4000000 in
theorem cw_errorPosition (hsh : k_Main sh) (hsh' : k_Main sh') (hC : k_C E mX7_errorPosition D [.ref 0] sh σ k1 n1 (k_rx r sh' τ)) (hr : (∃ x : Int32, r = .inl (some (.int x))) ∨ r = .inr x_ns) : k_C E mL_errorPosition (D + 1) [.ref 0, .ref 141] sh σ k1 n1 (k_ret (some (.int (iI (w_code [x_ns] r)))) sh' (w_out r τ)) := by
  refine k_C_ofW (ls0 := [(0, .ref 0), (1, .ref 141)]) (a0 := (0, 8, 11, 46)) (t0 := []) rfl pnL (fun v hv => k_cat1 rfl hv) (Nat.le_of_ble_eq_true rfl) rfl ?_
  refine k_aload_n dL_errorPosition_0 1 rfl rfl (by decide) ?_
  refine k_iconst (v := 0) dL_errorPosition_1 rfl ?_
  refine k_aload_n dL_errorPosition_2 0 rfl rfl (by decide) ?_
  rcases hr with ⟨x, rfl⟩ | rfl
  · refine k_callV (k1 := k1) (n1 := n1) (k := 0) (n := 0) (st := [.int (iI (0)), .ref 141]) (as := []) dL_errorPosition_3 oX7_errorPosition rfl w_1685 w_1686 w_1687 (Nat.le_refl _) rfl (Nat.le_of_ble_eq_true rfl) (by decide) (s_0 hsh) rfl hC (Or.inl (k_okl_of (k_Main_len hsh) rfl rfl)) (fun Xn s2 σ2 h => by cases h.1) (fun v s2 σ2 h => ?_)
    obtain ⟨h1, rfl, rfl⟩ := h
    cases h1
    refine k_eqst (st' := [.int (iI x.toInt), .int (iI 0), .ref 141]) (by rw [← iI_of]; rfl) ?_
    refine k_i2l dL_errorPosition_6 (k_toR x) ?_
    refine k_last dL_errorPosition_7 (by decide) (s_141 hsh') (by decide) (by decide) (by decide) ?_
    refine k_goto (tgt := 14) dL_errorPosition_8 rfl ?_
    refine k_iconst (v := 0) dL_errorPosition_14 rfl ?_
    exact k_reti dL_errorPosition_15 rfl rfl rfl
  · refine k_callV (k1 := k1) (n1 := n1) (k := 0) (n := 0) (st := [.int (iI (0)), .ref 141]) (as := []) dL_errorPosition_3 oX7_errorPosition rfl w_1685 w_1686 w_1687 (Nat.le_refl _) rfl (Nat.le_of_ble_eq_true rfl) (by decide) (s_0 hsh) rfl hC (Or.inl (k_okl_of (k_Main_len hsh) rfl rfl)) (fun Xn s2 σ2 h => ?_) (fun v s2 σ2 h => by cases h.1)
    obtain ⟨h1, rfl, rfl⟩ := h
    cases h1
    refine k_catch (i := 2) (j := 2) (name := x_ns) (hpc := 11) (ls' := [(0, .ref 0), (1, .ref 141)]) [] [] (0, 8, 11, 46) rfl (fun z hz => absurd hz List.not_mem_nil) ⟨by decide, by decide⟩ (by decide) w_990 w_1000 rfl dL_errorPosition_11 rfl (by decide) rfl rfl ?_
    refine k_iconst (v := 1) dL_errorPosition_12 rfl ?_
    exact k_reti dL_errorPosition_13 rfl rfl (by decide)
set_option maxHeartbeats 4000000 in
theorem cw_failedCommand (hsh : k_Main sh) (hsh' : k_Main sh') (hC : k_C E mX7_failedCommand D [.ref 0] sh σ k1 n1 (k_rx r sh' τ)) (hr : (∃ x : Int32, r = .inl (some (.int x))) ∨ r = .inr x_ns) : k_C E mL_failedCommand (D + 1) [.ref 0, .ref 141] sh σ k1 n1 (k_ret (some (.int (iI (w_code [x_ns] r)))) sh' (w_out r τ)) := by
  refine k_C_ofW (ls0 := [(0, .ref 0), (1, .ref 141)]) (a0 := (0, 8, 11, 46)) (t0 := []) rfl pnL (fun v hv => k_cat1 rfl hv) (Nat.le_of_ble_eq_true rfl) rfl ?_
  refine k_aload_n dL_failedCommand_0 1 rfl rfl (by decide) ?_
  refine k_iconst (v := 0) dL_failedCommand_1 rfl ?_
  refine k_aload_n dL_failedCommand_2 0 rfl rfl (by decide) ?_
  rcases hr with ⟨x, rfl⟩ | rfl
  · refine k_callV (k1 := k1) (n1 := n1) (k := 0) (n := 0) (st := [.int (iI (0)), .ref 141]) (as := []) dL_failedCommand_3 oX7_failedCommand rfl w_1692 w_1693 w_1694 (Nat.le_refl _) rfl (Nat.le_of_ble_eq_true rfl) (by decide) (s_0 hsh) rfl hC (Or.inl (k_okl_of (k_Main_len hsh) rfl rfl)) (fun Xn s2 σ2 h => by cases h.1) (fun v s2 σ2 h => ?_)
    obtain ⟨h1, rfl, rfl⟩ := h
    cases h1
    refine k_eqst (st' := [.int (iI x.toInt), .int (iI 0), .ref 141]) (by rw [← iI_of]; rfl) ?_
    refine k_i2l dL_failedCommand_6 (k_toR x) ?_
    refine k_last dL_failedCommand_7 (by decide) (s_141 hsh') (by decide) (by decide) (by decide) ?_
    refine k_goto (tgt := 14) dL_failedCommand_8 rfl ?_
    refine k_iconst (v := 0) dL_failedCommand_14 rfl ?_
    exact k_reti dL_failedCommand_15 rfl rfl rfl
  · refine k_callV (k1 := k1) (n1 := n1) (k := 0) (n := 0) (st := [.int (iI (0)), .ref 141]) (as := []) dL_failedCommand_3 oX7_failedCommand rfl w_1692 w_1693 w_1694 (Nat.le_refl _) rfl (Nat.le_of_ble_eq_true rfl) (by decide) (s_0 hsh) rfl hC (Or.inl (k_okl_of (k_Main_len hsh) rfl rfl)) (fun Xn s2 σ2 h => ?_) (fun v s2 σ2 h => by cases h.1)
    obtain ⟨h1, rfl, rfl⟩ := h
    cases h1
    refine k_catch (i := 2) (j := 2) (name := x_ns) (hpc := 11) (ls' := [(0, .ref 0), (1, .ref 141)]) [] [] (0, 8, 11, 46) rfl (fun z hz => absurd hz List.not_mem_nil) ⟨by decide, by decide⟩ (by decide) w_990 w_1000 rfl dL_failedCommand_11 rfl (by decide) rfl rfl ?_
    refine k_iconst (v := 1) dL_failedCommand_12 rfl ?_
    exact k_reti dL_failedCommand_13 rfl rfl (by decide)
set_option maxHeartbeats 4000000 in
theorem cw_failureKind (hsh : k_Main sh) (hsh' : k_Main sh') (hC : k_C E mX7_failureKind D [.ref 0] sh σ k1 n1 (k_rx r sh' τ)) (hr : (∃ x : Int32, r = .inl (some (.int x))) ∨ r = .inr x_ns) : k_C E mL_failureKind (D + 1) [.ref 0, .ref 141] sh σ k1 n1 (k_ret (some (.int (iI (w_code [x_ns] r)))) sh' (w_out r τ)) := by
  refine k_C_ofW (ls0 := [(0, .ref 0), (1, .ref 141)]) (a0 := (0, 8, 11, 46)) (t0 := []) rfl pnL (fun v hv => k_cat1 rfl hv) (Nat.le_of_ble_eq_true rfl) rfl ?_
  refine k_aload_n dL_failureKind_0 1 rfl rfl (by decide) ?_
  refine k_iconst (v := 0) dL_failureKind_1 rfl ?_
  refine k_aload_n dL_failureKind_2 0 rfl rfl (by decide) ?_
  rcases hr with ⟨x, rfl⟩ | rfl
  · refine k_callV (k1 := k1) (n1 := n1) (k := 0) (n := 0) (st := [.int (iI (0)), .ref 141]) (as := []) dL_failureKind_3 oX7_failureKind rfl w_1699 w_1700 w_1701 (Nat.le_refl _) rfl (Nat.le_of_ble_eq_true rfl) (by decide) (s_0 hsh) rfl hC (Or.inl (k_okl_of (k_Main_len hsh) rfl rfl)) (fun Xn s2 σ2 h => by cases h.1) (fun v s2 σ2 h => ?_)
    obtain ⟨h1, rfl, rfl⟩ := h
    cases h1
    refine k_eqst (st' := [.int (iI x.toInt), .int (iI 0), .ref 141]) (by rw [← iI_of]; rfl) ?_
    refine k_i2l dL_failureKind_6 (k_toR x) ?_
    refine k_last dL_failureKind_7 (by decide) (s_141 hsh') (by decide) (by decide) (by decide) ?_
    refine k_goto (tgt := 14) dL_failureKind_8 rfl ?_
    refine k_iconst (v := 0) dL_failureKind_14 rfl ?_
    exact k_reti dL_failureKind_15 rfl rfl rfl
  · refine k_callV (k1 := k1) (n1 := n1) (k := 0) (n := 0) (st := [.int (iI (0)), .ref 141]) (as := []) dL_failureKind_3 oX7_failureKind rfl w_1699 w_1700 w_1701 (Nat.le_refl _) rfl (Nat.le_of_ble_eq_true rfl) (by decide) (s_0 hsh) rfl hC (Or.inl (k_okl_of (k_Main_len hsh) rfl rfl)) (fun Xn s2 σ2 h => ?_) (fun v s2 σ2 h => by cases h.1)
    obtain ⟨h1, rfl, rfl⟩ := h
    cases h1
    refine k_catch (i := 2) (j := 2) (name := x_ns) (hpc := 11) (ls' := [(0, .ref 0), (1, .ref 141)]) [] [] (0, 8, 11, 46) rfl (fun z hz => absurd hz List.not_mem_nil) ⟨by decide, by decide⟩ (by decide) w_990 w_1000 rfl dL_failureKind_11 rfl (by decide) rfl rfl ?_
    refine k_iconst (v := 1) dL_failureKind_12 rfl ?_
    exact k_reti dL_failureKind_13 rfl rfl (by decide)
set_option maxHeartbeats 4000000 in
theorem cw_undo (hsh : k_Main sh) (hsh' : k_Main sh') (hC : k_C E mX7_undo D [.ref 0] sh σ k1 n1 (k_rx r sh' τ)) (hr : (∃ x : Int32, r = .inl (some (.int x))) ∨ r = .inr x_is) : k_C E mL_undo (D + 1) [.ref 0, .ref 141] sh σ k1 n1 (k_ret (some (.int (iI (w_code [x_is] r)))) sh' (w_out r τ)) := by
  refine k_C_ofW (ls0 := [(0, .ref 0), (1, .ref 141)]) (a0 := (0, 8, 11, 15)) (t0 := []) rfl pnL (fun v hv => k_cat1 rfl hv) (Nat.le_of_ble_eq_true rfl) rfl ?_
  refine k_aload_n dL_undo_0 1 rfl rfl (by decide) ?_
  refine k_iconst (v := 0) dL_undo_1 rfl ?_
  refine k_aload_n dL_undo_2 0 rfl rfl (by decide) ?_
  rcases hr with ⟨x, rfl⟩ | rfl
  · refine k_callV (k1 := k1) (n1 := n1) (k := 0) (n := 0) (st := [.int (iI (0)), .ref 141]) (as := []) dL_undo_3 oX7_undo rfl w_1706 w_1707 w_1708 (Nat.le_refl _) rfl (Nat.le_of_ble_eq_true rfl) (by decide) (s_0 hsh) rfl hC (Or.inl (k_okl_of (k_Main_len hsh) rfl rfl)) (fun Xn s2 σ2 h => by cases h.1) (fun v s2 σ2 h => ?_)
    obtain ⟨h1, rfl, rfl⟩ := h
    cases h1
    refine k_eqst (st' := [.int (iI x.toInt), .int (iI 0), .ref 141]) (by rw [← iI_of]; rfl) ?_
    refine k_i2l dL_undo_6 (k_toR x) ?_
    refine k_last dL_undo_7 (by decide) (s_141 hsh') (by decide) (by decide) (by decide) ?_
    refine k_goto (tgt := 14) dL_undo_8 rfl ?_
    refine k_iconst (v := 0) dL_undo_14 rfl ?_
    exact k_reti dL_undo_15 rfl rfl rfl
  · refine k_callV (k1 := k1) (n1 := n1) (k := 0) (n := 0) (st := [.int (iI (0)), .ref 141]) (as := []) dL_undo_3 oX7_undo rfl w_1706 w_1707 w_1708 (Nat.le_refl _) rfl (Nat.le_of_ble_eq_true rfl) (by decide) (s_0 hsh) rfl hC (Or.inl (k_okl_of (k_Main_len hsh) rfl rfl)) (fun Xn s2 σ2 h => ?_) (fun v s2 σ2 h => by cases h.1)
    obtain ⟨h1, rfl, rfl⟩ := h
    cases h1
    refine k_catch (i := 2) (j := 2) (name := x_is) (hpc := 11) (ls' := [(0, .ref 0), (1, .ref 141)]) [] [] (0, 8, 11, 15) rfl (fun z hz => absurd hz List.not_mem_nil) ⟨by decide, by decide⟩ (by decide) w_607 w_800 rfl dL_undo_11 rfl (by decide) rfl rfl ?_
    refine k_iconst (v := 1) dL_undo_12 rfl ?_
    exact k_reti dL_undo_13 rfl rfl (by decide)
set_option maxHeartbeats 4000000 in
theorem cw_restore (hsh : k_Main sh) (hsh' : k_Main sh') (hC : k_C E mX7_restore D [.ref 0] sh σ k1 n1 (k_rx r sh' τ)) (hr : (∃ x : Int32, r = .inl (some (.int x))) ∨ r = .inr x_is) : k_C E mL_restore (D + 1) [.ref 0, .ref 141] sh σ k1 n1 (k_ret (some (.int (iI (w_code [x_is] r)))) sh' (w_out r τ)) := by
  refine k_C_ofW (ls0 := [(0, .ref 0), (1, .ref 141)]) (a0 := (0, 8, 11, 15)) (t0 := []) rfl pnL (fun v hv => k_cat1 rfl hv) (Nat.le_of_ble_eq_true rfl) rfl ?_
  refine k_aload_n dL_restore_0 1 rfl rfl (by decide) ?_
  refine k_iconst (v := 0) dL_restore_1 rfl ?_
  refine k_aload_n dL_restore_2 0 rfl rfl (by decide) ?_
  rcases hr with ⟨x, rfl⟩ | rfl
  · refine k_callV (k1 := k1) (n1 := n1) (k := 0) (n := 0) (st := [.int (iI (0)), .ref 141]) (as := []) dL_restore_3 oX7_restore rfl w_1718 w_1719 w_1720 (Nat.le_refl _) rfl (Nat.le_of_ble_eq_true rfl) (by decide) (s_0 hsh) rfl hC (Or.inl (k_okl_of (k_Main_len hsh) rfl rfl)) (fun Xn s2 σ2 h => by cases h.1) (fun v s2 σ2 h => ?_)
    obtain ⟨h1, rfl, rfl⟩ := h
    cases h1
    refine k_eqst (st' := [.int (iI x.toInt), .int (iI 0), .ref 141]) (by rw [← iI_of]; rfl) ?_
    refine k_i2l dL_restore_6 (k_toR x) ?_
    refine k_last dL_restore_7 (by decide) (s_141 hsh') (by decide) (by decide) (by decide) ?_
    refine k_goto (tgt := 14) dL_restore_8 rfl ?_
    refine k_iconst (v := 0) dL_restore_14 rfl ?_
    exact k_reti dL_restore_15 rfl rfl rfl
  · refine k_callV (k1 := k1) (n1 := n1) (k := 0) (n := 0) (st := [.int (iI (0)), .ref 141]) (as := []) dL_restore_3 oX7_restore rfl w_1718 w_1719 w_1720 (Nat.le_refl _) rfl (Nat.le_of_ble_eq_true rfl) (by decide) (s_0 hsh) rfl hC (Or.inl (k_okl_of (k_Main_len hsh) rfl rfl)) (fun Xn s2 σ2 h => ?_) (fun v s2 σ2 h => by cases h.1)
    obtain ⟨h1, rfl, rfl⟩ := h
    cases h1
    refine k_catch (i := 2) (j := 2) (name := x_is) (hpc := 11) (ls' := [(0, .ref 0), (1, .ref 141)]) [] [] (0, 8, 11, 15) rfl (fun z hz => absurd hz List.not_mem_nil) ⟨by decide, by decide⟩ (by decide) w_607 w_800 rfl dL_restore_11 rfl (by decide) rfl rfl ?_
    refine k_iconst (v := 1) dL_restore_12 rfl ?_
    exact k_reti dL_restore_13 rfl rfl (by decide)
end K_W1
