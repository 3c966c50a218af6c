/-! ===== THE LAW: its wrappers ===== -/
section K_W1
variable {E : k_E} {M : k_M} {dp pc k n k1 n1 D : Nat} {ls : List (Nat × Value)} {st : List Value} {sh sh' : List k_Sh} {σ τ : Nat → Nat → Int} {Q : k_Q} {r : Option Value ⊕ String}
theorem pnL : plainName RL = true := by decide +kernel
theorem k_Main_len (h : k_Main sh) : 123 ≤ sh.length := (List.getElem?_eq_some_iff.mp (h 122 _ rfl)).1
def k_rf : Value → Bool
  | .ref k => Nat.blt k 123
  | _ => true
theorem k_okl_of {N : Nat} (hN : 123 ≤ N) (h1 : (ls.all fun z => k_rf z.2) = true) (h2 : st.all k_rf = true) : k_okl N ls st := by
  have h : ∀ v : Value, k_rf v = true → k_okv N v := fun v hv => by
    cases v with
    | ref k =>
      have := Nat.le_of_ble_eq_true hv
      exact Or.inl (show k < N from Nat.lt_of_lt_of_le (Nat.lt_of_succ_le (Nat.le_trans this (Nat.le_refl 123))) hN)
    | _ => trivial
  exact ⟨fun z hz => h _ (List.all_eq_true.mp h1 z hz), fun v hv => h v (List.all_eq_true.mp h2 v hv)⟩
/-- caught, and put away into the local j, a later one -/
theorem k_catchN {X name : String} {j hpc : Nat} {ls' : List (Nat × Value)} (pre suf : List (Nat × Nat × Nat × Nat)) (x : Nat × Nat × Nat × Nat) (hsplit : M.2.2.2.2 = pre ++ x :: suf)
    (hpass : ∀ z ∈ pre, ∃ nm, z.2.2.2 ≠ 0 ∧ Cond.classLink M.1.cls z.2.2.2 nm ∈ k_TBL ∧ X ∈ k_exs ∧ nm ∈ k_exs ∧ X ≠ nm) (hx : x.1 ≤ pc ∧ pc < x.2.1) (h0 : x.2.2.2 ≠ 0) (hlink : Cond.classLink M.1.cls x.2.2.2 name ∈ k_TBL) (hcast : Cond.castable X name ∈ k_NW) (hp : x.2.2.1 = hpc)
    (hd : decode M.2.1 hpc = .ok (.astore j, 2)) (hn : j < M.2.2.1) (h1 : k_one ls = true) (hls : ls.filter (fun q => !(q.1 == j)) = ls') (kk : k_V E M dp (hpc + 2) ls' [] sh σ k n Q) : k_VX E M dp pc ls X sh σ k n Q := by
  intro N0 ad0 p e R s m args below meth c H locs cells slots lsC ad mc ms q9 ce rest C X1 hl hce hcv hcl
  subst hls hp
  have ht := C.2.2.2.2.2.2.2.1
  rw [hsplit] at ht
  refine vx_catch (own := M.1.cls) (name := name) C.2.2.2.2.1 (tableOf pre) ⟨x.1, x.2.1, x.2.2.1, x.2.2.2⟩ (tableOf suf) (by rw [ht]; simp [tableOf]) (fun z hz => ?_) ?_ h0 (C.2.2.2.2.2.1 _ (k_cws hlink)) (k_nwat C hcast) hce hcv hcl ?_
  · obtain ⟨y, hy, rfl⟩ := List.mem_map.mp hz
    obtain ⟨nm, g1, g2, g3, g4, g5⟩ := hpass y hy
    exact Or.inr ⟨g1, nm, C.2.2.2.2.2.1 _ (k_cws g2), va_Nc.moved C.2.2.2.2.2.2.2.2.2.1.1.alike (C.2.2.2.2.2.2.2.2.2.1.2.2.2.2.2.2.2.2.2.2.2.2.1 _ g3 _ g4 g5)⟩
  · simp [covers, hx.1, hx.2]
  · refine lv_astore C.1 C.2.1 hd hl hn rfl (fun ls2 hl2 => kk N0 ad0 p e R s m args below meth c H locs cells slots ls2 ad mc ms C X1 ⟨hl2.1, hl2.2.1, fun q hq => ?_⟩)
    obtain ⟨z, hz, rfl⟩ := List.mem_map.mp hq
    obtain ⟨z1, z2⟩ := List.mem_filter.mp hz
    refine hl2.2.2 _ (List.mem_cons_of_mem _ (List.mem_filter.mpr ⟨List.mem_map.mpr ⟨z, z1, rfl⟩, ?_⟩))
    have hc : (k_cv E ad z.2).category = 1 := (k_cat (k_fmc C) z.2).trans (k_one_at h1 z z1)
    simp only [hc]
    simpa using z2
theorem k_xpass {own X : String} {l : List (Nat × String)} {pre : List (Nat × Nat × Nat × Nat)} (e : pre.map (fun z => z.2.2.2) = l.map (fun q => q.1)) (h : ∀ q ∈ l, q.1 ≠ 0 ∧ Cond.classLink own q.1 q.2 ∈ k_TBL ∧ X ∈ k_exs ∧ q.2 ∈ k_exs ∧ X ≠ q.2) : ∀ z ∈ pre, ∃ nm, z.2.2.2 ≠ 0 ∧ Cond.classLink own z.2.2.2 nm ∈ k_TBL ∧ X ∈ k_exs ∧ nm ∈ k_exs ∧ X ≠ nm := fun z hz => by
  have h2 : z.2.2.2 ∈ l.map (fun q => q.1) := e ▸ List.mem_map.mpr ⟨z, hz, rfl⟩
  obtain ⟨q, hq, e2⟩ := List.mem_map.mp h2
  rw [← e2]
  exact ⟨q.2, h q hq⟩
/-- the place of what is thrown among those that the call names -/
def w_code : List String → Option Value ⊕ String → Int
  | _, .inl _ => 0
  | [], .inr _ => 1
  | a :: l, .inr X => if X = a then 1 else 1 + w_code l (.inr X)

/-- what a wrapper answers: the value, or -1001, -1002 .. by the place of what is thrown -/
def w_val (l : List String) : Option Value ⊕ String → Int
  | .inl (some (.int x)) => x.toInt
  | r => -1000 - w_code l r
def w_valB (l : List String) : Option Value ⊕ String → Int
  | .inl (some (.int x)) => if x.toInt = 0 then 0 else 1
  | r => -1000 - w_code l r
theorem k_toR (x : Int32) : k_r x.toInt := k_r_toInt x
set_option maxHeartbeats 4000000 in
theorem cw_addSubject (hsh : k_Main sh) (hsh' : k_Main sh') {p0 : Int} (hC : k_C E mX7_addSubject D [.ref 0, .int (iI (p0))] sh σ k1 n1 (k_rx r sh' τ)) (hr : (∃ x : Int32, r = .inl (some (.int x))) ∨ r = .inr x_ia ∨ r = .inr x_is) : k_C E mL_addSubject (D + 1) [.ref 0, .int (iI (p0))] sh σ k1 n1 (k_ret (some (.int (iI (w_val [x_ia, x_is] r)))) sh' τ) := by
  refine k_C_ofW (ls0 := [(0, .ref 0), (1, .int (iI (p0)))]) (a0 := (0, 5, 6, 20)) (t0 := [(0, 5, 11, 22)]) rfl pnL (fun v hv => k_cat1 rfl hv) (Nat.le_of_ble_eq_true rfl) rfl ?_
  refine k_aload_n dL_addSubject_0 0 rfl rfl (by decide) ?_
  refine k_iload_n dL_addSubject_1 1 rfl rfl ?_
  rcases hr with ⟨x, rfl⟩ | rfl | rfl
  · refine k_callV (k1 := k1) (n1 := n1) (k := 0) (n := 0) (st := []) (as := [.int (iI (p0))]) dL_addSubject_2 oX7_addSubject rfl w_p414 w_609 w_610 (Nat.le_refl _) rfl (Nat.le_of_ble_eq_true rfl) (by decide) (s_0 hsh) rfl hC (Or.inl (k_okl_of (k_Main_len hsh) rfl rfl)) (fun Xn s2 σ2 h => by cases h.1) (fun v s2 σ2 h => ?_)
    obtain ⟨h1, rfl, rfl⟩ := h
    cases h1
    refine k_eqst (st' := [.int (iI x.toInt)]) (by rw [← iI_of]; rfl) ?_
    exact k_reti dL_addSubject_5 rfl rfl rfl
  · refine k_callV (k1 := k1) (n1 := n1) (k := 0) (n := 0) (st := []) (as := [.int (iI (p0))]) dL_addSubject_2 oX7_addSubject rfl w_p414 w_609 w_610 (Nat.le_refl _) rfl (Nat.le_of_ble_eq_true rfl) (by decide) (s_0 hsh) rfl hC (Or.inl (k_okl_of (k_Main_len hsh) rfl rfl)) (fun Xn s2 σ2 h => ?_) (fun v s2 σ2 h => by cases h.1)
    obtain ⟨h1, rfl, rfl⟩ := h
    cases h1
    refine k_catch (i := 2) (j := 2) (name := x_ia) (hpc := 6) (ls' := [(0, .ref 0), (1, .int (iI (p0)))]) [] [(0, 5, 11, 22)] (0, 5, 6, 20) rfl (fun z hz => absurd hz List.not_mem_nil) ⟨by decide, by decide⟩ (by decide) w_p412 w_784 rfl dL_addSubject_6 rfl (by decide) rfl rfl ?_
    refine k_sipush (v := (-1001)) dL_addSubject_7 (by decide) ?_
    exact k_reti dL_addSubject_10 rfl rfl (by decide)
  · refine k_callV (k1 := k1) (n1 := n1) (k := 0) (n := 0) (st := []) (as := [.int (iI (p0))]) dL_addSubject_2 oX7_addSubject rfl w_p414 w_609 w_610 (Nat.le_refl _) rfl (Nat.le_of_ble_eq_true rfl) (by decide) (s_0 hsh) rfl hC (Or.inl (k_okl_of (k_Main_len hsh) rfl rfl)) (fun Xn s2 σ2 h => ?_) (fun v s2 σ2 h => by cases h.1)
    obtain ⟨h1, rfl, rfl⟩ := h
    cases h1
    refine k_catch (i := 2) (j := 2) (name := x_is) (hpc := 11) (ls' := [(0, .ref 0), (1, .int (iI (p0)))]) [(0, 5, 6, 20)] [] (0, 5, 11, 22) rfl (k_xpass (l := [(20, x_ia)]) rfl (fun q hq => by
      simp only [List.mem_cons, List.not_mem_nil, or_false] at hq
      rcases hq with rfl
      · exact ⟨by decide, w_p412, by decide +kernel, by decide +kernel, by decide +kernel⟩
      )) ⟨by decide, by decide⟩ (by decide) w_p413 w_800 rfl dL_addSubject_11 rfl (by decide) rfl rfl ?_
    refine k_sipush (v := (-1002)) dL_addSubject_12 (by decide) ?_
    exact k_reti dL_addSubject_15 rfl rfl (by decide)
set_option maxHeartbeats 4000000 in
theorem cw_sizeOf (hsh : k_Main sh) (hsh' : k_Main sh') {p0 : Int} (hC : k_C E mX7_sizeOf D [.ref 0, .int (iI (p0))] sh σ k1 n1 (k_rx r sh' τ)) (hr : (∃ x : Int32, r = .inl (some (.int x))) ∨ r = .inr x_io) : k_C E mL_sizeOf (D + 1) [.ref 0, .int (iI (p0))] sh σ k1 n1 (k_ret (some (.int (iI (w_val [x_io] r)))) sh' τ) := by
  refine k_C_ofW (ls0 := [(0, .ref 0), (1, .int (iI (p0)))]) (a0 := (0, 5, 6, 27)) (t0 := []) rfl pnL (fun v hv => k_cat1 rfl hv) (Nat.le_of_ble_eq_true rfl) rfl ?_
  refine k_aload_n dL_sizeOf_0 0 rfl rfl (by decide) ?_
  refine k_iload_n dL_sizeOf_1 1 rfl rfl ?_
  rcases hr with ⟨x, rfl⟩ | rfl
  · refine k_callV (k1 := k1) (n1 := n1) (k := 0) (n := 0) (st := []) (as := [.int (iI (p0))]) dL_sizeOf_2 oX7_sizeOf rfl w_p963 w_940 w_941 (Nat.le_refl _) rfl (Nat.le_of_ble_eq_true rfl) (by decide) (s_0 hsh) rfl hC (Or.inl (k_okl_of (k_Main_len hsh) rfl rfl)) (fun Xn s2 σ2 h => by cases h.1) (fun v s2 σ2 h => ?_)
    obtain ⟨h1, rfl, rfl⟩ := h
    cases h1
    refine k_eqst (st' := [.int (iI x.toInt)]) (by rw [← iI_of]; rfl) ?_
    exact k_reti dL_sizeOf_5 rfl rfl rfl
  · refine k_callV (k1 := k1) (n1 := n1) (k := 0) (n := 0) (st := []) (as := [.int (iI (p0))]) dL_sizeOf_2 oX7_sizeOf rfl w_p963 w_940 w_941 (Nat.le_refl _) rfl (Nat.le_of_ble_eq_true rfl) (by decide) (s_0 hsh) rfl hC (Or.inl (k_okl_of (k_Main_len hsh) rfl rfl)) (fun Xn s2 σ2 h => ?_) (fun v s2 σ2 h => by cases h.1)
    obtain ⟨h1, rfl, rfl⟩ := h
    cases h1
    refine k_catch (i := 2) (j := 2) (name := x_io) (hpc := 6) (ls' := [(0, .ref 0), (1, .int (iI (p0)))]) [] [] (0, 5, 6, 27) rfl (fun z hz => absurd hz List.not_mem_nil) ⟨by decide, by decide⟩ (by decide) w_p794 w_712 rfl dL_sizeOf_6 rfl (by decide) rfl rfl ?_
    refine k_sipush (v := (-1001)) dL_sizeOf_7 (by decide) ?_
    exact k_reti dL_sizeOf_10 rfl rfl (by decide)
set_option maxHeartbeats 4000000 in
theorem cw_setBlockCount (hsh : k_Main sh) (hsh' : k_Main sh') {p0 : Int} (hC : k_C E mX7_setBlockCount D [.ref 0, .int (iI (p0))] sh σ k1 n1 (k_rx r sh' τ)) (hr : (∃ x : Int32, r = .inl (some (.int x))) ∨ r = .inr x_ia ∨ r = .inr x_is) : k_C E mL_setBlockCount (D + 1) [.ref 0, .int (iI (p0))] sh σ k1 n1 (k_ret (some (.int (iI (w_val [x_ia, x_is] r)))) sh' τ) := by
  refine k_C_ofW (ls0 := [(0, .ref 0), (1, .int (iI (p0)))]) (a0 := (0, 5, 6, 20)) (t0 := [(0, 5, 11, 22)]) rfl pnL (fun v hv => k_cat1 rfl hv) (Nat.le_of_ble_eq_true rfl) rfl ?_
  refine k_aload_n dL_setBlockCount_0 0 rfl rfl (by decide) ?_
  refine k_iload_n dL_setBlockCount_1 1 rfl rfl ?_
  rcases hr with ⟨x, rfl⟩ | rfl | rfl
  · refine k_callV (k1 := k1) (n1 := n1) (k := 0) (n := 0) (st := []) (as := [.int (iI (p0))]) dL_setBlockCount_2 oX7_setBlockCount rfl w_p787 w_952 w_953 (Nat.le_refl _) rfl (Nat.le_of_ble_eq_true rfl) (by decide) (s_0 hsh) rfl hC (Or.inl (k_okl_of (k_Main_len hsh) rfl rfl)) (fun Xn s2 σ2 h => by cases h.1) (fun v s2 σ2 h => ?_)
    obtain ⟨h1, rfl, rfl⟩ := h
    cases h1
    refine k_eqst (st' := [.int (iI x.toInt)]) (by rw [← iI_of]; rfl) ?_
    exact k_reti dL_setBlockCount_5 rfl rfl rfl
  · refine k_callV (k1 := k1) (n1 := n1) (k := 0) (n := 0) (st := []) (as := [.int (iI (p0))]) dL_setBlockCount_2 oX7_setBlockCount rfl w_p787 w_952 w_953 (Nat.le_refl _) rfl (Nat.le_of_ble_eq_true rfl) (by decide) (s_0 hsh) rfl hC (Or.inl (k_okl_of (k_Main_len hsh) rfl rfl)) (fun Xn s2 σ2 h => ?_) (fun v s2 σ2 h => by cases h.1)
    obtain ⟨h1, rfl, rfl⟩ := h
    cases h1
    refine k_catch (i := 2) (j := 2) (name := x_ia) (hpc := 6) (ls' := [(0, .ref 0), (1, .int (iI (p0)))]) [] [(0, 5, 11, 22)] (0, 5, 6, 20) rfl (fun z hz => absurd hz List.not_mem_nil) ⟨by decide, by decide⟩ (by decide) w_p412 w_784 rfl dL_setBlockCount_6 rfl (by decide) rfl rfl ?_
    refine k_sipush (v := (-1001)) dL_setBlockCount_7 (by decide) ?_
    exact k_reti dL_setBlockCount_10 rfl rfl (by decide)
  · refine k_callV (k1 := k1) (n1 := n1) (k := 0) (n := 0) (st := []) (as := [.int (iI (p0))]) dL_setBlockCount_2 oX7_setBlockCount rfl w_p787 w_952 w_953 (Nat.le_refl _) rfl (Nat.le_of_ble_eq_true rfl) (by decide) (s_0 hsh) rfl hC (Or.inl (k_okl_of (k_Main_len hsh) rfl rfl)) (fun Xn s2 σ2 h => ?_) (fun v s2 σ2 h => by cases h.1)
    obtain ⟨h1, rfl, rfl⟩ := h
    cases h1
    refine k_catch (i := 2) (j := 2) (name := x_is) (hpc := 11) (ls' := [(0, .ref 0), (1, .int (iI (p0)))]) [(0, 5, 6, 20)] [] (0, 5, 11, 22) rfl (k_xpass (l := [(20, x_ia)]) rfl (fun q hq => by
      simp only [List.mem_cons, List.not_mem_nil, or_false] at hq
      rcases hq with rfl
      · exact ⟨by decide, w_p412, by decide +kernel, by decide +kernel, by decide +kernel⟩
      )) ⟨by decide, by decide⟩ (by decide) w_p413 w_800 rfl dL_setBlockCount_11 rfl (by decide) rfl rfl ?_
    refine k_sipush (v := (-1002)) dL_setBlockCount_12 (by decide) ?_
    exact k_reti dL_setBlockCount_15 rfl rfl (by decide)
set_option maxHeartbeats 4000000 in
theorem cw_openClass (hsh : k_Main sh) (hsh' : k_Main sh') {p0 p1 : Int} (hC : k_C E mX7_openClass D [.ref 0, .int (iI (p0)), .int (iI (p1))] sh σ k1 n1 (k_rx r sh' τ)) (hr : (∃ x : Int32, r = .inl (some (.int x))) ∨ r = .inr x_io ∨ r = .inr x_is) : k_C E mL_openClass (D + 1) [.ref 0, .int (iI (p0)), .int (iI (p1))] sh σ k1 n1 (k_ret (some (.int (iI (w_val [x_io, x_is] r)))) sh' τ) := by
  refine k_C_ofW (ls0 := [(0, .ref 0), (1, .int (iI (p0))), (2, .int (iI (p1)))]) (a0 := (0, 6, 7, 27)) (t0 := [(0, 6, 12, 22)]) rfl pnL (fun v hv => k_cat1 rfl hv) (Nat.le_of_ble_eq_true rfl) rfl ?_
  refine k_aload_n dL_openClass_0 0 rfl rfl (by decide) ?_
  refine k_iload_n dL_openClass_1 1 rfl rfl ?_
  refine k_iload_n dL_openClass_2 2 rfl rfl ?_
  rcases hr with ⟨x, rfl⟩ | rfl | rfl
  · refine k_callV (k1 := k1) (n1 := n1) (k := 0) (n := 0) (st := []) (as := [.int (iI (p0)), .int (iI (p1))]) dL_openClass_3 oX7_openClass rfl w_p815 w_959 w_960 (Nat.le_refl _) rfl (Nat.le_of_ble_eq_true rfl) (by decide) (s_0 hsh) rfl hC (Or.inl (k_okl_of (k_Main_len hsh) rfl rfl)) (fun Xn s2 σ2 h => by cases h.1) (fun v s2 σ2 h => ?_)
    obtain ⟨h1, rfl, rfl⟩ := h
    cases h1
    refine k_eqst (st' := [.int (iI x.toInt)]) (by rw [← iI_of]; rfl) ?_
    exact k_reti dL_openClass_6 rfl rfl rfl
  · refine k_callV (k1 := k1) (n1 := n1) (k := 0) (n := 0) (st := []) (as := [.int (iI (p0)), .int (iI (p1))]) dL_openClass_3 oX7_openClass rfl w_p815 w_959 w_960 (Nat.le_refl _) rfl (Nat.le_of_ble_eq_true rfl) (by decide) (s_0 hsh) rfl hC (Or.inl (k_okl_of (k_Main_len hsh) rfl rfl)) (fun Xn s2 σ2 h => ?_) (fun v s2 σ2 h => by cases h.1)
    obtain ⟨h1, rfl, rfl⟩ := h
    cases h1
    refine k_catch (i := 3) (j := 3) (name := x_io) (hpc := 7) (ls' := [(0, .ref 0), (1, .int (iI (p0))), (2, .int (iI (p1)))]) [] [(0, 6, 12, 22)] (0, 6, 7, 27) rfl (fun z hz => absurd hz List.not_mem_nil) ⟨by decide, by decide⟩ (by decide) w_p794 w_712 rfl dL_openClass_7 rfl (by decide) rfl rfl ?_
    refine k_sipush (v := (-1001)) dL_openClass_8 (by decide) ?_
    exact k_reti dL_openClass_11 rfl rfl (by decide)
  · refine k_callV (k1 := k1) (n1 := n1) (k := 0) (n := 0) (st := []) (as := [.int (iI (p0)), .int (iI (p1))]) dL_openClass_3 oX7_openClass rfl w_p815 w_959 w_960 (Nat.le_refl _) rfl (Nat.le_of_ble_eq_true rfl) (by decide) (s_0 hsh) rfl hC (Or.inl (k_okl_of (k_Main_len hsh) rfl rfl)) (fun Xn s2 σ2 h => ?_) (fun v s2 σ2 h => by cases h.1)
    obtain ⟨h1, rfl, rfl⟩ := h
    cases h1
    refine k_catch (i := 3) (j := 3) (name := x_is) (hpc := 12) (ls' := [(0, .ref 0), (1, .int (iI (p0))), (2, .int (iI (p1)))]) [(0, 6, 7, 27)] [] (0, 6, 12, 22) rfl (k_xpass (l := [(27, x_io)]) rfl (fun q hq => by
      simp only [List.mem_cons, List.not_mem_nil, or_false] at hq
      rcases hq with rfl
      · exact ⟨by decide, w_p794, by decide +kernel, by decide +kernel, by decide +kernel⟩
      )) ⟨by decide, by decide⟩ (by decide) w_p413 w_800 rfl dL_openClass_12 rfl (by decide) rfl rfl ?_
    refine k_sipush (v := (-1002)) dL_openClass_13 (by decide) ?_
    exact k_reti dL_openClass_16 rfl rfl (by decide)
set_option maxHeartbeats 4000000 in
theorem cw_isOpen (hsh : k_Main sh) (hsh' : k_Main sh') {p0 p1 : Int} (hC : k_C E mX7_isOpen D [.ref 0, .int (iI (p0)), .int (iI (p1))] sh σ k1 n1 (k_rx r sh' τ)) (hr : (∃ x : Int32, r = .inl (some (.int x))) ∨ r = .inr x_io) : k_C E mL_isOpen (D + 1) [.ref 0, .int (iI (p0)), .int (iI (p1))] sh σ k1 n1 (k_ret (some (.int (iI (w_valB [x_io] r)))) sh' τ) := by
  refine k_C_ofW (ls0 := [(0, .ref 0), (1, .int (iI (p0))), (2, .int (iI (p1)))]) (a0 := (0, 14, 15, 27)) (t0 := []) rfl pnL (fun v hv => k_cat1 rfl hv) (Nat.le_of_ble_eq_true rfl) rfl ?_
  refine k_aload_n dL_isOpen_0 0 rfl rfl (by decide) ?_
  refine k_iload_n dL_isOpen_1 1 rfl rfl ?_
  refine k_iload_n dL_isOpen_2 2 rfl rfl ?_
  rcases hr with ⟨x, rfl⟩ | rfl
  · refine k_callV (k1 := k1) (n1 := n1) (k := 0) (n := 0) (st := []) (as := [.int (iI (p0)), .int (iI (p1))]) dL_isOpen_3 oX7_isOpen rfl w_p971 w_973 w_974 (Nat.le_refl _) rfl (Nat.le_of_ble_eq_true rfl) (by decide) (s_0 hsh) rfl hC (Or.inl (k_okl_of (k_Main_len hsh) rfl rfl)) (fun Xn s2 σ2 h => by cases h.1) (fun v s2 σ2 h => ?_)
    obtain ⟨h1, rfl, rfl⟩ := h
    cases h1
    refine k_eqst (st' := [.int (iI x.toInt)]) (by rw [← iI_of]; rfl) ?_
    refine k_if_eq (tgt := 13) dL_isOpen_6 rfl (k_toR x) (fun h => ?_) (fun h => ?_)
    · refine k_iconst (v := 0) dL_isOpen_13 rfl ?_
      exact k_reti dL_isOpen_14 rfl rfl (by show (0 : Int) = (if x.toInt = 0 then 0 else 1); rw [if_pos h])
    · refine k_iconst (v := 1) dL_isOpen_9 rfl ?_
      refine k_goto (tgt := 14) dL_isOpen_10 rfl ?_
      exact k_reti dL_isOpen_14 rfl rfl (by show (1 : Int) = (if x.toInt = 0 then 0 else 1); rw [if_neg h])
  · refine k_callV (k1 := k1) (n1 := n1) (k := 0) (n := 0) (st := []) (as := [.int (iI (p0)), .int (iI (p1))]) dL_isOpen_3 oX7_isOpen rfl w_p971 w_973 w_974 (Nat.le_refl _) rfl (Nat.le_of_ble_eq_true rfl) (by decide) (s_0 hsh) rfl hC (Or.inl (k_okl_of (k_Main_len hsh) rfl rfl)) (fun Xn s2 σ2 h => ?_) (fun v s2 σ2 h => by cases h.1)
    obtain ⟨h1, rfl, rfl⟩ := h
    cases h1
    refine k_catch (i := 3) (j := 3) (name := x_io) (hpc := 15) (ls' := [(0, .ref 0), (1, .int (iI (p0))), (2, .int (iI (p1)))]) [] [] (0, 14, 15, 27) rfl (fun z hz => absurd hz List.not_mem_nil) ⟨by decide, by decide⟩ (by decide) w_p794 w_712 rfl dL_isOpen_15 rfl (by decide) rfl rfl ?_
    refine k_sipush (v := (-1001)) dL_isOpen_16 (by decide) ?_
    exact k_reti dL_isOpen_19 rfl rfl (by decide)
set_option maxHeartbeats 4000000 in
theorem cw_pupilsInClass (hsh : k_Main sh) (hsh' : k_Main sh') {p0 p1 : Int} (hC : k_C E mX7_pupilsInClass D [.ref 0, .int (iI (p0)), .int (iI (p1))] sh σ k1 n1 (k_rx r sh' τ)) (hr : (∃ x : Int32, r = .inl (some (.int x))) ∨ r = .inr x_io) : k_C E mL_pupilsInClass (D + 1) [.ref 0, .int (iI (p0)), .int (iI (p1))] sh σ k1 n1 (k_ret (some (.int (iI (w_val [x_io] r)))) sh' τ) := by
  refine k_C_ofW (ls0 := [(0, .ref 0), (1, .int (iI (p0))), (2, .int (iI (p1)))]) (a0 := (0, 6, 7, 27)) (t0 := []) rfl pnL (fun v hv => k_cat1 rfl hv) (Nat.le_of_ble_eq_true rfl) rfl ?_
  refine k_aload_n dL_pupilsInClass_0 0 rfl rfl (by decide) ?_
  refine k_iload_n dL_pupilsInClass_1 1 rfl rfl ?_
  refine k_iload_n dL_pupilsInClass_2 2 rfl rfl ?_
  rcases hr with ⟨x, rfl⟩ | rfl
  · refine k_callV (k1 := k1) (n1 := n1) (k := 0) (n := 0) (st := []) (as := [.int (iI (p0)), .int (iI (p1))]) dL_pupilsInClass_3 oX7_pupilsInClass rfl w_p956 w_982 w_983 (Nat.le_refl _) rfl (Nat.le_of_ble_eq_true rfl) (by decide) (s_0 hsh) rfl hC (Or.inl (k_okl_of (k_Main_len hsh) rfl rfl)) (fun Xn s2 σ2 h => by cases h.1) (fun v s2 σ2 h => ?_)
    obtain ⟨h1, rfl, rfl⟩ := h
    cases h1
    refine k_eqst (st' := [.int (iI x.toInt)]) (by rw [← iI_of]; rfl) ?_
    exact k_reti dL_pupilsInClass_6 rfl rfl rfl
  · refine k_callV (k1 := k1) (n1 := n1) (k := 0) (n := 0) (st := []) (as := [.int (iI (p0)), .int (iI (p1))]) dL_pupilsInClass_3 oX7_pupilsInClass rfl w_p956 w_982 w_983 (Nat.le_refl _) rfl (Nat.le_of_ble_eq_true rfl) (by decide) (s_0 hsh) rfl hC (Or.inl (k_okl_of (k_Main_len hsh) rfl rfl)) (fun Xn s2 σ2 h => ?_) (fun v s2 σ2 h => by cases h.1)
    obtain ⟨h1, rfl, rfl⟩ := h
    cases h1
    refine k_catch (i := 3) (j := 3) (name := x_io) (hpc := 7) (ls' := [(0, .ref 0), (1, .int (iI (p0))), (2, .int (iI (p1)))]) [] [] (0, 6, 7, 27) rfl (fun z hz => absurd hz List.not_mem_nil) ⟨by decide, by decide⟩ (by decide) w_p794 w_712 rfl dL_pupilsInClass_7 rfl (by decide) rfl rfl ?_
    refine k_sipush (v := (-1001)) dL_pupilsInClass_8 (by decide) ?_
    exact k_reti dL_pupilsInClass_11 rfl rfl (by decide)
set_option maxHeartbeats 4000000 in
theorem cw_pupilInClass (hsh : k_Main sh) (hsh' : k_Main sh') {p0 p1 p2 : Int} (hC : k_C E mX7_pupilInClass D [.ref 0, .int (iI (p0)), .int (iI (p1)), .int (iI (p2))] sh σ k1 n1 (k_rx r sh' τ)) (hr : (∃ x : Int32, r = .inl (some (.int x))) ∨ r = .inr x_io ∨ r = .inr x_ns) : k_C E mL_pupilInClass (D + 1) [.ref 0, .int (iI (p0)), .int (iI (p1)), .int (iI (p2))] sh σ k1 n1 (k_ret (some (.int (iI (w_val [x_io, x_ns] r)))) sh' τ) := by
  refine k_C_ofW (ls0 := [(0, .ref 0), (1, .int (iI (p0))), (2, .int (iI (p1))), (3, .int (iI (p2)))]) (a0 := (0, 7, 8, 27)) (t0 := [(0, 7, 14, 47)]) rfl pnL (fun v hv => k_cat1 rfl hv) (Nat.le_of_ble_eq_true rfl) rfl ?_
  refine k_aload_n dL_pupilInClass_0 0 rfl rfl (by decide) ?_
  refine k_iload_n dL_pupilInClass_1 1 rfl rfl ?_
  refine k_iload_n dL_pupilInClass_2 2 rfl rfl ?_
  refine k_iload_n dL_pupilInClass_3 3 rfl rfl ?_
  rcases hr with ⟨x, rfl⟩ | rfl | rfl
  · refine k_callV (k1 := k1) (n1 := n1) (k := 0) (n := 0) (st := []) (as := [.int (iI (p0)), .int (iI (p1)), .int (iI (p2))]) dL_pupilInClass_4 oX7_pupilInClass rfl w_p926 w_992 w_993 (Nat.le_refl _) rfl (Nat.le_of_ble_eq_true rfl) (by decide) (s_0 hsh) rfl hC (Or.inl (k_okl_of (k_Main_len hsh) rfl rfl)) (fun Xn s2 σ2 h => by cases h.1) (fun v s2 σ2 h => ?_)
    obtain ⟨h1, rfl, rfl⟩ := h
    cases h1
    refine k_eqst (st' := [.int (iI x.toInt)]) (by rw [← iI_of]; rfl) ?_
    exact k_reti dL_pupilInClass_7 rfl rfl rfl
  · refine k_callV (k1 := k1) (n1 := n1) (k := 0) (n := 0) (st := []) (as := [.int (iI (p0)), .int (iI (p1)), .int (iI (p2))]) dL_pupilInClass_4 oX7_pupilInClass rfl w_p926 w_992 w_993 (Nat.le_refl _) rfl (Nat.le_of_ble_eq_true rfl) (by decide) (s_0 hsh) rfl hC (Or.inl (k_okl_of (k_Main_len hsh) rfl rfl)) (fun Xn s2 σ2 h => ?_) (fun v s2 σ2 h => by cases h.1)
    obtain ⟨h1, rfl, rfl⟩ := h
    cases h1
    refine k_catchN (j := 4) (name := x_io) (hpc := 8) (ls' := [(0, .ref 0), (1, .int (iI (p0))), (2, .int (iI (p1))), (3, .int (iI (p2)))]) [] [(0, 7, 14, 47)] (0, 7, 8, 27) rfl (fun z hz => absurd hz List.not_mem_nil) ⟨by decide, by decide⟩ (by decide) w_p794 w_712 rfl dL_pupilInClass_8 (by decide) rfl rfl ?_
    refine k_sipush (v := (-1001)) dL_pupilInClass_10 (by decide) ?_
    exact k_reti dL_pupilInClass_13 rfl rfl (by decide)
  · refine k_callV (k1 := k1) (n1 := n1) (k := 0) (n := 0) (st := []) (as := [.int (iI (p0)), .int (iI (p1)), .int (iI (p2))]) dL_pupilInClass_4 oX7_pupilInClass rfl w_p926 w_992 w_993 (Nat.le_refl _) rfl (Nat.le_of_ble_eq_true rfl) (by decide) (s_0 hsh) rfl hC (Or.inl (k_okl_of (k_Main_len hsh) rfl rfl)) (fun Xn s2 σ2 h => ?_) (fun v s2 σ2 h => by cases h.1)
    obtain ⟨h1, rfl, rfl⟩ := h
    cases h1
    refine k_catchN (j := 4) (name := x_ns) (hpc := 14) (ls' := [(0, .ref 0), (1, .int (iI (p0))), (2, .int (iI (p1))), (3, .int (iI (p2)))]) [(0, 7, 8, 27)] [] (0, 7, 14, 47) rfl (k_xpass (l := [(27, x_io)]) rfl (fun q hq => by
      simp only [List.mem_cons, List.not_mem_nil, or_false] at hq
      rcases hq with rfl
      · exact ⟨by decide, w_p794, by decide +kernel, by decide +kernel, by decide +kernel⟩
      )) ⟨by decide, by decide⟩ (by decide) w_p925 w_1000 rfl dL_pupilInClass_14 (by decide) rfl rfl ?_
    refine k_sipush (v := (-1002)) dL_pupilInClass_16 (by decide) ?_
    exact k_reti dL_pupilInClass_19 rfl rfl (by decide)
set_option maxHeartbeats 4000000 in
theorem cw_addPupil (hsh : k_Main sh) (hsh' : k_Main sh') (hC : k_C E mX7_addPupil D [.ref 0] sh σ k1 n1 (k_rx r sh' τ)) (hr : (∃ x : Int32, r = .inl (some (.int x))) ∨ r = .inr x_is) : k_C E mL_addPupil (D + 1) [.ref 0] sh σ k1 n1 (k_ret (some (.int (iI (w_val [x_is] r)))) sh' τ) := by
  refine k_C_ofW (ls0 := [(0, .ref 0)]) (a0 := (0, 4, 5, 22)) (t0 := []) rfl pnL (fun v hv => k_cat1 rfl hv) (Nat.le_of_ble_eq_true rfl) rfl ?_
  refine k_aload_n dL_addPupil_0 0 rfl rfl (by decide) ?_
  rcases hr with ⟨x, rfl⟩ | rfl
  · refine k_callV (k1 := k1) (n1 := n1) (k := 0) (n := 0) (st := []) (as := []) dL_addPupil_1 oX7_addPupil rfl w_p822 w_1019 w_1020 (Nat.le_refl _) rfl (Nat.le_of_ble_eq_true rfl) (by decide) (s_0 hsh) rfl hC (Or.inl (k_okl_of (k_Main_len hsh) rfl rfl)) (fun Xn s2 σ2 h => by cases h.1) (fun v s2 σ2 h => ?_)
    obtain ⟨h1, rfl, rfl⟩ := h
    cases h1
    refine k_eqst (st' := [.int (iI x.toInt)]) (by rw [← iI_of]; rfl) ?_
    exact k_reti dL_addPupil_4 rfl rfl rfl
  · refine k_callV (k1 := k1) (n1 := n1) (k := 0) (n := 0) (st := []) (as := []) dL_addPupil_1 oX7_addPupil rfl w_p822 w_1019 w_1020 (Nat.le_refl _) rfl (Nat.le_of_ble_eq_true rfl) (by decide) (s_0 hsh) rfl hC (Or.inl (k_okl_of (k_Main_len hsh) rfl rfl)) (fun Xn s2 σ2 h => ?_) (fun v s2 σ2 h => by cases h.1)
    obtain ⟨h1, rfl, rfl⟩ := h
    cases h1
    refine k_catch (i := 1) (j := 1) (name := x_is) (hpc := 5) (ls' := [(0, .ref 0)]) [] [] (0, 4, 5, 22) rfl (fun z hz => absurd hz List.not_mem_nil) ⟨by decide, by decide⟩ (by decide) w_p413 w_800 rfl dL_addPupil_5 rfl (by decide) rfl rfl ?_
    refine k_sipush (v := (-1001)) dL_addPupil_6 (by decide) ?_
    exact k_reti dL_addPupil_9 rfl rfl (by decide)
set_option maxHeartbeats 4000000 in
theorem cw_addWish (hsh : k_Main sh) (hsh' : k_Main sh') {p0 p1 : Int} (hC : k_C E mX7_addWish D [.ref 0, .int (iI (p0)), .int (iI (p1))] sh σ k1 n1 (k_rx r sh' τ)) (hr : (∃ x : Int32, r = .inl (some (.int x))) ∨ r = .inr x_io ∨ r = .inr x_is) : k_C E mL_addWish (D + 1) [.ref 0, .int (iI (p0)), .int (iI (p1))] sh σ k1 n1 (k_ret (some (.int (iI (w_val [x_io, x_is] r)))) sh' τ) := by
  refine k_C_ofW (ls0 := [(0, .ref 0), (1, .int (iI (p0))), (2, .int (iI (p1)))]) (a0 := (0, 6, 7, 27)) (t0 := [(0, 6, 12, 22)]) rfl pnL (fun v hv => k_cat1 rfl hv) (Nat.le_of_ble_eq_true rfl) rfl ?_
  refine k_aload_n dL_addWish_0 0 rfl rfl (by decide) ?_
  refine k_iload_n dL_addWish_1 1 rfl rfl ?_
  refine k_iload_n dL_addWish_2 2 rfl rfl ?_
  rcases hr with ⟨x, rfl⟩ | rfl | rfl
  · refine k_callV (k1 := k1) (n1 := n1) (k := 0) (n := 0) (st := []) (as := [.int (iI (p0)), .int (iI (p1))]) dL_addWish_3 oX7_addWish rfl w_p829 w_1026 w_1027 (Nat.le_refl _) rfl (Nat.le_of_ble_eq_true rfl) (by decide) (s_0 hsh) rfl hC (Or.inl (k_okl_of (k_Main_len hsh) rfl rfl)) (fun Xn s2 σ2 h => by cases h.1) (fun v s2 σ2 h => ?_)
    obtain ⟨h1, rfl, rfl⟩ := h
    cases h1
    refine k_eqst (st' := [.int (iI x.toInt)]) (by rw [← iI_of]; rfl) ?_
    exact k_reti dL_addWish_6 rfl rfl rfl
  · refine k_callV (k1 := k1) (n1 := n1) (k := 0) (n := 0) (st := []) (as := [.int (iI (p0)), .int (iI (p1))]) dL_addWish_3 oX7_addWish rfl w_p829 w_1026 w_1027 (Nat.le_refl _) rfl (Nat.le_of_ble_eq_true rfl) (by decide) (s_0 hsh) rfl hC (Or.inl (k_okl_of (k_Main_len hsh) rfl rfl)) (fun Xn s2 σ2 h => ?_) (fun v s2 σ2 h => by cases h.1)
    obtain ⟨h1, rfl, rfl⟩ := h
    cases h1
    refine k_catch (i := 3) (j := 3) (name := x_io) (hpc := 7) (ls' := [(0, .ref 0), (1, .int (iI (p0))), (2, .int (iI (p1)))]) [] [(0, 6, 12, 22)] (0, 6, 7, 27) rfl (fun z hz => absurd hz List.not_mem_nil) ⟨by decide, by decide⟩ (by decide) w_p794 w_712 rfl dL_addWish_7 rfl (by decide) rfl rfl ?_
    refine k_sipush (v := (-1001)) dL_addWish_8 (by decide) ?_
    exact k_reti dL_addWish_11 rfl rfl (by decide)
  · refine k_callV (k1 := k1) (n1 := n1) (k := 0) (n := 0) (st := []) (as := [.int (iI (p0)), .int (iI (p1))]) dL_addWish_3 oX7_addWish rfl w_p829 w_1026 w_1027 (Nat.le_refl _) rfl (Nat.le_of_ble_eq_true rfl) (by decide) (s_0 hsh) rfl hC (Or.inl (k_okl_of (k_Main_len hsh) rfl rfl)) (fun Xn s2 σ2 h => ?_) (fun v s2 σ2 h => by cases h.1)
    obtain ⟨h1, rfl, rfl⟩ := h
    cases h1
    refine k_catch (i := 3) (j := 3) (name := x_is) (hpc := 12) (ls' := [(0, .ref 0), (1, .int (iI (p0))), (2, .int (iI (p1)))]) [(0, 6, 7, 27)] [] (0, 6, 12, 22) rfl (k_xpass (l := [(27, x_io)]) rfl (fun q hq => by
      simp only [List.mem_cons, List.not_mem_nil, or_false] at hq
      rcases hq with rfl
      · exact ⟨by decide, w_p794, by decide +kernel, by decide +kernel, by decide +kernel⟩
      )) ⟨by decide, by decide⟩ (by decide) w_p413 w_800 rfl dL_addWish_12 rfl (by decide) rfl rfl ?_
    refine k_sipush (v := (-1002)) dL_addWish_13 (by decide) ?_
    exact k_reti dL_addWish_16 rfl rfl (by decide)
set_option maxHeartbeats 4000000 in
theorem cw_setReserve (hsh : k_Main sh) (hsh' : k_Main sh') {p0 p1 : Int} (hC : k_C E mX7_setReserve D [.ref 0, .int (iI (p0)), .int (iI (p1))] sh σ k1 n1 (k_rx r sh' τ)) (hr : (∃ x : Int32, r = .inl (some (.int x))) ∨ r = .inr x_io ∨ r = .inr x_is) : k_C E mL_setReserve (D + 1) [.ref 0, .int (iI (p0)), .int (iI (p1))] sh σ k1 n1 (k_ret (some (.int (iI (w_val [x_io, x_is] r)))) sh' τ) := by
  refine k_C_ofW (ls0 := [(0, .ref 0), (1, .int (iI (p0))), (2, .int (iI (p1)))]) (a0 := (0, 6, 7, 27)) (t0 := [(0, 6, 12, 22)]) rfl pnL (fun v hv => k_cat1 rfl hv) (Nat.le_of_ble_eq_true rfl) rfl ?_
  refine k_aload_n dL_setReserve_0 0 rfl rfl (by decide) ?_
  refine k_iload_n dL_setReserve_1 1 rfl rfl ?_
  refine k_iload_n dL_setReserve_2 2 rfl rfl ?_
  rcases hr with ⟨x, rfl⟩ | rfl | rfl
  · refine k_callV (k1 := k1) (n1 := n1) (k := 0) (n := 0) (st := []) (as := [.int (iI (p0)), .int (iI (p1))]) dL_setReserve_3 oX7_setReserve rfl w_p836 w_1033 w_1034 (Nat.le_refl _) rfl (Nat.le_of_ble_eq_true rfl) (by decide) (s_0 hsh) rfl hC (Or.inl (k_okl_of (k_Main_len hsh) rfl rfl)) (fun Xn s2 σ2 h => by cases h.1) (fun v s2 σ2 h => ?_)
    obtain ⟨h1, rfl, rfl⟩ := h
    cases h1
    refine k_eqst (st' := [.int (iI x.toInt)]) (by rw [← iI_of]; rfl) ?_
    exact k_reti dL_setReserve_6 rfl rfl rfl
  · refine k_callV (k1 := k1) (n1 := n1) (k := 0) (n := 0) (st := []) (as := [.int (iI (p0)), .int (iI (p1))]) dL_setReserve_3 oX7_setReserve rfl w_p836 w_1033 w_1034 (Nat.le_refl _) rfl (Nat.le_of_ble_eq_true rfl) (by decide) (s_0 hsh) rfl hC (Or.inl (k_okl_of (k_Main_len hsh) rfl rfl)) (fun Xn s2 σ2 h => ?_) (fun v s2 σ2 h => by cases h.1)
    obtain ⟨h1, rfl, rfl⟩ := h
    cases h1
    refine k_catch (i := 3) (j := 3) (name := x_io) (hpc := 7) (ls' := [(0, .ref 0), (1, .int (iI (p0))), (2, .int (iI (p1)))]) [] [(0, 6, 12, 22)] (0, 6, 7, 27) rfl (fun z hz => absurd hz List.not_mem_nil) ⟨by decide, by decide⟩ (by decide) w_p794 w_712 rfl dL_setReserve_7 rfl (by decide) rfl rfl ?_
    refine k_sipush (v := (-1001)) dL_setReserve_8 (by decide) ?_
    exact k_reti dL_setReserve_11 rfl rfl (by decide)
  · refine k_callV (k1 := k1) (n1 := n1) (k := 0) (n := 0) (st := []) (as := [.int (iI (p0)), .int (iI (p1))]) dL_setReserve_3 oX7_setReserve rfl w_p836 w_1033 w_1034 (Nat.le_refl _) rfl (Nat.le_of_ble_eq_true rfl) (by decide) (s_0 hsh) rfl hC (Or.inl (k_okl_of (k_Main_len hsh) rfl rfl)) (fun Xn s2 σ2 h => ?_) (fun v s2 σ2 h => by cases h.1)
    obtain ⟨h1, rfl, rfl⟩ := h
    cases h1
    refine k_catch (i := 3) (j := 3) (name := x_is) (hpc := 12) (ls' := [(0, .ref 0), (1, .int (iI (p0))), (2, .int (iI (p1)))]) [(0, 6, 7, 27)] [] (0, 6, 12, 22) rfl (k_xpass (l := [(27, x_io)]) rfl (fun q hq => by
      simp only [List.mem_cons, List.not_mem_nil, or_false] at hq
      rcases hq with rfl
      · exact ⟨by decide, w_p794, by decide +kernel, by decide +kernel, by decide +kernel⟩
      )) ⟨by decide, by decide⟩ (by decide) w_p413 w_800 rfl dL_setReserve_12 rfl (by decide) rfl rfl ?_
    refine k_sipush (v := (-1002)) dL_setReserve_13 (by decide) ?_
    exact k_reti dL_setReserve_16 rfl rfl (by decide)
set_option maxHeartbeats 4000000 in
theorem cw_subjectIn (hsh : k_Main sh) (hsh' : k_Main sh') {p0 p1 : Int} (hC : k_C E mX7_subjectIn D [.ref 0, .int (iI (p0)), .int (iI (p1))] sh σ k1 n1 (k_rx r sh' τ)) (hr : (∃ x : Int32, r = .inl (some (.int x))) ∨ r = .inr x_io) : k_C E mL_subjectIn (D + 1) [.ref 0, .int (iI (p0)), .int (iI (p1))] sh σ k1 n1 (k_ret (some (.int (iI (w_val [x_io] r)))) sh' τ) := by
  refine k_C_ofW (ls0 := [(0, .ref 0), (1, .int (iI (p0))), (2, .int (iI (p1)))]) (a0 := (0, 6, 7, 27)) (t0 := []) rfl pnL (fun v hv => k_cat1 rfl hv) (Nat.le_of_ble_eq_true rfl) rfl ?_
  refine k_aload_n dL_subjectIn_0 0 rfl rfl (by decide) ?_
  refine k_iload_n dL_subjectIn_1 1 rfl rfl ?_
  refine k_iload_n dL_subjectIn_2 2 rfl rfl ?_
  rcases hr with ⟨x, rfl⟩ | rfl
  · refine k_callV (k1 := k1) (n1 := n1) (k := 0) (n := 0) (st := []) (as := [.int (iI (p0)), .int (iI (p1))]) dL_subjectIn_3 oX7_subjectIn rfl w_p843 w_1063 w_1064 (Nat.le_refl _) rfl (Nat.le_of_ble_eq_true rfl) (by decide) (s_0 hsh) rfl hC (Or.inl (k_okl_of (k_Main_len hsh) rfl rfl)) (fun Xn s2 σ2 h => by cases h.1) (fun v s2 σ2 h => ?_)
    obtain ⟨h1, rfl, rfl⟩ := h
    cases h1
    refine k_eqst (st' := [.int (iI x.toInt)]) (by rw [← iI_of]; rfl) ?_
    exact k_reti dL_subjectIn_6 rfl rfl rfl
  · refine k_callV (k1 := k1) (n1 := n1) (k := 0) (n := 0) (st := []) (as := [.int (iI (p0)), .int (iI (p1))]) dL_subjectIn_3 oX7_subjectIn rfl w_p843 w_1063 w_1064 (Nat.le_refl _) rfl (Nat.le_of_ble_eq_true rfl) (by decide) (s_0 hsh) rfl hC (Or.inl (k_okl_of (k_Main_len hsh) rfl rfl)) (fun Xn s2 σ2 h => ?_) (fun v s2 σ2 h => by cases h.1)
    obtain ⟨h1, rfl, rfl⟩ := h
    cases h1
    refine k_catch (i := 3) (j := 3) (name := x_io) (hpc := 7) (ls' := [(0, .ref 0), (1, .int (iI (p0))), (2, .int (iI (p1)))]) [] [] (0, 6, 7, 27) rfl (fun z hz => absurd hz List.not_mem_nil) ⟨by decide, by decide⟩ (by decide) w_p794 w_712 rfl dL_subjectIn_7 rfl (by decide) rfl rfl ?_
    refine k_sipush (v := (-1001)) dL_subjectIn_8 (by decide) ?_
    exact k_reti dL_subjectIn_11 rfl rfl (by decide)
set_option maxHeartbeats 4000000 in
theorem cw_blockOf (hsh : k_Main sh) (hsh' : k_Main sh') {p0 p1 : Int} (hC : k_C E mX7_blockOf D [.ref 0, .int (iI (p0)), .int (iI (p1))] sh σ k1 n1 (k_rx r sh' τ)) (hr : (∃ x : Int32, r = .inl (some (.int x))) ∨ r = .inr x_io) : k_C E mL_blockOf (D + 1) [.ref 0, .int (iI (p0)), .int (iI (p1))] sh σ k1 n1 (k_ret (some (.int (iI (w_val [x_io] r)))) sh' τ) := by
  refine k_C_ofW (ls0 := [(0, .ref 0), (1, .int (iI (p0))), (2, .int (iI (p1)))]) (a0 := (0, 6, 7, 27)) (t0 := []) rfl pnL (fun v hv => k_cat1 rfl hv) (Nat.le_of_ble_eq_true rfl) rfl ?_
  refine k_aload_n dL_blockOf_0 0 rfl rfl (by decide) ?_
  refine k_iload_n dL_blockOf_1 1 rfl rfl ?_
  refine k_iload_n dL_blockOf_2 2 rfl rfl ?_
  rcases hr with ⟨x, rfl⟩ | rfl
  · refine k_callV (k1 := k1) (n1 := n1) (k := 0) (n := 0) (st := []) (as := [.int (iI (p0)), .int (iI (p1))]) dL_blockOf_3 oX7_blockOf rfl w_p859 w_1075 w_1076 (Nat.le_refl _) rfl (Nat.le_of_ble_eq_true rfl) (by decide) (s_0 hsh) rfl hC (Or.inl (k_okl_of (k_Main_len hsh) rfl rfl)) (fun Xn s2 σ2 h => by cases h.1) (fun v s2 σ2 h => ?_)
    obtain ⟨h1, rfl, rfl⟩ := h
    cases h1
    refine k_eqst (st' := [.int (iI x.toInt)]) (by rw [← iI_of]; rfl) ?_
    exact k_reti dL_blockOf_6 rfl rfl rfl
  · refine k_callV (k1 := k1) (n1 := n1) (k := 0) (n := 0) (st := []) (as := [.int (iI (p0)), .int (iI (p1))]) dL_blockOf_3 oX7_blockOf rfl w_p859 w_1075 w_1076 (Nat.le_refl _) rfl (Nat.le_of_ble_eq_true rfl) (by decide) (s_0 hsh) rfl hC (Or.inl (k_okl_of (k_Main_len hsh) rfl rfl)) (fun Xn s2 σ2 h => ?_) (fun v s2 σ2 h => by cases h.1)
    obtain ⟨h1, rfl, rfl⟩ := h
    cases h1
    refine k_catch (i := 3) (j := 3) (name := x_io) (hpc := 7) (ls' := [(0, .ref 0), (1, .int (iI (p0))), (2, .int (iI (p1)))]) [] [] (0, 6, 7, 27) rfl (fun z hz => absurd hz List.not_mem_nil) ⟨by decide, by decide⟩ (by decide) w_p794 w_712 rfl dL_blockOf_7 rfl (by decide) rfl rfl ?_
    refine k_sipush (v := (-1001)) dL_blockOf_8 (by decide) ?_
    exact k_reti dL_blockOf_11 rfl rfl (by decide)
set_option maxHeartbeats 4000000 in
theorem cw_enrol (hsh : k_Main sh) (hsh' : k_Main sh') {p0 : Int} (hC : k_C E mX7_enrol D [.ref 0, .int (iI (p0))] sh σ k1 n1 (k_rx r sh' τ)) (hr : (∃ x : Int32, r = .inl (some (.int x))) ∨ r = .inr x_io ∨ r = .inr x_is) : k_C E mL_enrol (D + 1) [.ref 0, .int (iI (p0))] sh σ k1 n1 (k_ret (some (.int (iI (w_val [x_io, x_is] r)))) sh' τ) := by
  refine k_C_ofW (ls0 := [(0, .ref 0), (1, .int (iI (p0)))]) (a0 := (0, 5, 6, 27)) (t0 := [(0, 5, 11, 22)]) rfl pnL (fun v hv => k_cat1 rfl hv) (Nat.le_of_ble_eq_true rfl) rfl ?_
  refine k_aload_n dL_enrol_0 0 rfl rfl (by decide) ?_
  refine k_iload_n dL_enrol_1 1 rfl rfl ?_
  rcases hr with ⟨x, rfl⟩ | rfl | rfl
  · refine k_callV (k1 := k1) (n1 := n1) (k := 0) (n := 0) (st := []) (as := [.int (iI (p0))]) dL_enrol_2 oX7_enrol rfl w_p868 w_1083 w_1084 (Nat.le_refl _) rfl (Nat.le_of_ble_eq_true rfl) (by decide) (s_0 hsh) rfl hC (Or.inl (k_okl_of (k_Main_len hsh) rfl rfl)) (fun Xn s2 σ2 h => by cases h.1) (fun v s2 σ2 h => ?_)
    obtain ⟨h1, rfl, rfl⟩ := h
    cases h1
    refine k_eqst (st' := [.int (iI x.toInt)]) (by rw [← iI_of]; rfl) ?_
    exact k_reti dL_enrol_5 rfl rfl rfl
  · refine k_callV (k1 := k1) (n1 := n1) (k := 0) (n := 0) (st := []) (as := [.int (iI (p0))]) dL_enrol_2 oX7_enrol rfl w_p868 w_1083 w_1084 (Nat.le_refl _) rfl (Nat.le_of_ble_eq_true rfl) (by decide) (s_0 hsh) rfl hC (Or.inl (k_okl_of (k_Main_len hsh) rfl rfl)) (fun Xn s2 σ2 h => ?_) (fun v s2 σ2 h => by cases h.1)
    obtain ⟨h1, rfl, rfl⟩ := h
    cases h1
    refine k_catch (i := 2) (j := 2) (name := x_io) (hpc := 6) (ls' := [(0, .ref 0), (1, .int (iI (p0)))]) [] [(0, 5, 11, 22)] (0, 5, 6, 27) rfl (fun z hz => absurd hz List.not_mem_nil) ⟨by decide, by decide⟩ (by decide) w_p794 w_712 rfl dL_enrol_6 rfl (by decide) rfl rfl ?_
    refine k_sipush (v := (-1001)) dL_enrol_7 (by decide) ?_
    exact k_reti dL_enrol_10 rfl rfl (by decide)
  · refine k_callV (k1 := k1) (n1 := n1) (k := 0) (n := 0) (st := []) (as := [.int (iI (p0))]) dL_enrol_2 oX7_enrol rfl w_p868 w_1083 w_1084 (Nat.le_refl _) rfl (Nat.le_of_ble_eq_true rfl) (by decide) (s_0 hsh) rfl hC (Or.inl (k_okl_of (k_Main_len hsh) rfl rfl)) (fun Xn s2 σ2 h => ?_) (fun v s2 σ2 h => by cases h.1)
    obtain ⟨h1, rfl, rfl⟩ := h
    cases h1
    refine k_catch (i := 2) (j := 2) (name := x_is) (hpc := 11) (ls' := [(0, .ref 0), (1, .int (iI (p0)))]) [(0, 5, 6, 27)] [] (0, 5, 11, 22) rfl (k_xpass (l := [(27, x_io)]) rfl (fun q hq => by
      simp only [List.mem_cons, List.not_mem_nil, or_false] at hq
      rcases hq with rfl
      · exact ⟨by decide, w_p794, by decide +kernel, by decide +kernel, by decide +kernel⟩
      )) ⟨by decide, by decide⟩ (by decide) w_p413 w_800 rfl dL_enrol_11 rfl (by decide) rfl rfl ?_
    refine k_sipush (v := (-1002)) dL_enrol_12 (by decide) ?_
    exact k_reti dL_enrol_15 rfl rfl (by decide)
set_option maxHeartbeats 4000000 in
theorem cw_withdraw (hsh : k_Main sh) (hsh' : k_Main sh') {p0 : Int} (hC : k_C E mX7_withdraw D [.ref 0, .int (iI (p0))] sh σ k1 n1 (k_rx r sh' τ)) (hr : (∃ x : Int32, r = .inl (some (.int x))) ∨ r = .inr x_io ∨ r = .inr x_is) : k_C E mL_withdraw (D + 1) [.ref 0, .int (iI (p0))] sh σ k1 n1 (k_ret (some (.int (iI (w_val [x_io, x_is] r)))) sh' τ) := by
  refine k_C_ofW (ls0 := [(0, .ref 0), (1, .int (iI (p0)))]) (a0 := (0, 5, 6, 27)) (t0 := [(0, 5, 11, 22)]) rfl pnL (fun v hv => k_cat1 rfl hv) (Nat.le_of_ble_eq_true rfl) rfl ?_
  refine k_aload_n dL_withdraw_0 0 rfl rfl (by decide) ?_
  refine k_iload_n dL_withdraw_1 1 rfl rfl ?_
  rcases hr with ⟨x, rfl⟩ | rfl | rfl
  · refine k_callV (k1 := k1) (n1 := n1) (k := 0) (n := 0) (st := []) (as := [.int (iI (p0))]) dL_withdraw_2 oX7_withdraw rfl w_p875 w_1090 w_1091 (Nat.le_refl _) rfl (Nat.le_of_ble_eq_true rfl) (by decide) (s_0 hsh) rfl hC (Or.inl (k_okl_of (k_Main_len hsh) rfl rfl)) (fun Xn s2 σ2 h => by cases h.1) (fun v s2 σ2 h => ?_)
    obtain ⟨h1, rfl, rfl⟩ := h
    cases h1
    refine k_eqst (st' := [.int (iI x.toInt)]) (by rw [← iI_of]; rfl) ?_
    exact k_reti dL_withdraw_5 rfl rfl rfl
  · refine k_callV (k1 := k1) (n1 := n1) (k := 0) (n := 0) (st := []) (as := [.int (iI (p0))]) dL_withdraw_2 oX7_withdraw rfl w_p875 w_1090 w_1091 (Nat.le_refl _) rfl (Nat.le_of_ble_eq_true rfl) (by decide) (s_0 hsh) rfl hC (Or.inl (k_okl_of (k_Main_len hsh) rfl rfl)) (fun Xn s2 σ2 h => ?_) (fun v s2 σ2 h => by cases h.1)
    obtain ⟨h1, rfl, rfl⟩ := h
    cases h1
    refine k_catch (i := 2) (j := 2) (name := x_io) (hpc := 6) (ls' := [(0, .ref 0), (1, .int (iI (p0)))]) [] [(0, 5, 11, 22)] (0, 5, 6, 27) rfl (fun z hz => absurd hz List.not_mem_nil) ⟨by decide, by decide⟩ (by decide) w_p794 w_712 rfl dL_withdraw_6 rfl (by decide) rfl rfl ?_
    refine k_sipush (v := (-1001)) dL_withdraw_7 (by decide) ?_
    exact k_reti dL_withdraw_10 rfl rfl (by decide)
  · refine k_callV (k1 := k1) (n1 := n1) (k := 0) (n := 0) (st := []) (as := [.int (iI (p0))]) dL_withdraw_2 oX7_withdraw rfl w_p875 w_1090 w_1091 (Nat.le_refl _) rfl (Nat.le_of_ble_eq_true rfl) (by decide) (s_0 hsh) rfl hC (Or.inl (k_okl_of (k_Main_len hsh) rfl rfl)) (fun Xn s2 σ2 h => ?_) (fun v s2 σ2 h => by cases h.1)
    obtain ⟨h1, rfl, rfl⟩ := h
    cases h1
    refine k_catch (i := 2) (j := 2) (name := x_is) (hpc := 11) (ls' := [(0, .ref 0), (1, .int (iI (p0)))]) [(0, 5, 6, 27)] [] (0, 5, 11, 22) rfl (k_xpass (l := [(27, x_io)]) rfl (fun q hq => by
      simp only [List.mem_cons, List.not_mem_nil, or_false] at hq
      rcases hq with rfl
      · exact ⟨by decide, w_p794, by decide +kernel, by decide +kernel, by decide +kernel⟩
      )) ⟨by decide, by decide⟩ (by decide) w_p413 w_800 rfl dL_withdraw_11 rfl (by decide) rfl rfl ?_
    refine k_sipush (v := (-1002)) dL_withdraw_12 (by decide) ?_
    exact k_reti dL_withdraw_15 rfl rfl (by decide)
set_option maxHeartbeats 4000000 in
theorem cw_bestValue (hsh : k_Main sh) (hsh' : k_Main sh') {p0 : Int} (hC : k_C E mX7_bestValue D [.ref 0, .int (iI (p0))] sh σ k1 n1 (k_rx r sh' τ)) (hr : (∃ x : Int32, r = .inl (some (.int x))) ∨ r = .inr x_io) : k_C E mL_bestValue (D + 1) [.ref 0, .int (iI (p0))] sh σ k1 n1 (k_ret (some (.int (iI (w_val [x_io] r)))) sh' τ) := by
  refine k_C_ofW (ls0 := [(0, .ref 0), (1, .int (iI (p0)))]) (a0 := (0, 5, 6, 27)) (t0 := []) rfl pnL (fun v hv => k_cat1 rfl hv) (Nat.le_of_ble_eq_true rfl) rfl ?_
  refine k_aload_n dL_bestValue_0 0 rfl rfl (by decide) ?_
  refine k_iload_n dL_bestValue_1 1 rfl rfl ?_
  rcases hr with ⟨x, rfl⟩ | rfl
  · refine k_callV (k1 := k1) (n1 := n1) (k := 0) (n := 0) (st := []) (as := [.int (iI (p0))]) dL_bestValue_2 oX7_bestValue rfl w_p892 w_1107 w_1108 (Nat.le_refl _) rfl (Nat.le_of_ble_eq_true rfl) (by decide) (s_0 hsh) rfl hC (Or.inl (k_okl_of (k_Main_len hsh) rfl rfl)) (fun Xn s2 σ2 h => by cases h.1) (fun v s2 σ2 h => ?_)
    obtain ⟨h1, rfl, rfl⟩ := h
    cases h1
    refine k_eqst (st' := [.int (iI x.toInt)]) (by rw [← iI_of]; rfl) ?_
    exact k_reti dL_bestValue_5 rfl rfl rfl
  · refine k_callV (k1 := k1) (n1 := n1) (k := 0) (n := 0) (st := []) (as := [.int (iI (p0))]) dL_bestValue_2 oX7_bestValue rfl w_p892 w_1107 w_1108 (Nat.le_refl _) rfl (Nat.le_of_ble_eq_true rfl) (by decide) (s_0 hsh) rfl hC (Or.inl (k_okl_of (k_Main_len hsh) rfl rfl)) (fun Xn s2 σ2 h => ?_) (fun v s2 σ2 h => by cases h.1)
    obtain ⟨h1, rfl, rfl⟩ := h
    cases h1
    refine k_catch (i := 2) (j := 2) (name := x_io) (hpc := 6) (ls' := [(0, .ref 0), (1, .int (iI (p0)))]) [] [] (0, 5, 6, 27) rfl (fun z hz => absurd hz List.not_mem_nil) ⟨by decide, by decide⟩ (by decide) w_p794 w_712 rfl dL_bestValue_6 rfl (by decide) rfl rfl ?_
    refine k_sipush (v := (-1001)) dL_bestValue_7 (by decide) ?_
    exact k_reti dL_bestValue_10 rfl rfl (by decide)
set_option maxHeartbeats 4000000 in
theorem cw_bestValueBySets (hsh : k_Main sh) (hsh' : k_Main sh') {p0 : Int} (hC : k_C E mX7_bestValueBySets D [.ref 0, .int (iI (p0))] sh σ k1 n1 (k_rx r sh' τ)) (hr : (∃ x : Int32, r = .inl (some (.int x))) ∨ r = .inr x_io) : k_C E mL_bestValueBySets (D + 1) [.ref 0, .int (iI (p0))] sh σ k1 n1 (k_ret (some (.int (iI (w_val [x_io] r)))) sh' τ) := by
  refine k_C_ofW (ls0 := [(0, .ref 0), (1, .int (iI (p0)))]) (a0 := (0, 5, 6, 27)) (t0 := []) rfl pnL (fun v hv => k_cat1 rfl hv) (Nat.le_of_ble_eq_true rfl) rfl ?_
  refine k_aload_n dL_bestValueBySets_0 0 rfl rfl (by decide) ?_
  refine k_iload_n dL_bestValueBySets_1 1 rfl rfl ?_
  rcases hr with ⟨x, rfl⟩ | rfl
  · refine k_callV (k1 := k1) (n1 := n1) (k := 0) (n := 0) (st := []) (as := [.int (iI (p0))]) dL_bestValueBySets_2 oX7_bestValueBySets rfl w_p982 w_1118 w_1119 (Nat.le_refl _) rfl (Nat.le_of_ble_eq_true rfl) (by decide) (s_0 hsh) rfl hC (Or.inl (k_okl_of (k_Main_len hsh) rfl rfl)) (fun Xn s2 σ2 h => by cases h.1) (fun v s2 σ2 h => ?_)
    obtain ⟨h1, rfl, rfl⟩ := h
    cases h1
    refine k_eqst (st' := [.int (iI x.toInt)]) (by rw [← iI_of]; rfl) ?_
    exact k_reti dL_bestValueBySets_5 rfl rfl rfl
  · refine k_callV (k1 := k1) (n1 := n1) (k := 0) (n := 0) (st := []) (as := [.int (iI (p0))]) dL_bestValueBySets_2 oX7_bestValueBySets rfl w_p982 w_1118 w_1119 (Nat.le_refl _) rfl (Nat.le_of_ble_eq_true rfl) (by decide) (s_0 hsh) rfl hC (Or.inl (k_okl_of (k_Main_len hsh) rfl rfl)) (fun Xn s2 σ2 h => ?_) (fun v s2 σ2 h => by cases h.1)
    obtain ⟨h1, rfl, rfl⟩ := h
    cases h1
    refine k_catch (i := 2) (j := 2) (name := x_io) (hpc := 6) (ls' := [(0, .ref 0), (1, .int (iI (p0)))]) [] [] (0, 5, 6, 27) rfl (fun z hz => absurd hz List.not_mem_nil) ⟨by decide, by decide⟩ (by decide) w_p794 w_712 rfl dL_bestValueBySets_6 rfl (by decide) rfl rfl ?_
    refine k_sipush (v := (-1001)) dL_bestValueBySets_7 (by decide) ?_
    exact k_reti dL_bestValueBySets_10 rfl rfl (by decide)
set_option maxHeartbeats 4000000 in
theorem cw_canServe (hsh : k_Main sh) (hsh' : k_Main sh') {p0 : Int} (hC : k_C E mX7_canServe D [.ref 0, .int (iI (p0))] sh σ k1 n1 (k_rx r sh' τ)) (hr : (∃ x : Int32, r = .inl (some (.int x))) ∨ r = .inr x_io) : k_C E mL_canServe (D + 1) [.ref 0, .int (iI (p0))] sh σ k1 n1 (k_ret (some (.int (iI (w_valB [x_io] r)))) sh' τ) := by
  refine k_C_ofW (ls0 := [(0, .ref 0), (1, .int (iI (p0)))]) (a0 := (0, 13, 14, 27)) (t0 := []) rfl pnL (fun v hv => k_cat1 rfl hv) (Nat.le_of_ble_eq_true rfl) rfl ?_
  refine k_aload_n dL_canServe_0 0 rfl rfl (by decide) ?_
  refine k_iload_n dL_canServe_1 1 rfl rfl ?_
  rcases hr with ⟨x, rfl⟩ | rfl
  · refine k_callV (k1 := k1) (n1 := n1) (k := 0) (n := 0) (st := []) (as := [.int (iI (p0))]) dL_canServe_2 oX7_canServe rfl w_p1000 w_1136 w_1137 (Nat.le_refl _) rfl (Nat.le_of_ble_eq_true rfl) (by decide) (s_0 hsh) rfl hC (Or.inl (k_okl_of (k_Main_len hsh) rfl rfl)) (fun Xn s2 σ2 h => by cases h.1) (fun v s2 σ2 h => ?_)
    obtain ⟨h1, rfl, rfl⟩ := h
    cases h1
    refine k_eqst (st' := [.int (iI x.toInt)]) (by rw [← iI_of]; rfl) ?_
    refine k_if_eq (tgt := 12) dL_canServe_5 rfl (k_toR x) (fun h => ?_) (fun h => ?_)
    · refine k_iconst (v := 0) dL_canServe_12 rfl ?_
      exact k_reti dL_canServe_13 rfl rfl (by show (0 : Int) = (if x.toInt = 0 then 0 else 1); rw [if_pos h])
    · refine k_iconst (v := 1) dL_canServe_8 rfl ?_
      refine k_goto (tgt := 13) dL_canServe_9 rfl ?_
      exact k_reti dL_canServe_13 rfl rfl (by show (1 : Int) = (if x.toInt = 0 then 0 else 1); rw [if_neg h])
  · refine k_callV (k1 := k1) (n1 := n1) (k := 0) (n := 0) (st := []) (as := [.int (iI (p0))]) dL_canServe_2 oX7_canServe rfl w_p1000 w_1136 w_1137 (Nat.le_refl _) rfl (Nat.le_of_ble_eq_true rfl) (by decide) (s_0 hsh) rfl hC (Or.inl (k_okl_of (k_Main_len hsh) rfl rfl)) (fun Xn s2 σ2 h => ?_) (fun v s2 σ2 h => by cases h.1)
    obtain ⟨h1, rfl, rfl⟩ := h
    cases h1
    refine k_catch (i := 2) (j := 2) (name := x_io) (hpc := 14) (ls' := [(0, .ref 0), (1, .int (iI (p0)))]) [] [] (0, 13, 14, 27) rfl (fun z hz => absurd hz List.not_mem_nil) ⟨by decide, by decide⟩ (by decide) w_p794 w_712 rfl dL_canServe_14 rfl (by decide) rfl rfl ?_
    refine k_sipush (v := (-1001)) dL_canServe_15 (by decide) ?_
    exact k_reti dL_canServe_18 rfl rfl (by decide)
set_option maxHeartbeats 4000000 in
theorem cw_canServeByCounting (hsh : k_Main sh) (hsh' : k_Main sh') {p0 : Int} (hC : k_C E mX7_canServeByCounting D [.ref 0, .int (iI (p0))] sh σ k1 n1 (k_rx r sh' τ)) (hr : (∃ x : Int32, r = .inl (some (.int x))) ∨ r = .inr x_io) : k_C E mL_canServeByCounting (D + 1) [.ref 0, .int (iI (p0))] sh σ k1 n1 (k_ret (some (.int (iI (w_valB [x_io] r)))) sh' τ) := by
  refine k_C_ofW (ls0 := [(0, .ref 0), (1, .int (iI (p0)))]) (a0 := (0, 13, 14, 27)) (t0 := []) rfl pnL (fun v hv => k_cat1 rfl hv) (Nat.le_of_ble_eq_true rfl) rfl ?_
  refine k_aload_n dL_canServeByCounting_0 0 rfl rfl (by decide) ?_
  refine k_iload_n dL_canServeByCounting_1 1 rfl rfl ?_
  rcases hr with ⟨x, rfl⟩ | rfl
  · refine k_callV (k1 := k1) (n1 := n1) (k := 0) (n := 0) (st := []) (as := [.int (iI (p0))]) dL_canServeByCounting_2 oX7_canServeByCounting rfl w_p1019 w_1155 w_1156 (Nat.le_refl _) rfl (Nat.le_of_ble_eq_true rfl) (by decide) (s_0 hsh) rfl hC (Or.inl (k_okl_of (k_Main_len hsh) rfl rfl)) (fun Xn s2 σ2 h => by cases h.1) (fun v s2 σ2 h => ?_)
    obtain ⟨h1, rfl, rfl⟩ := h
    cases h1
    refine k_eqst (st' := [.int (iI x.toInt)]) (by rw [← iI_of]; rfl) ?_
    refine k_if_eq (tgt := 12) dL_canServeByCounting_5 rfl (k_toR x) (fun h => ?_) (fun h => ?_)
    · refine k_iconst (v := 0) dL_canServeByCounting_12 rfl ?_
      exact k_reti dL_canServeByCounting_13 rfl rfl (by show (0 : Int) = (if x.toInt = 0 then 0 else 1); rw [if_pos h])
    · refine k_iconst (v := 1) dL_canServeByCounting_8 rfl ?_
      refine k_goto (tgt := 13) dL_canServeByCounting_9 rfl ?_
      exact k_reti dL_canServeByCounting_13 rfl rfl (by show (1 : Int) = (if x.toInt = 0 then 0 else 1); rw [if_neg h])
  · refine k_callV (k1 := k1) (n1 := n1) (k := 0) (n := 0) (st := []) (as := [.int (iI (p0))]) dL_canServeByCounting_2 oX7_canServeByCounting rfl w_p1019 w_1155 w_1156 (Nat.le_refl _) rfl (Nat.le_of_ble_eq_true rfl) (by decide) (s_0 hsh) rfl hC (Or.inl (k_okl_of (k_Main_len hsh) rfl rfl)) (fun Xn s2 σ2 h => ?_) (fun v s2 σ2 h => by cases h.1)
    obtain ⟨h1, rfl, rfl⟩ := h
    cases h1
    refine k_catch (i := 2) (j := 2) (name := x_io) (hpc := 14) (ls' := [(0, .ref 0), (1, .int (iI (p0)))]) [] [] (0, 13, 14, 27) rfl (fun z hz => absurd hz List.not_mem_nil) ⟨by decide, by decide⟩ (by decide) w_p794 w_712 rfl dL_canServeByCounting_14 rfl (by decide) rfl rfl ?_
    refine k_sipush (v := (-1001)) dL_canServeByCounting_15 (by decide) ?_
    exact k_reti dL_canServeByCounting_18 rfl rfl (by decide)
set_option maxHeartbeats 4000000 in
theorem cw_movesFor (hsh : k_Main sh) (hsh' : k_Main sh') {p0 p1 : Int} (hC : k_C E mX7_movesFor D [.ref 0, .int (iI (p0)), .int (iI (p1))] sh σ k1 n1 (k_rx r sh' τ)) (hr : (∃ x : Int32, r = .inl (some (.int x))) ∨ r = .inr x_io ∨ r = .inr x_is ∨ r = .inr x_ns) : k_C E mL_movesFor (D + 1) [.ref 0, .int (iI (p0)), .int (iI (p1))] sh σ k1 n1 (k_ret (some (.int (iI (w_val [x_io, x_is, x_ns] r)))) sh' τ) := by
  refine k_C_ofW (ls0 := [(0, .ref 0), (1, .int (iI (p0))), (2, .int (iI (p1)))]) (a0 := (0, 6, 7, 27)) (t0 := [(0, 6, 12, 22), (0, 6, 17, 47)]) rfl pnL (fun v hv => k_cat1 rfl hv) (Nat.le_of_ble_eq_true rfl) rfl ?_
  refine k_aload_n dL_movesFor_0 0 rfl rfl (by decide) ?_
  refine k_iload_n dL_movesFor_1 1 rfl rfl ?_
  refine k_iload_n dL_movesFor_2 2 rfl rfl ?_
  rcases hr with ⟨x, rfl⟩ | rfl | rfl | rfl
  · refine k_callV (k1 := k1) (n1 := n1) (k := 0) (n := 0) (st := []) (as := [.int (iI (p0)), .int (iI (p1))]) dL_movesFor_3 oX7_movesFor rfl w_p1034 w_1197 w_1198 (Nat.le_refl _) rfl (Nat.le_of_ble_eq_true rfl) (by decide) (s_0 hsh) rfl hC (Or.inl (k_okl_of (k_Main_len hsh) rfl rfl)) (fun Xn s2 σ2 h => by cases h.1) (fun v s2 σ2 h => ?_)
    obtain ⟨h1, rfl, rfl⟩ := h
    cases h1
    refine k_eqst (st' := [.int (iI x.toInt)]) (by rw [← iI_of]; rfl) ?_
    exact k_reti dL_movesFor_6 rfl rfl rfl
  · refine k_callV (k1 := k1) (n1 := n1) (k := 0) (n := 0) (st := []) (as := [.int (iI (p0)), .int (iI (p1))]) dL_movesFor_3 oX7_movesFor rfl w_p1034 w_1197 w_1198 (Nat.le_refl _) rfl (Nat.le_of_ble_eq_true rfl) (by decide) (s_0 hsh) rfl hC (Or.inl (k_okl_of (k_Main_len hsh) rfl rfl)) (fun Xn s2 σ2 h => ?_) (fun v s2 σ2 h => by cases h.1)
    obtain ⟨h1, rfl, rfl⟩ := h
    cases h1
    refine k_catch (i := 3) (j := 3) (name := x_io) (hpc := 7) (ls' := [(0, .ref 0), (1, .int (iI (p0))), (2, .int (iI (p1)))]) [] [(0, 6, 12, 22), (0, 6, 17, 47)] (0, 6, 7, 27) rfl (fun z hz => absurd hz List.not_mem_nil) ⟨by decide, by decide⟩ (by decide) w_p794 w_712 rfl dL_movesFor_7 rfl (by decide) rfl rfl ?_
    refine k_sipush (v := (-1001)) dL_movesFor_8 (by decide) ?_
    exact k_reti dL_movesFor_11 rfl rfl (by decide)
  · refine k_callV (k1 := k1) (n1 := n1) (k := 0) (n := 0) (st := []) (as := [.int (iI (p0)), .int (iI (p1))]) dL_movesFor_3 oX7_movesFor rfl w_p1034 w_1197 w_1198 (Nat.le_refl _) rfl (Nat.le_of_ble_eq_true rfl) (by decide) (s_0 hsh) rfl hC (Or.inl (k_okl_of (k_Main_len hsh) rfl rfl)) (fun Xn s2 σ2 h => ?_) (fun v s2 σ2 h => by cases h.1)
    obtain ⟨h1, rfl, rfl⟩ := h
    cases h1
    refine k_catch (i := 3) (j := 3) (name := x_is) (hpc := 12) (ls' := [(0, .ref 0), (1, .int (iI (p0))), (2, .int (iI (p1)))]) [(0, 6, 7, 27)] [(0, 6, 17, 47)] (0, 6, 12, 22) rfl (k_xpass (l := [(27, x_io)]) rfl (fun q hq => by
      simp only [List.mem_cons, List.not_mem_nil, or_false] at hq
      rcases hq with rfl
      · exact ⟨by decide, w_p794, by decide +kernel, by decide +kernel, by decide +kernel⟩
      )) ⟨by decide, by decide⟩ (by decide) w_p413 w_800 rfl dL_movesFor_12 rfl (by decide) rfl rfl ?_
    refine k_sipush (v := (-1002)) dL_movesFor_13 (by decide) ?_
    exact k_reti dL_movesFor_16 rfl rfl (by decide)
  · refine k_callV (k1 := k1) (n1 := n1) (k := 0) (n := 0) (st := []) (as := [.int (iI (p0)), .int (iI (p1))]) dL_movesFor_3 oX7_movesFor rfl w_p1034 w_1197 w_1198 (Nat.le_refl _) rfl (Nat.le_of_ble_eq_true rfl) (by decide) (s_0 hsh) rfl hC (Or.inl (k_okl_of (k_Main_len hsh) rfl rfl)) (fun Xn s2 σ2 h => ?_) (fun v s2 σ2 h => by cases h.1)
    obtain ⟨h1, rfl, rfl⟩ := h
    cases h1
    refine k_catch (i := 3) (j := 3) (name := x_ns) (hpc := 17) (ls' := [(0, .ref 0), (1, .int (iI (p0))), (2, .int (iI (p1)))]) [(0, 6, 7, 27), (0, 6, 12, 22)] [] (0, 6, 17, 47) rfl (k_xpass (l := [(27, x_io), (22, x_is)]) rfl (fun q hq => by
      simp only [List.mem_cons, List.not_mem_nil, or_false] at hq
      rcases hq with rfl | rfl
      · exact ⟨by decide, w_p794, by decide +kernel, by decide +kernel, by decide +kernel⟩
      · exact ⟨by decide, w_p413, by decide +kernel, by decide +kernel, by decide +kernel⟩
      )) ⟨by decide, by decide⟩ (by decide) w_p925 w_1000 rfl dL_movesFor_17 rfl (by decide) rfl rfl ?_
    refine k_sipush (v := (-1003)) dL_movesFor_18 (by decide) ?_
    exact k_reti dL_movesFor_21 rfl rfl (by decide)
set_option maxHeartbeats 4000000 in
theorem cw_movesByTrial (hsh : k_Main sh) (hsh' : k_Main sh') {p0 p1 : Int} (hC : k_C E mX7_movesByTrial D [.ref 0, .int (iI (p0)), .int (iI (p1))] sh σ k1 n1 (k_rx r sh' τ)) (hr : (∃ x : Int32, r = .inl (some (.int x))) ∨ r = .inr x_io ∨ r = .inr x_is ∨ r = .inr x_ns) : k_C E mL_movesByTrial (D + 1) [.ref 0, .int (iI (p0)), .int (iI (p1))] sh σ k1 n1 (k_ret (some (.int (iI (w_val [x_io, x_is, x_ns] r)))) sh' τ) := by
  refine k_C_ofW (ls0 := [(0, .ref 0), (1, .int (iI (p0))), (2, .int (iI (p1)))]) (a0 := (0, 6, 7, 27)) (t0 := [(0, 6, 12, 22), (0, 6, 17, 47)]) rfl pnL (fun v hv => k_cat1 rfl hv) (Nat.le_of_ble_eq_true rfl) rfl ?_
  refine k_aload_n dL_movesByTrial_0 0 rfl rfl (by decide) ?_
  refine k_iload_n dL_movesByTrial_1 1 rfl rfl ?_
  refine k_iload_n dL_movesByTrial_2 2 rfl rfl ?_
  rcases hr with ⟨x, rfl⟩ | rfl | rfl | rfl
  · refine k_callV (k1 := k1) (n1 := n1) (k := 0) (n := 0) (st := []) (as := [.int (iI (p0)), .int (iI (p1))]) dL_movesByTrial_3 oX7_movesByTrial rfl w_p1044 w_1207 w_1208 (Nat.le_refl _) rfl (Nat.le_of_ble_eq_true rfl) (by decide) (s_0 hsh) rfl hC (Or.inl (k_okl_of (k_Main_len hsh) rfl rfl)) (fun Xn s2 σ2 h => by cases h.1) (fun v s2 σ2 h => ?_)
    obtain ⟨h1, rfl, rfl⟩ := h
    cases h1
    refine k_eqst (st' := [.int (iI x.toInt)]) (by rw [← iI_of]; rfl) ?_
    exact k_reti dL_movesByTrial_6 rfl rfl rfl
  · refine k_callV (k1 := k1) (n1 := n1) (k := 0) (n := 0) (st := []) (as := [.int (iI (p0)), .int (iI (p1))]) dL_movesByTrial_3 oX7_movesByTrial rfl w_p1044 w_1207 w_1208 (Nat.le_refl _) rfl (Nat.le_of_ble_eq_true rfl) (by decide) (s_0 hsh) rfl hC (Or.inl (k_okl_of (k_Main_len hsh) rfl rfl)) (fun Xn s2 σ2 h => ?_) (fun v s2 σ2 h => by cases h.1)
    obtain ⟨h1, rfl, rfl⟩ := h
    cases h1
    refine k_catch (i := 3) (j := 3) (name := x_io) (hpc := 7) (ls' := [(0, .ref 0), (1, .int (iI (p0))), (2, .int (iI (p1)))]) [] [(0, 6, 12, 22), (0, 6, 17, 47)] (0, 6, 7, 27) rfl (fun z hz => absurd hz List.not_mem_nil) ⟨by decide, by decide⟩ (by decide) w_p794 w_712 rfl dL_movesByTrial_7 rfl (by decide) rfl rfl ?_
    refine k_sipush (v := (-1001)) dL_movesByTrial_8 (by decide) ?_
    exact k_reti dL_movesByTrial_11 rfl rfl (by decide)
  · refine k_callV (k1 := k1) (n1 := n1) (k := 0) (n := 0) (st := []) (as := [.int (iI (p0)), .int (iI (p1))]) dL_movesByTrial_3 oX7_movesByTrial rfl w_p1044 w_1207 w_1208 (Nat.le_refl _) rfl (Nat.le_of_ble_eq_true rfl) (by decide) (s_0 hsh) rfl hC (Or.inl (k_okl_of (k_Main_len hsh) rfl rfl)) (fun Xn s2 σ2 h => ?_) (fun v s2 σ2 h => by cases h.1)
    obtain ⟨h1, rfl, rfl⟩ := h
    cases h1
    refine k_catch (i := 3) (j := 3) (name := x_is) (hpc := 12) (ls' := [(0, .ref 0), (1, .int (iI (p0))), (2, .int (iI (p1)))]) [(0, 6, 7, 27)] [(0, 6, 17, 47)] (0, 6, 12, 22) rfl (k_xpass (l := [(27, x_io)]) rfl (fun q hq => by
      simp only [List.mem_cons, List.not_mem_nil, or_false] at hq
      rcases hq with rfl
      · exact ⟨by decide, w_p794, by decide +kernel, by decide +kernel, by decide +kernel⟩
      )) ⟨by decide, by decide⟩ (by decide) w_p413 w_800 rfl dL_movesByTrial_12 rfl (by decide) rfl rfl ?_
    refine k_sipush (v := (-1002)) dL_movesByTrial_13 (by decide) ?_
    exact k_reti dL_movesByTrial_16 rfl rfl (by decide)
  · refine k_callV (k1 := k1) (n1 := n1) (k := 0) (n := 0) (st := []) (as := [.int (iI (p0)), .int (iI (p1))]) dL_movesByTrial_3 oX7_movesByTrial rfl w_p1044 w_1207 w_1208 (Nat.le_refl _) rfl (Nat.le_of_ble_eq_true rfl) (by decide) (s_0 hsh) rfl hC (Or.inl (k_okl_of (k_Main_len hsh) rfl rfl)) (fun Xn s2 σ2 h => ?_) (fun v s2 σ2 h => by cases h.1)
    obtain ⟨h1, rfl, rfl⟩ := h
    cases h1
    refine k_catch (i := 3) (j := 3) (name := x_ns) (hpc := 17) (ls' := [(0, .ref 0), (1, .int (iI (p0))), (2, .int (iI (p1)))]) [(0, 6, 7, 27), (0, 6, 12, 22)] [] (0, 6, 17, 47) rfl (k_xpass (l := [(27, x_io), (22, x_is)]) rfl (fun q hq => by
      simp only [List.mem_cons, List.not_mem_nil, or_false] at hq
      rcases hq with rfl | rfl
      · exact ⟨by decide, w_p794, by decide +kernel, by decide +kernel, by decide +kernel⟩
      · exact ⟨by decide, w_p413, by decide +kernel, by decide +kernel, by decide +kernel⟩
      )) ⟨by decide, by decide⟩ (by decide) w_p925 w_1000 rfl dL_movesByTrial_17 rfl (by decide) rfl rfl ?_
    refine k_sipush (v := (-1003)) dL_movesByTrial_18 (by decide) ?_
    exact k_reti dL_movesByTrial_21 rfl rfl (by decide)
set_option maxHeartbeats 4000000 in
theorem cw_join (hsh : k_Main sh) (hsh' : k_Main sh') {p0 p1 : Int} (hC : k_C E mX7_join D [.ref 0, .int (iI (p0)), .int (iI (p1))] sh σ k1 n1 (k_rx r sh' τ)) (hr : (∃ x : Int32, r = .inl (some (.int x))) ∨ r = .inr x_io ∨ r = .inr x_is ∨ r = .inr x_uo) : k_C E mL_join (D + 1) [.ref 0, .int (iI (p0)), .int (iI (p1))] sh σ k1 n1 (k_ret (some (.int (iI (w_val [x_io, x_is, x_uo] r)))) sh' τ) := by
  refine k_C_ofW (ls0 := [(0, .ref 0), (1, .int (iI (p0))), (2, .int (iI (p1)))]) (a0 := (0, 6, 7, 27)) (t0 := [(0, 6, 12, 22), (0, 6, 17, 93)]) rfl pnL (fun v hv => k_cat1 rfl hv) (Nat.le_of_ble_eq_true rfl) rfl ?_
  refine k_aload_n dL_join_0 0 rfl rfl (by decide) ?_
  refine k_iload_n dL_join_1 1 rfl rfl ?_
  refine k_iload_n dL_join_2 2 rfl rfl ?_
  rcases hr with ⟨x, rfl⟩ | rfl | rfl | rfl
  · refine k_callV (k1 := k1) (n1 := n1) (k := 0) (n := 0) (st := []) (as := [.int (iI (p0)), .int (iI (p1))]) dL_join_3 oX7_join rfl w_p1065 w_1222 w_1223 (Nat.le_refl _) rfl (Nat.le_of_ble_eq_true rfl) (by decide) (s_0 hsh) rfl hC (Or.inl (k_okl_of (k_Main_len hsh) rfl rfl)) (fun Xn s2 σ2 h => by cases h.1) (fun v s2 σ2 h => ?_)
    obtain ⟨h1, rfl, rfl⟩ := h
    cases h1
    refine k_eqst (st' := [.int (iI x.toInt)]) (by rw [← iI_of]; rfl) ?_
    exact k_reti dL_join_6 rfl rfl rfl
  · refine k_callV (k1 := k1) (n1 := n1) (k := 0) (n := 0) (st := []) (as := [.int (iI (p0)), .int (iI (p1))]) dL_join_3 oX7_join rfl w_p1065 w_1222 w_1223 (Nat.le_refl _) rfl (Nat.le_of_ble_eq_true rfl) (by decide) (s_0 hsh) rfl hC (Or.inl (k_okl_of (k_Main_len hsh) rfl rfl)) (fun Xn s2 σ2 h => ?_) (fun v s2 σ2 h => by cases h.1)
    obtain ⟨h1, rfl, rfl⟩ := h
    cases h1
    refine k_catch (i := 3) (j := 3) (name := x_io) (hpc := 7) (ls' := [(0, .ref 0), (1, .int (iI (p0))), (2, .int (iI (p1)))]) [] [(0, 6, 12, 22), (0, 6, 17, 93)] (0, 6, 7, 27) rfl (fun z hz => absurd hz List.not_mem_nil) ⟨by decide, by decide⟩ (by decide) w_p794 w_712 rfl dL_join_7 rfl (by decide) rfl rfl ?_
    refine k_sipush (v := (-1001)) dL_join_8 (by decide) ?_
    exact k_reti dL_join_11 rfl rfl (by decide)
  · refine k_callV (k1 := k1) (n1 := n1) (k := 0) (n := 0) (st := []) (as := [.int (iI (p0)), .int (iI (p1))]) dL_join_3 oX7_join rfl w_p1065 w_1222 w_1223 (Nat.le_refl _) rfl (Nat.le_of_ble_eq_true rfl) (by decide) (s_0 hsh) rfl hC (Or.inl (k_okl_of (k_Main_len hsh) rfl rfl)) (fun Xn s2 σ2 h => ?_) (fun v s2 σ2 h => by cases h.1)
    obtain ⟨h1, rfl, rfl⟩ := h
    cases h1
    refine k_catch (i := 3) (j := 3) (name := x_is) (hpc := 12) (ls' := [(0, .ref 0), (1, .int (iI (p0))), (2, .int (iI (p1)))]) [(0, 6, 7, 27)] [(0, 6, 17, 93)] (0, 6, 12, 22) rfl (k_xpass (l := [(27, x_io)]) rfl (fun q hq => by
      simp only [List.mem_cons, List.not_mem_nil, or_false] at hq
      rcases hq with rfl
      · exact ⟨by decide, w_p794, by decide +kernel, by decide +kernel, by decide +kernel⟩
      )) ⟨by decide, by decide⟩ (by decide) w_p413 w_800 rfl dL_join_12 rfl (by decide) rfl rfl ?_
    refine k_sipush (v := (-1002)) dL_join_13 (by decide) ?_
    exact k_reti dL_join_16 rfl rfl (by decide)
  · refine k_callV (k1 := k1) (n1 := n1) (k := 0) (n := 0) (st := []) (as := [.int (iI (p0)), .int (iI (p1))]) dL_join_3 oX7_join rfl w_p1065 w_1222 w_1223 (Nat.le_refl _) rfl (Nat.le_of_ble_eq_true rfl) (by decide) (s_0 hsh) rfl hC (Or.inl (k_okl_of (k_Main_len hsh) rfl rfl)) (fun Xn s2 σ2 h => ?_) (fun v s2 σ2 h => by cases h.1)
    obtain ⟨h1, rfl, rfl⟩ := h
    cases h1
    refine k_catch (i := 3) (j := 3) (name := x_uo) (hpc := 17) (ls' := [(0, .ref 0), (1, .int (iI (p0))), (2, .int (iI (p1)))]) [(0, 6, 7, 27), (0, 6, 12, 22)] [] (0, 6, 17, 93) rfl (k_xpass (l := [(27, x_io), (22, x_is)]) rfl (fun q hq => by
      simp only [List.mem_cons, List.not_mem_nil, or_false] at hq
      rcases hq with rfl | rfl
      · exact ⟨by decide, w_p794, by decide +kernel, by decide +kernel, by decide +kernel⟩
      · exact ⟨by decide, w_p413, by decide +kernel, by decide +kernel, by decide +kernel⟩
      )) ⟨by decide, by decide⟩ (by decide) w_p1064 w_816 rfl dL_join_17 rfl (by decide) rfl rfl ?_
    refine k_sipush (v := (-1003)) dL_join_18 (by decide) ?_
    exact k_reti dL_join_21 rfl rfl (by decide)
set_option maxHeartbeats 4000000 in
theorem cw_quit (hsh : k_Main sh) (hsh' : k_Main sh') {p0 p1 : Int} (hC : k_C E mX7_quit D [.ref 0, .int (iI (p0)), .int (iI (p1))] sh σ k1 n1 (k_rx r sh' τ)) (hr : (∃ x : Int32, r = .inl (some (.int x))) ∨ r = .inr x_io ∨ r = .inr x_is) : k_C E mL_quit (D + 1) [.ref 0, .int (iI (p0)), .int (iI (p1))] sh σ k1 n1 (k_ret (some (.int (iI (w_val [x_io, x_is] r)))) sh' τ) := by
  refine k_C_ofW (ls0 := [(0, .ref 0), (1, .int (iI (p0))), (2, .int (iI (p1)))]) (a0 := (0, 6, 7, 27)) (t0 := [(0, 6, 12, 22)]) rfl pnL (fun v hv => k_cat1 rfl hv) (Nat.le_of_ble_eq_true rfl) rfl ?_
  refine k_aload_n dL_quit_0 0 rfl rfl (by decide) ?_
  refine k_iload_n dL_quit_1 1 rfl rfl ?_
  refine k_iload_n dL_quit_2 2 rfl rfl ?_
  rcases hr with ⟨x, rfl⟩ | rfl | rfl
  · refine k_callV (k1 := k1) (n1 := n1) (k := 0) (n := 0) (st := []) (as := [.int (iI (p0)), .int (iI (p1))]) dL_quit_3 oX7_quit rfl w_p903 w_1229 w_1230 (Nat.le_refl _) rfl (Nat.le_of_ble_eq_true rfl) (by decide) (s_0 hsh) rfl hC (Or.inl (k_okl_of (k_Main_len hsh) rfl rfl)) (fun Xn s2 σ2 h => by cases h.1) (fun v s2 σ2 h => ?_)
    obtain ⟨h1, rfl, rfl⟩ := h
    cases h1
    refine k_eqst (st' := [.int (iI x.toInt)]) (by rw [← iI_of]; rfl) ?_
    exact k_reti dL_quit_6 rfl rfl rfl
  · refine k_callV (k1 := k1) (n1 := n1) (k := 0) (n := 0) (st := []) (as := [.int (iI (p0)), .int (iI (p1))]) dL_quit_3 oX7_quit rfl w_p903 w_1229 w_1230 (Nat.le_refl _) rfl (Nat.le_of_ble_eq_true rfl) (by decide) (s_0 hsh) rfl hC (Or.inl (k_okl_of (k_Main_len hsh) rfl rfl)) (fun Xn s2 σ2 h => ?_) (fun v s2 σ2 h => by cases h.1)
    obtain ⟨h1, rfl, rfl⟩ := h
    cases h1
    refine k_catch (i := 3) (j := 3) (name := x_io) (hpc := 7) (ls' := [(0, .ref 0), (1, .int (iI (p0))), (2, .int (iI (p1)))]) [] [(0, 6, 12, 22)] (0, 6, 7, 27) rfl (fun z hz => absurd hz List.not_mem_nil) ⟨by decide, by decide⟩ (by decide) w_p794 w_712 rfl dL_quit_7 rfl (by decide) rfl rfl ?_
    refine k_sipush (v := (-1001)) dL_quit_8 (by decide) ?_
    exact k_reti dL_quit_11 rfl rfl (by decide)
  · refine k_callV (k1 := k1) (n1 := n1) (k := 0) (n := 0) (st := []) (as := [.int (iI (p0)), .int (iI (p1))]) dL_quit_3 oX7_quit rfl w_p903 w_1229 w_1230 (Nat.le_refl _) rfl (Nat.le_of_ble_eq_true rfl) (by decide) (s_0 hsh) rfl hC (Or.inl (k_okl_of (k_Main_len hsh) rfl rfl)) (fun Xn s2 σ2 h => ?_) (fun v s2 σ2 h => by cases h.1)
    obtain ⟨h1, rfl, rfl⟩ := h
    cases h1
    refine k_catch (i := 3) (j := 3) (name := x_is) (hpc := 12) (ls' := [(0, .ref 0), (1, .int (iI (p0))), (2, .int (iI (p1)))]) [(0, 6, 7, 27)] [] (0, 6, 12, 22) rfl (k_xpass (l := [(27, x_io)]) rfl (fun q hq => by
      simp only [List.mem_cons, List.not_mem_nil, or_false] at hq
      rcases hq with rfl
      · exact ⟨by decide, w_p794, by decide +kernel, by decide +kernel, by decide +kernel⟩
      )) ⟨by decide, by decide⟩ (by decide) w_p413 w_800 rfl dL_quit_12 rfl (by decide) rfl rfl ?_
    refine k_sipush (v := (-1002)) dL_quit_13 (by decide) ?_
    exact k_reti dL_quit_16 rfl rfl (by decide)
set_option maxHeartbeats 4000000 in
theorem cw_change (hsh : k_Main sh) (hsh' : k_Main sh') {p0 p1 p2 : Int} (hC : k_C E mX7_change D [.ref 0, .int (iI (p0)), .int (iI (p1)), .int (iI (p2))] sh σ k1 n1 (k_rx r sh' τ)) (hr : (∃ x : Int32, r = .inl (some (.int x))) ∨ r = .inr x_io ∨ r = .inr x_is ∨ r = .inr x_uo) : k_C E mL_change (D + 1) [.ref 0, .int (iI (p0)), .int (iI (p1)), .int (iI (p2))] sh σ k1 n1 (k_ret (some (.int (iI (w_val [x_io, x_is, x_uo] r)))) sh' τ) := by
  refine k_C_ofW (ls0 := [(0, .ref 0), (1, .int (iI (p0))), (2, .int (iI (p1))), (3, .int (iI (p2)))]) (a0 := (0, 7, 8, 27)) (t0 := [(0, 7, 14, 22), (0, 7, 20, 93)]) rfl pnL (fun v hv => k_cat1 rfl hv) (Nat.le_of_ble_eq_true rfl) rfl ?_
  refine k_aload_n dL_change_0 0 rfl rfl (by decide) ?_
  refine k_iload_n dL_change_1 1 rfl rfl ?_
  refine k_iload_n dL_change_2 2 rfl rfl ?_
  refine k_iload_n dL_change_3 3 rfl rfl ?_
  rcases hr with ⟨x, rfl⟩ | rfl | rfl | rfl
  · refine k_callV (k1 := k1) (n1 := n1) (k := 0) (n := 0) (st := []) (as := [.int (iI (p0)), .int (iI (p1)), .int (iI (p2))]) dL_change_4 oX7_change rfl w_p1121 w_1236 w_1237 (Nat.le_refl _) rfl (Nat.le_of_ble_eq_true rfl) (by decide) (s_0 hsh) rfl hC (Or.inl (k_okl_of (k_Main_len hsh) rfl rfl)) (fun Xn s2 σ2 h => by cases h.1) (fun v s2 σ2 h => ?_)
    obtain ⟨h1, rfl, rfl⟩ := h
    cases h1
    refine k_eqst (st' := [.int (iI x.toInt)]) (by rw [← iI_of]; rfl) ?_
    exact k_reti dL_change_7 rfl rfl rfl
  · refine k_callV (k1 := k1) (n1 := n1) (k := 0) (n := 0) (st := []) (as := [.int (iI (p0)), .int (iI (p1)), .int (iI (p2))]) dL_change_4 oX7_change rfl w_p1121 w_1236 w_1237 (Nat.le_refl _) rfl (Nat.le_of_ble_eq_true rfl) (by decide) (s_0 hsh) rfl hC (Or.inl (k_okl_of (k_Main_len hsh) rfl rfl)) (fun Xn s2 σ2 h => ?_) (fun v s2 σ2 h => by cases h.1)
    obtain ⟨h1, rfl, rfl⟩ := h
    cases h1
    refine k_catchN (j := 4) (name := x_io) (hpc := 8) (ls' := [(0, .ref 0), (1, .int (iI (p0))), (2, .int (iI (p1))), (3, .int (iI (p2)))]) [] [(0, 7, 14, 22), (0, 7, 20, 93)] (0, 7, 8, 27) rfl (fun z hz => absurd hz List.not_mem_nil) ⟨by decide, by decide⟩ (by decide) w_p794 w_712 rfl dL_change_8 (by decide) rfl rfl ?_
    refine k_sipush (v := (-1001)) dL_change_10 (by decide) ?_
    exact k_reti dL_change_13 rfl rfl (by decide)
  · refine k_callV (k1 := k1) (n1 := n1) (k := 0) (n := 0) (st := []) (as := [.int (iI (p0)), .int (iI (p1)), .int (iI (p2))]) dL_change_4 oX7_change rfl w_p1121 w_1236 w_1237 (Nat.le_refl _) rfl (Nat.le_of_ble_eq_true rfl) (by decide) (s_0 hsh) rfl hC (Or.inl (k_okl_of (k_Main_len hsh) rfl rfl)) (fun Xn s2 σ2 h => ?_) (fun v s2 σ2 h => by cases h.1)
    obtain ⟨h1, rfl, rfl⟩ := h
    cases h1
    refine k_catchN (j := 4) (name := x_is) (hpc := 14) (ls' := [(0, .ref 0), (1, .int (iI (p0))), (2, .int (iI (p1))), (3, .int (iI (p2)))]) [(0, 7, 8, 27)] [(0, 7, 20, 93)] (0, 7, 14, 22) rfl (k_xpass (l := [(27, x_io)]) rfl (fun q hq => by
      simp only [List.mem_cons, List.not_mem_nil, or_false] at hq
      rcases hq with rfl
      · exact ⟨by decide, w_p794, by decide +kernel, by decide +kernel, by decide +kernel⟩
      )) ⟨by decide, by decide⟩ (by decide) w_p413 w_800 rfl dL_change_14 (by decide) rfl rfl ?_
    refine k_sipush (v := (-1002)) dL_change_16 (by decide) ?_
    exact k_reti dL_change_19 rfl rfl (by decide)
  · refine k_callV (k1 := k1) (n1 := n1) (k := 0) (n := 0) (st := []) (as := [.int (iI (p0)), .int (iI (p1)), .int (iI (p2))]) dL_change_4 oX7_change rfl w_p1121 w_1236 w_1237 (Nat.le_refl _) rfl (Nat.le_of_ble_eq_true rfl) (by decide) (s_0 hsh) rfl hC (Or.inl (k_okl_of (k_Main_len hsh) rfl rfl)) (fun Xn s2 σ2 h => ?_) (fun v s2 σ2 h => by cases h.1)
    obtain ⟨h1, rfl, rfl⟩ := h
    cases h1
    refine k_catchN (j := 4) (name := x_uo) (hpc := 20) (ls' := [(0, .ref 0), (1, .int (iI (p0))), (2, .int (iI (p1))), (3, .int (iI (p2)))]) [(0, 7, 8, 27), (0, 7, 14, 22)] [] (0, 7, 20, 93) rfl (k_xpass (l := [(27, x_io), (22, x_is)]) rfl (fun q hq => by
      simp only [List.mem_cons, List.not_mem_nil, or_false] at hq
      rcases hq with rfl | rfl
      · exact ⟨by decide, w_p794, by decide +kernel, by decide +kernel, by decide +kernel⟩
      · exact ⟨by decide, w_p413, by decide +kernel, by decide +kernel, by decide +kernel⟩
      )) ⟨by decide, by decide⟩ (by decide) w_p1064 w_816 rfl dL_change_20 (by decide) rfl rfl ?_
    refine k_sipush (v := (-1003)) dL_change_22 (by decide) ?_
    exact k_reti dL_change_25 rfl rfl (by decide)
set_option maxHeartbeats 4000000 in
theorem cw_refusalReason (hsh : k_Main sh) (hsh' : k_Main sh') (hC : k_C E mX7_refusalReason D [.ref 0] sh σ k1 n1 (k_rx r sh' τ)) (hr : (∃ x : Int32, r = .inl (some (.int x))) ∨ r = .inr x_ns) : k_C E mL_refusalReason (D + 1) [.ref 0] sh σ k1 n1 (k_ret (some (.int (iI (w_val [x_ns] r)))) sh' τ) := by
  refine k_C_ofW (ls0 := [(0, .ref 0)]) (a0 := (0, 4, 5, 47)) (t0 := []) rfl pnL (fun v hv => k_cat1 rfl hv) (Nat.le_of_ble_eq_true rfl) rfl ?_
  refine k_aload_n dL_refusalReason_0 0 rfl rfl (by decide) ?_
  rcases hr with ⟨x, rfl⟩ | rfl
  · refine k_callV (k1 := k1) (n1 := n1) (k := 0) (n := 0) (st := []) (as := []) dL_refusalReason_1 oX7_refusalReason rfl w_p1075 w_1243 w_1244 (Nat.le_refl _) rfl (Nat.le_of_ble_eq_true rfl) (by decide) (s_0 hsh) rfl hC (Or.inl (k_okl_of (k_Main_len hsh) rfl rfl)) (fun Xn s2 σ2 h => by cases h.1) (fun v s2 σ2 h => ?_)
    obtain ⟨h1, rfl, rfl⟩ := h
    cases h1
    refine k_eqst (st' := [.int (iI x.toInt)]) (by rw [← iI_of]; rfl) ?_
    exact k_reti dL_refusalReason_4 rfl rfl rfl
  · refine k_callV (k1 := k1) (n1 := n1) (k := 0) (n := 0) (st := []) (as := []) dL_refusalReason_1 oX7_refusalReason rfl w_p1075 w_1243 w_1244 (Nat.le_refl _) rfl (Nat.le_of_ble_eq_true rfl) (by decide) (s_0 hsh) rfl hC (Or.inl (k_okl_of (k_Main_len hsh) rfl rfl)) (fun Xn s2 σ2 h => ?_) (fun v s2 σ2 h => by cases h.1)
    obtain ⟨h1, rfl, rfl⟩ := h
    cases h1
    refine k_catch (i := 1) (j := 1) (name := x_ns) (hpc := 5) (ls' := [(0, .ref 0)]) [] [] (0, 4, 5, 47) rfl (fun z hz => absurd hz List.not_mem_nil) ⟨by decide, by decide⟩ (by decide) w_p925 w_1000 rfl dL_refusalReason_5 rfl (by decide) rfl rfl ?_
    refine k_sipush (v := (-1001)) dL_refusalReason_6 (by decide) ?_
    exact k_reti dL_refusalReason_9 rfl rfl (by decide)
set_option maxHeartbeats 4000000 in
theorem cw_chainMoves (hsh : k_Main sh) (hsh' : k_Main sh') (hC : k_C E mX7_chainMoves D [.ref 0] sh σ k1 n1 (k_rx r sh' τ)) (hr : (∃ x : Int32, r = .inl (some (.int x))) ∨ r = .inr x_ns) : k_C E mL_chainMoves (D + 1) [.ref 0] sh σ k1 n1 (k_ret (some (.int (iI (w_val [x_ns] r)))) sh' τ) := by
  refine k_C_ofW (ls0 := [(0, .ref 0)]) (a0 := (0, 4, 5, 47)) (t0 := []) rfl pnL (fun v hv => k_cat1 rfl hv) (Nat.le_of_ble_eq_true rfl) rfl ?_
  refine k_aload_n dL_chainMoves_0 0 rfl rfl (by decide) ?_
  rcases hr with ⟨x, rfl⟩ | rfl
  · refine k_callV (k1 := k1) (n1 := n1) (k := 0) (n := 0) (st := []) (as := []) dL_chainMoves_1 oX7_chainMoves rfl w_p1085 w_1250 w_1251 (Nat.le_refl _) rfl (Nat.le_of_ble_eq_true rfl) (by decide) (s_0 hsh) rfl hC (Or.inl (k_okl_of (k_Main_len hsh) rfl rfl)) (fun Xn s2 σ2 h => by cases h.1) (fun v s2 σ2 h => ?_)
    obtain ⟨h1, rfl, rfl⟩ := h
    cases h1
    refine k_eqst (st' := [.int (iI x.toInt)]) (by rw [← iI_of]; rfl) ?_
    exact k_reti dL_chainMoves_4 rfl rfl rfl
  · refine k_callV (k1 := k1) (n1 := n1) (k := 0) (n := 0) (st := []) (as := []) dL_chainMoves_1 oX7_chainMoves rfl w_p1085 w_1250 w_1251 (Nat.le_refl _) rfl (Nat.le_of_ble_eq_true rfl) (by decide) (s_0 hsh) rfl hC (Or.inl (k_okl_of (k_Main_len hsh) rfl rfl)) (fun Xn s2 σ2 h => ?_) (fun v s2 σ2 h => by cases h.1)
    obtain ⟨h1, rfl, rfl⟩ := h
    cases h1
    refine k_catch (i := 1) (j := 1) (name := x_ns) (hpc := 5) (ls' := [(0, .ref 0)]) [] [] (0, 4, 5, 47) rfl (fun z hz => absurd hz List.not_mem_nil) ⟨by decide, by decide⟩ (by decide) w_p925 w_1000 rfl dL_chainMoves_5 rfl (by decide) rfl rfl ?_
    refine k_sipush (v := (-1001)) dL_chainMoves_6 (by decide) ?_
    exact k_reti dL_chainMoves_9 rfl rfl (by decide)
set_option maxHeartbeats 4000000 in
theorem cw_chainPupil (hsh : k_Main sh) (hsh' : k_Main sh') {p0 : Int} (hC : k_C E mX7_chainPupil D [.ref 0, .int (iI (p0))] sh σ k1 n1 (k_rx r sh' τ)) (hr : (∃ x : Int32, r = .inl (some (.int x))) ∨ r = .inr x_ns) : k_C E mL_chainPupil (D + 1) [.ref 0, .int (iI (p0))] sh σ k1 n1 (k_ret (some (.int (iI (w_val [x_ns] r)))) sh' τ) := by
  refine k_C_ofW (ls0 := [(0, .ref 0), (1, .int (iI (p0)))]) (a0 := (0, 5, 6, 47)) (t0 := []) rfl pnL (fun v hv => k_cat1 rfl hv) (Nat.le_of_ble_eq_true rfl) rfl ?_
  refine k_aload_n dL_chainPupil_0 0 rfl rfl (by decide) ?_
  refine k_iload_n dL_chainPupil_1 1 rfl rfl ?_
  rcases hr with ⟨x, rfl⟩ | rfl
  · refine k_callV (k1 := k1) (n1 := n1) (k := 0) (n := 0) (st := []) (as := [.int (iI (p0))]) dL_chainPupil_2 oX7_chainPupil rfl w_p1092 w_1257 w_1258 (Nat.le_refl _) rfl (Nat.le_of_ble_eq_true rfl) (by decide) (s_0 hsh) rfl hC (Or.inl (k_okl_of (k_Main_len hsh) rfl rfl)) (fun Xn s2 σ2 h => by cases h.1) (fun v s2 σ2 h => ?_)
    obtain ⟨h1, rfl, rfl⟩ := h
    cases h1
    refine k_eqst (st' := [.int (iI x.toInt)]) (by rw [← iI_of]; rfl) ?_
    exact k_reti dL_chainPupil_5 rfl rfl rfl
  · refine k_callV (k1 := k1) (n1 := n1) (k := 0) (n := 0) (st := []) (as := [.int (iI (p0))]) dL_chainPupil_2 oX7_chainPupil rfl w_p1092 w_1257 w_1258 (Nat.le_refl _) rfl (Nat.le_of_ble_eq_true rfl) (by decide) (s_0 hsh) rfl hC (Or.inl (k_okl_of (k_Main_len hsh) rfl rfl)) (fun Xn s2 σ2 h => ?_) (fun v s2 σ2 h => by cases h.1)
    obtain ⟨h1, rfl, rfl⟩ := h
    cases h1
    refine k_catch (i := 2) (j := 2) (name := x_ns) (hpc := 6) (ls' := [(0, .ref 0), (1, .int (iI (p0)))]) [] [] (0, 5, 6, 47) rfl (fun z hz => absurd hz List.not_mem_nil) ⟨by decide, by decide⟩ (by decide) w_p925 w_1000 rfl dL_chainPupil_6 rfl (by decide) rfl rfl ?_
    refine k_sipush (v := (-1001)) dL_chainPupil_7 (by decide) ?_
    exact k_reti dL_chainPupil_10 rfl rfl (by decide)
set_option maxHeartbeats 4000000 in
theorem cw_chainBlock (hsh : k_Main sh) (hsh' : k_Main sh') {p0 : Int} (hC : k_C E mX7_chainBlock D [.ref 0, .int (iI (p0))] sh σ k1 n1 (k_rx r sh' τ)) (hr : (∃ x : Int32, r = .inl (some (.int x))) ∨ r = .inr x_ns) : k_C E mL_chainBlock (D + 1) [.ref 0, .int (iI (p0))] sh σ k1 n1 (k_ret (some (.int (iI (w_val [x_ns] r)))) sh' τ) := by
  refine k_C_ofW (ls0 := [(0, .ref 0), (1, .int (iI (p0)))]) (a0 := (0, 5, 6, 47)) (t0 := []) rfl pnL (fun v hv => k_cat1 rfl hv) (Nat.le_of_ble_eq_true rfl) rfl ?_
  refine k_aload_n dL_chainBlock_0 0 rfl rfl (by decide) ?_
  refine k_iload_n dL_chainBlock_1 1 rfl rfl ?_
  rcases hr with ⟨x, rfl⟩ | rfl
  · refine k_callV (k1 := k1) (n1 := n1) (k := 0) (n := 0) (st := []) (as := [.int (iI (p0))]) dL_chainBlock_2 oX7_chainBlock rfl w_p1099 w_1264 w_1265 (Nat.le_refl _) rfl (Nat.le_of_ble_eq_true rfl) (by decide) (s_0 hsh) rfl hC (Or.inl (k_okl_of (k_Main_len hsh) rfl rfl)) (fun Xn s2 σ2 h => by cases h.1) (fun v s2 σ2 h => ?_)
    obtain ⟨h1, rfl, rfl⟩ := h
    cases h1
    refine k_eqst (st' := [.int (iI x.toInt)]) (by rw [← iI_of]; rfl) ?_
    exact k_reti dL_chainBlock_5 rfl rfl rfl
  · refine k_callV (k1 := k1) (n1 := n1) (k := 0) (n := 0) (st := []) (as := [.int (iI (p0))]) dL_chainBlock_2 oX7_chainBlock rfl w_p1099 w_1264 w_1265 (Nat.le_refl _) rfl (Nat.le_of_ble_eq_true rfl) (by decide) (s_0 hsh) rfl hC (Or.inl (k_okl_of (k_Main_len hsh) rfl rfl)) (fun Xn s2 σ2 h => ?_) (fun v s2 σ2 h => by cases h.1)
    obtain ⟨h1, rfl, rfl⟩ := h
    cases h1
    refine k_catch (i := 2) (j := 2) (name := x_ns) (hpc := 6) (ls' := [(0, .ref 0), (1, .int (iI (p0)))]) [] [] (0, 5, 6, 47) rfl (fun z hz => absurd hz List.not_mem_nil) ⟨by decide, by decide⟩ (by decide) w_p925 w_1000 rfl dL_chainBlock_6 rfl (by decide) rfl rfl ?_
    refine k_sipush (v := (-1001)) dL_chainBlock_7 (by decide) ?_
    exact k_reti dL_chainBlock_10 rfl rfl (by decide)
set_option maxHeartbeats 4000000 in
theorem cw_undo (hsh : k_Main sh) (hsh' : k_Main sh') (hC : k_C E mX7_undo D [.ref 0] sh σ k1 n1 (k_rx r sh' τ)) (hr : (∃ x : Int32, r = .inl (some (.int x))) ∨ r = .inr x_is) : k_C E mL_undo (D + 1) [.ref 0] sh σ k1 n1 (k_ret (some (.int (iI (w_val [x_is] r)))) sh' τ) := by
  refine k_C_ofW (ls0 := [(0, .ref 0)]) (a0 := (0, 4, 5, 22)) (t0 := []) rfl pnL (fun v hv => k_cat1 rfl hv) (Nat.le_of_ble_eq_true rfl) rfl ?_
  refine k_aload_n dL_undo_0 0 rfl rfl (by decide) ?_
  rcases hr with ⟨x, rfl⟩ | rfl
  · refine k_callV (k1 := k1) (n1 := n1) (k := 0) (n := 0) (st := []) (as := []) dL_undo_1 oX7_undo rfl w_p1106 w_1707 w_1708 (Nat.le_refl _) rfl (Nat.le_of_ble_eq_true rfl) (by decide) (s_0 hsh) rfl hC (Or.inl (k_okl_of (k_Main_len hsh) rfl rfl)) (fun Xn s2 σ2 h => by cases h.1) (fun v s2 σ2 h => ?_)
    obtain ⟨h1, rfl, rfl⟩ := h
    cases h1
    refine k_eqst (st' := [.int (iI x.toInt)]) (by rw [← iI_of]; rfl) ?_
    exact k_reti dL_undo_4 rfl rfl rfl
  · refine k_callV (k1 := k1) (n1 := n1) (k := 0) (n := 0) (st := []) (as := []) dL_undo_1 oX7_undo rfl w_p1106 w_1707 w_1708 (Nat.le_refl _) rfl (Nat.le_of_ble_eq_true rfl) (by decide) (s_0 hsh) rfl hC (Or.inl (k_okl_of (k_Main_len hsh) rfl rfl)) (fun Xn s2 σ2 h => ?_) (fun v s2 σ2 h => by cases h.1)
    obtain ⟨h1, rfl, rfl⟩ := h
    cases h1
    refine k_catch (i := 1) (j := 1) (name := x_is) (hpc := 5) (ls' := [(0, .ref 0)]) [] [] (0, 4, 5, 22) rfl (fun z hz => absurd hz List.not_mem_nil) ⟨by decide, by decide⟩ (by decide) w_p413 w_800 rfl dL_undo_5 rfl (by decide) rfl rfl ?_
    refine k_sipush (v := (-1001)) dL_undo_6 (by decide) ?_
    exact k_reti dL_undo_9 rfl rfl (by decide)
end K_W1
