/-! ===== THE LAW: rules, shapes, its small methods ===== -/
section P_H
variable {E : k_E} {M M1 : k_M} {dp d1 pc k n k1 n1 na m : Nat} {ls : List (Nat × Value)} {st as : List Value} {sh sh' : List k_Sh} {σ σ' τ : Nat → Nat → Int} {Q : k_Q} {o : Option Value}
variable {Q1 : k_Q}
/-- invokestatic of a method with handlers, which lets nothing through -/
theorem k_callSW {idx : Nat} {h1 : Nat × Nat × Nat × Nat} {t1 : List (Nat × Nat × Nat × Nat)} (hd : decode M.2.1 pc = .ok (.invokestatic idx, 3)) (hM : k_MOk M1 na) (hh : M1.2.2.2.2 = h1 :: t1) (hl : Cond.methodLink M.1.cls idx M1.1 ∈ k_TBL) (hs : Cond.static M1.1 ∈ k_TBL) (hdp : d1 + 1 ≤ dp) (hn : as.length = na) (hcat : (st.map fun v => v.category).sum ≤ 8)
    (hC : k_C E M1 d1 as sh σ k1 n1 Q1) (hno : ∀ X sh' σ', ¬ Q1 (.inr X) sh' σ') (hok : k_okl sh.length ls st ∨ ∀ r sh' σ', Q1 r sh' σ' → sh'.length = sh.length)
    (kk : ∀ v sh' σ', Q1 (.inl v) sh' σ' → k_V E M dp (pc + 3) ls (v.toList ++ st) sh' σ' k n Q) : k_V E M dp pc ls (as.reverse ++ st) sh σ (k1 + k) (n1 + n) Q := by
  intro N0 ad0 p e R s m args below meth c H locs cells slots lsC ad mc ms C X hl0
  rw [k_revmap]
  have hc := k_code_cons hh
  have h1 := hM.1
  rw [hc] at h1
  have d2 := C.2.2.2.2.2.2.2.2.2.2.1
  have d3 := C.2.2.2.2.2.2.2.2.2.2.2
  have d4 := hM.2.2.1
  have cw : vx_CSW R s args M.1.cls idx M1.1 M1.2.1 M1.2.2.1 M1.2.2.2.1 (_ :: t1) (k_ws M1) (k_rm d1 k1 n1) k1 n1 na := ⟨⟨rfl, rfl, by show d1 + 1 ≤ R.frames; omega, by show 8 + (M1.2.2.1 + 11) + 64 * d1 ≤ R.locals; omega, k_pay C hM.1, by rw [k_ws, hc]; exact List.mem_cons_self⟩, C.2.2.2.2.2.1 _ (k_cws h1), C.2.2.2.2.2.1 _ (k_cws hM.2.1), hM.2.2.2.1, k_lens hM.2.2.2.2, C.2.2.2.2.2.1 _ (k_cws hl), C.2.2.2.2.2.1 _ (k_cws hs)⟩
  have hr := vx_runSW (As := as.map (k_cv E ad)) (rest := st.map (k_cv E ad)) (l := k_l E) (e := e) (below := below) (meth := meth) (H := H) (locs := locs) (cells := cells) (slots := slots) (g := F0 m pc lsC ((as.map (k_cv E ad)).reverse ++ st.map (k_cv E ad))) (k_fix C) (k_met hC hno ad) cw ⟨k_blind, k_pre C X⟩ rfl (by rw [List.length_map]; exact hn) hl0.1 rfl (k_room (k_fmc C) hcat) hd ⟨by have := X.2.1; have := X.2.2.2.1; omega, by have := X.2.2.1; have := X.2.2.2.2.1; omega⟩
  exact k_run C X hl0 (fun T hT Y => Or.inl (hr T hT Y)) hok (fun Xn sh' σ' h => absurd h (hno _ _ _)) kk
theorem k_scr {N0 : Nat} {ad0 ad : Nat → Nat} {p : Program} {R : Room} {s : State} {m : MethodId} {args : Array Value} {meth : Method} {c : Code} {H : Heap} {locs : List Loc} {cells slots mc ms : Nat} (C : k_Ctx E M dp p R s m args meth c) (X : k_In E N0 ad0 ad sh σ R s H locs cells slots k n mc ms) : ad 1000000 = k_sp E 1000000 ∧ va_X (k_sp E 1000000) (k_L E) (k_xs E) s s.heap ∧ k_sp E 1000000 < s.heap.size ∧ ¬ k_A E (k_sp E 1000000) := by
  obtain ⟨hW, hz, hh, hO⟩ := C.2.2.2.2.2.2.2.2.2.1
  have h1 := hO.2.2.2.2.1
  have h2 := hO.2.2.2.2.2.1
  exact ⟨X.2.2.2.2.2.2.2.2 1000000 (Nat.le_refl _), (va_X.moved hW.alike h1).kept (hh _ h2), Nat.lt_of_lt_of_le h2 hz, Nat.not_le.mpr h2⟩
/-- a number of the script -/
theorem k_sld {i : Int} (hd : decode M.2.1 pc = .ok (.iaload, 1)) (h0 : 0 ≤ i) (h1 : i < k_L E) (hL : k_L E ≤ 2048) (kk : k_V E M dp (pc + 1) ls (.int (iI (k_xs E i.toNat).toInt) :: st) sh σ k n Q) : k_V E M dp pc ls (.int (iI i) :: .ref 1000000 :: st) sh σ k n Q := by
  intro N0 ad0 p e R s m args below meth c H locs cells slots lsC ad mc ms C X hl
  obtain ⟨e1, hX, hb, hA⟩ := k_scr C X
  have hr : k_r i := k_r_in h0 h1 (by omega)
  rw [List.map_cons, List.map_cons, k_cv_ref (by decide), e1]
  have h := kk N0 ad0 p e R s m args below meth c H locs cells slots lsC ad mc ms C X hl
  rw [← iI_of] at h
  rw [← iI_clamp hr] at h
  exact va_sld C.1 C.2.1 hX hb hA X.2.2.2.2.2.1 (iI_in hr h0 h1) hd h
theorem k_slen (hd : decode M.2.1 pc = .ok (.arraylength, 1)) (kk : k_V E M dp (pc + 1) ls (.int (iI (k_L E : Int)) :: st) sh σ k n Q) : k_V E M dp pc ls (.ref 1000000 :: st) sh σ k n Q := by
  intro N0 ad0 p e R s m args below meth c H locs cells slots lsC ad mc ms C X hl
  obtain ⟨e1, hX, hb, hA⟩ := k_scr C X
  rw [List.map_cons, k_cv_ref (by decide), e1]
  exact va_slen C.1 C.2.1 hX hb hA X.2.2.2.2.2.1 hd (kk N0 ad0 p e R s m args below meth c H locs cells slots lsC ad mc ms C X hl)
def k_rj (o : Option Value) (P : List k_Sh → (Nat → Nat → Int) → Prop) : k_Q := fun r sh' σ' => r = .inl o ∧ P sh' σ'
theorem p_callV {idx r ci N : Nat} {cs : List Nat} {T : u_T} (hd : decode M.2.1 pc = .ok (.invokevirtual idx, 3)) (hM : k_MOk M1 na) (hh : M1.2.2.2.2 = []) (hl : Cond.methodLink M.1.cls idx M1.1 ∈ k_TBL) (hi : Cond.instanceMethod M1.1 ∈ k_TBL) (hse : Cond.selects M1.1.cls M1.1 M1.1 ∈ k_TBL) (hdp : d1 + 1 ≤ dp) (hn : as.length = na) (hcat : (st.map fun v => v.category).sum ≤ 8)
    (hr1 : r ≠ 1000001) (hs : sh[r]? = some (.inr (ci, cs))) (hc : k_cls[ci]? = some (M1.1.cls, T, N))
    (hC : k_C E M1 d1 (.ref r :: as) sh σ k1 n1 (k_ret o sh σ')) (kk : k_V E M dp (pc + 3) ls (o.toList ++ st) sh σ' k n Q) : k_V E M dp pc ls (as.reverse ++ .ref r :: st) sh σ (k1 + k) (n1 + n) Q :=
  k_callV hd hM hh hl hi hse hdp hn hcat hr1 hs hc hC (Or.inr fun r s2 σ2 h => by rw [h.2.1]) (fun Xn s2 σ2 h => by cases h.1) (fun v s2 σ2 h => by
    obtain ⟨h1, rfl, rfl⟩ := h
    cases h1
    exact kk)
theorem p_callS {idx : Nat} (hd : decode M.2.1 pc = .ok (.invokestatic idx, 3)) (hM : k_MOk M1 na) (hh : M1.2.2.2.2 = []) (hl : Cond.methodLink M.1.cls idx M1.1 ∈ k_TBL) (hs : Cond.static M1.1 ∈ k_TBL) (hdp : d1 + 1 ≤ dp) (hn : as.length = na) (hcat : (st.map fun v => v.category).sum ≤ 8)
    (hC : k_C E M1 d1 as sh σ k1 n1 (k_ret o sh σ')) (kk : k_V E M dp (pc + 3) ls (o.toList ++ st) sh σ' k n Q) : k_V E M dp pc ls (as.reverse ++ st) sh σ (k1 + k) (n1 + n) Q :=
  k_callS hd hM hh hl hs hdp hn hcat hC (Or.inr fun r s2 σ2 h => by rw [h.2.1]) (fun Xn s2 σ2 h => by cases h.1) (fun v s2 σ2 h => by
    obtain ⟨h1, rfl, rfl⟩ := h
    cases h1
    exact kk)
theorem p_callQ {idx : Nat} {P : List k_Sh → (Nat → Nat → Int) → Prop} (hd : decode M.2.1 pc = .ok (.invokestatic idx, 3)) (hM : k_MOk M1 na) (hh : M1.2.2.2.2 = []) (hl : Cond.methodLink M.1.cls idx M1.1 ∈ k_TBL) (hs : Cond.static M1.1 ∈ k_TBL) (hdp : d1 + 1 ≤ dp) (hn : as.length = na) (hcat : (st.map fun v => v.category).sum ≤ 8)
    (hC : k_C E M1 d1 as sh σ k1 n1 (k_rj o P)) (hok : k_okl sh.length ls st) (kk : ∀ s2 σ2, P s2 σ2 → k_V E M dp (pc + 3) ls (o.toList ++ st) s2 σ2 k n Q) : k_V E M dp pc ls (as.reverse ++ st) sh σ (k1 + k) (n1 + n) Q :=
  k_callS hd hM hh hl hs hdp hn hcat hC (Or.inl hok) (fun Xn s2 σ2 h => by cases h.1) (fun v s2 σ2 h => by
    obtain ⟨h1, h2⟩ := h
    cases h1
    exact kk s2 σ2 h2)
theorem p_callA {idx : Nat} (hd : decode M.2.1 pc = .ok (.invokestatic idx, 3)) (hM : k_MOk M1 na) (hh : M1.2.2.2.2 = []) (hl : Cond.methodLink M.1.cls idx M1.1 ∈ k_TBL) (hs : Cond.static M1.1 ∈ k_TBL) (hdp : d1 + 1 ≤ dp) (hn : as.length = na) (hcat : (st.map fun v => v.category).sum ≤ 8)
    (hC : k_C E M1 d1 as sh σ k1 n1 (k_ret o sh' σ')) (hok : k_okl sh.length ls st) (kk : k_V E M dp (pc + 3) ls (o.toList ++ st) sh' σ' k n Q) : k_V E M dp pc ls (as.reverse ++ st) sh σ (k1 + k) (n1 + n) Q :=
  k_callS hd hM hh hl hs hdp hn hcat hC (Or.inl hok) (fun Xn s2 σ2 h => by cases h.1) (fun v s2 σ2 h => by
    obtain ⟨h1, rfl, rfl⟩ := h
    cases h1
    exact kk)
theorem p_callW {idx : Nat} {h1 : Nat × Nat × Nat × Nat} {t1 : List (Nat × Nat × Nat × Nat)} (hd : decode M.2.1 pc = .ok (.invokestatic idx, 3)) (hM : k_MOk M1 na) (hh : M1.2.2.2.2 = h1 :: t1) (hl : Cond.methodLink M.1.cls idx M1.1 ∈ k_TBL) (hs : Cond.static M1.1 ∈ k_TBL) (hdp : d1 + 1 ≤ dp) (hn : as.length = na) (hcat : (st.map fun v => v.category).sum ≤ 8)
    (hC : k_C E M1 d1 as sh σ k1 n1 (k_ret o sh σ')) (kk : k_V E M dp (pc + 3) ls (o.toList ++ st) sh σ' k n Q) : k_V E M dp pc ls (as.reverse ++ st) sh σ (k1 + k) (n1 + n) Q :=
  k_callSW hd hM hh hl hs hdp hn hcat hC k_noX (Or.inr fun r s2 σ2 h => by rw [h.2.1]) (fun v s2 σ2 h => by
    obtain ⟨h1, rfl, rfl⟩ := h
    cases h1
    exact kk)
/-! the shapes: the planner's cells, rows of numbers behind them -/
def p_Sh (sh : List k_Sh) (n : Nat) : Prop := ∃ l : List k_Sh, sh = k_shape ++ l ∧ l.length ≤ n ∧ ∀ x ∈ l, ∃ w, x = .inl (0, w)
theorem k_shape_len : k_shape.length = 123 := by decide +kernel
theorem p_Sh_main (h : p_Sh sh m) : k_Main sh := fun i x hx => by
  obtain ⟨l, rfl, -, -⟩ := h
  have := (List.getElem?_eq_some_iff.mp hx).1
  rw [List.getElem?_append_left this]
  exact hx
theorem p_Sh_len (h : p_Sh sh m) : 123 ≤ sh.length ∧ sh.length ≤ 123 + m := by
  obtain ⟨l, rfl, h2, -⟩ := h
  rw [List.length_append, k_shape_len]
  omega
theorem p_Sh_push (h : p_Sh sh m) (w : Nat) : p_Sh (sh ++ [.inl (0, w)]) (m + 1) := by
  obtain ⟨l, rfl, h2, h3⟩ := h
  refine ⟨l ++ [.inl (0, w)], List.append_assoc _ _ _, by rw [List.length_append, List.length_singleton]; omega, fun x hx => ?_⟩
  rcases List.mem_append.mp hx with h | h
  · exact h3 x h
  · exact ⟨w, List.mem_singleton.mp h⟩
theorem p_Sh_mono {m' : Nat} (h : p_Sh sh m) (hm : m ≤ m') : p_Sh sh m' := by
  obtain ⟨l, h1, h2, h3⟩ := h
  exact ⟨l, h1, by omega, h3⟩
theorem p_last (sh : List k_Sh) (x : k_Sh) : (sh ++ [x])[sh.length]? = some x := List.getElem?_concat_length
theorem p_before {i : Nat} {x y : k_Sh} (h : sh[i]? = some x) : (sh ++ [y])[i]? = some x := by
  rw [List.getElem?_append_left (List.getElem?_eq_some_iff.mp h).1]
  exact h
def z_okS (i : Nat) : k_Sh → Bool
  | .inl (5, _) => i == 25
  | .inl (6, _) => false
  | .inl _ => true
  | .inr (_, cs) => (cs.all fun c => c == 0 || (Nat.ble 3 c && Nat.blt c 126)) || ((i == 117 || i == 121) && cs == [1, 0, 0, 0])
theorem z_okS_all : (k_shape.mapIdx z_okS).all id = true := by decide +kernel
theorem z_okS_at {i : Nat} {x : k_Sh} (h : k_shape[i]? = some x) : z_okS i x = true := by
  have h1 := List.all_eq_true.mp z_okS_all (z_okS i x) (by
    rw [List.mem_iff_getElem?]
    refine ⟨i, ?_⟩
    rw [List.getElem?_mapIdx, h]
    rfl)
  exact h1
theorem k_okc_at {N i : Nat} {x : k_Sh} (hN : 123 ≤ N) (hz : z_okS i x = true) (h117 : σ 117 0 = 118) (h121 : σ 121 0 = 122) (h25 : ∀ j, σ 25 j = 0 ∨ (σ 25 j).toNat - 1 < 123) : k_okc N x (σ i) := by
  rcases x with ⟨kd, n⟩ | ⟨ci, cs⟩
  · match kd, hz with
    | 0, _ => exact True.intro
    | 1, _ => exact True.intro
    | 2, _ => exact True.intro
    | 3, _ => exact True.intro
    | 4, _ => exact True.intro
    | 5, hz =>
      have e : i = 25 := by simpa [z_okS] using hz
      subst e
      exact fun j => (h25 j).imp id fun y => Or.inl (show (σ 25 j).toNat - 1 < N by omega)
    | 6, hz => cases hz
    | kd + 7, _ => exact True.intro
  · show ∀ (k c : Nat), cs[k]? = some c → k_okv N (k_fv c (σ i k))
    have hz : ((cs.all fun c => c == 0 || (Nat.ble 3 c && Nat.blt c 126)) || ((i == 117 || i == 121) && cs == [1, 0, 0, 0])) = true := hz
    intro k c hc
    rcases (Bool.or_eq_true _ _).mp hz with h | h
    · have h2 := List.all_eq_true.mp h c (List.mem_of_getElem? hc)
      rcases (Bool.or_eq_true _ _).mp h2 with h3 | h3
      · have : c = 0 := by simpa using h3
        subst this
        exact True.intro
      · obtain ⟨h4, h5⟩ := (Bool.and_eq_true _ _).mp h3
        have h4 := Nat.le_of_ble_eq_true h4
        have h5 : c ≤ 125 := by simpa [Nat.blt] using h5
        obtain ⟨d, rfl⟩ : ∃ d, c = d + 3 := ⟨c - 3, by omega⟩
        exact Or.inl (show d < N by omega)
    · obtain ⟨h4, h5⟩ := (Bool.and_eq_true _ _).mp h
      have e5 : cs = [1, 0, 0, 0] := by simpa using h5
      subst e5
      have hi : i = 117 ∨ i = 121 := by simpa using h4
      have h0 : ∃ a : Nat, a < N ∧ σ i 0 = (a : Int) := by
        rcases hi with rfl | rfl
        · exact ⟨118, by omega, h117⟩
        · exact ⟨122, by omega, h121⟩
      obtain ⟨a, ha, ea⟩ := h0
      match k, hc with
      | 0, hc =>
        have : c = 1 := (Option.some.inj hc).symm
        subst this
        exact Or.inl (show (σ i 0).toNat < N by omega)
      | 1, hc =>
        have : c = 0 := (Option.some.inj hc).symm
        subst this
        exact True.intro
      | 2, hc =>
        have : c = 0 := (Option.some.inj hc).symm
        subst this
        exact True.intro
      | 3, hc =>
        have : c = 0 := (Option.some.inj hc).symm
        subst this
        exact True.intro
      | k + 4, hc => cases hc
theorem p_Sh_ok (h : p_Sh sh m) (hJ : p_J σ) : k_ok sh σ := by
  have hl := (p_Sh_len h).1
  intro i x hx
  by_cases q : i < 123
  · have hs : k_shape[i]? = some x := by
      have : i < k_shape.length := by rw [k_shape_len]; exact q
      have e := p_Sh_main h i k_shape[i] (List.getElem?_eq_getElem this)
      rw [hx] at e
      rw [List.getElem?_eq_getElem this, ← e]
    obtain ⟨s1, s2, s3⟩ := hJ.1.2.2.2
    refine k_okc_at hl (z_okS_at hs) s1 s2 fun j => ?_
    by_cases w : j < 8
    · have := hJ.1.1.2.2.2.2.1 j w
      exact Or.inr (by omega)
    · exact Or.inl (s3 j (by omega))
  · obtain ⟨l, rfl, -, h3⟩ := h
    rw [List.getElem?_append_right (by rw [k_shape_len]; omega)] at hx
    obtain ⟨w, rfl⟩ := h3 x (List.mem_of_getElem? hx)
    exact True.intro
theorem p_newa {i : Int} {w : Nat} (hd : decode M.2.1 pc = .ok (.newarray .int, 2)) (hi : i = (w : Int)) (hw : w < 65536) (hS : p_Sh sh m) (hm : m < 900) (hJ : p_J σ) (hl : k_okl sh.length ls st) (kk : k_V E M dp (pc + 2) ls (.ref sh.length :: st) (sh ++ [.inl (0, w)]) (k_up σ sh.length fun _ => 0) k n Q) : k_V E M dp pc ls (.int (iI i) :: st) sh σ (k + 1) (n + w) Q :=
  k_newa0 hd w_186 hi hw (by have := p_Sh_len hS; omega) (p_Sh_ok hS hJ) hl.1 hl.2 kk
theorem p_J_up {N : Nat} {f : Nat → Int} (hJ : p_J σ) (hN : 123 ≤ N) : p_J (k_up σ N f) := p_J_cong hJ fun i hi => k_up_ne (by omega)
theorem p_pl_up {N : Nat} {f : Nat → Int} (hN : 123 ≤ N) : k_PlEq (k_up σ N f) σ := fun i hi => k_up_ne (by omega)
/-! numbers -/
theorem p_divI {x y : Int} (hx : 0 ≤ x) (hx2 : x < 2147483648) (hy : 0 < y) (hy2 : y < 2147483648) : iI x / iI y = iI (x / y) := by
  have hd : x / y ≤ x := Int.ediv_le_self _ hx
  have hd0 : 0 ≤ x / y := Int.ediv_nonneg hx (Int.le_of_lt hy)
  apply Int32.toInt_inj.mp
  rw [Int32.toInt_div_of_ne_right _ _ (fun e => ?_), iI_toInt ⟨by omega, hx2⟩, iI_toInt ⟨by omega, hy2⟩, iI_toInt ⟨by omega, by omega⟩, Int.tdiv_eq_ediv_of_nonneg hx]
  have e2 : (iI y).toInt = -1 := by rw [e]; decide
  rw [iI_toInt ⟨by omega, hy2⟩] at e2
  omega
theorem p_remI {x y : Int} (hx : 0 ≤ x) (hx2 : x < 2147483648) (hy : 0 < y) (hy2 : y < 2147483648) : iI x - iI x / iI y * iI y = iI (x % y) := by
  rw [p_divI hx hx2 hy hy2, iI_mul, iI_sub, Int.emod_def, Int.mul_comm y]
theorem p_ushr (x : Int32) : ∃ z : Int, (0 ≤ z ∧ z < 2147483648) ∧ (x.toUInt32 >>> ((iI 1).toUInt32 &&& Int32.toUInt32 31)).toInt32 = iI z := by
  have hc : ((iI 1).toUInt32 &&& Int32.toUInt32 31).toNat % 32 = 1 := by decide +kernel
  have hu : (x.toUInt32 >>> ((iI 1).toUInt32 &&& Int32.toUInt32 31)).toNat = x.toUInt32.toNat / 2 := by
    rw [UInt32.toNat_shiftRight, hc, Nat.shiftRight_eq_div_pow]
  have hlt := x.toUInt32.toNat_lt
  generalize (x.toUInt32 >>> ((iI 1).toUInt32 &&& Int32.toUInt32 31)) = u at hu ⊢
  have he : u.toInt32.toInt = (u.toNat : Int) := BitVec.toInt_eq_toNat_of_lt (x := u.toBitVec) (by show 2 * u.toNat < 2 ^ 32; omega)
  refine ⟨(u.toNat : Int), by omega, ?_⟩
  rw [← he]
  exact iI_of _
theorem p_ushr_i {x z : Int} (hx : -2147483648 ≤ x ∧ x < 2147483648) (h : ((iI x).toUInt32 >>> ((iI 1).toUInt32 &&& Int32.toUInt32 31)).toInt32 = iI z) : ((iI x).toUInt32 >>> ((iI 1).toUInt32 &&& Int32.toUInt32 31)).toInt32 = iI z := h
/-! cell and pick -/
theorem w_p405 : Cond.constant "OptionBlockPlannerLaw" 7 40503 ∈ k_TBL := List.mem_filter.mpr ⟨List.mem_of_getElem? (i := 405) (by decide +kernel), rfl⟩
theorem c_cell (hL : k_L E ≤ 2048) {i : Int} (hi : 0 ≤ i ∧ i < 10000) : ∃ x : Int32, ∀ (sh : List k_Sh) (σ : Nat → Nat → Int), k_C E mL_cell 1 [.ref 1000000, .int (iI i)] sh σ 0 0 (k_ret (some (.int x)) sh σ) := by
  by_cases q : (k_L E : Int) ≤ i
  · refine ⟨40503 * iI i, fun sh σ => ?_⟩
    refine k_C_of (ls0 := [(0, .ref 1000000), (1, .int (iI i))]) rfl pnL (fun v hv => k_cat1 rfl hv) (Nat.le_of_ble_eq_true rfl) rfl ?_
    refine k_iload_n dL_cell_0 1 rfl rfl ?_
    refine k_aload_n dL_cell_1 0 rfl rfl (by decide) ?_
    refine k_slen dL_cell_2 ?_
    refine k_icmp_ge (tgt := 12) dL_cell_3 rfl ⟨by omega, by omega⟩ ⟨by omega, by omega⟩ (fun h => ?_) (fun h => absurd h (by omega))
    refine k_ldc dL_cell_12 w_p405 ?_
    refine k_iload_n dL_cell_14 1 rfl rfl ?_
    refine k_imulR (v := 40503 * iI i) dL_cell_15 rfl ?_
    exact k_ret_i dL_cell_16 rfl ⟨rfl, rfl, rfl⟩
  · refine ⟨iI (k_xs E i.toNat).toInt, fun sh σ => ?_⟩
    refine k_C_of (ls0 := [(0, .ref 1000000), (1, .int (iI i))]) rfl pnL (fun v hv => k_cat1 rfl hv) (Nat.le_of_ble_eq_true rfl) rfl ?_
    refine k_iload_n dL_cell_0 1 rfl rfl ?_
    refine k_aload_n dL_cell_1 0 rfl rfl (by decide) ?_
    refine k_slen dL_cell_2 ?_
    refine k_icmp_ge (tgt := 12) dL_cell_3 rfl ⟨by omega, by omega⟩ ⟨by omega, by omega⟩ (fun h => absurd h (by omega)) (fun h => ?_)
    refine k_aload_n dL_cell_6 0 rfl rfl (by decide) ?_
    refine k_iload_n dL_cell_7 1 rfl rfl ?_
    refine k_sld dL_cell_8 hi.1 (by omega) hL ?_
    refine k_goto (tgt := 16) dL_cell_9 rfl ?_
    exact k_ret_i dL_cell_16 rfl ⟨rfl, rfl, rfl⟩
theorem c_pick (hL : k_L E ≤ 2048) {i c : Int} (hi : 0 ≤ i ∧ i < 10000) (hc : 0 < c ∧ c < 100) : ∃ v : Int, (0 ≤ v ∧ v < c) ∧ ∀ (sh : List k_Sh) (σ : Nat → Nat → Int), k_C E mL_pick 2 [.ref 1000000, .int (iI i), .int (iI c)] sh σ 0 0 (k_ret (some (.int (iI v))) sh σ) := by
  obtain ⟨x, hx⟩ := c_cell (E := E) hL hi
  obtain ⟨z, hz, hz2⟩ := p_ushr x
  refine ⟨z % c, ⟨Int.emod_nonneg _ (by omega), Int.emod_lt_of_pos _ (by omega)⟩, fun sh σ => ?_⟩
  have h0 : ¬ iI c = 0 := fun e => by
    have := (iI_eq (a := c) (b := 0) ⟨by omega, by omega⟩ ⟨by decide, by decide⟩).mp e
    omega
  refine k_C_of (ls0 := [(0, .ref 1000000), (1, .int (iI i)), (2, .int (iI c))]) rfl pnL (fun v hv => k_cat1 rfl hv) (Nat.le_of_ble_eq_true rfl) rfl ?_
  refine k_aload_n dL_pick_0 0 rfl rfl (by decide) ?_
  refine k_iload_n dL_pick_1 1 rfl rfl ?_
  refine k_callSr (st := []) (as := [.ref 1000000, .int (iI i)]) dL_pick_2 oL_cell w_p402 w_p403 rfl (by decide) rfl (Nat.le_of_ble_eq_true rfl) (hx sh σ) ?_
  refine k_iconst (v := 1) dL_pick_5 rfl ?_
  refine k_iushr (v := iI z) dL_pick_6 hz2 ?_
  refine k_iload_n dL_pick_7 2 rfl rfl ?_
  refine k_irem (v := iI (z % c)) dL_pick_8 h0 (p_remI hz.1 hz.2 hc.1 (by omega)) ?_
  exact k_ret_i dL_pick_9 rfl ⟨rfl, rfl, rfl⟩
/-- the first n entries of the timetables, 0 behind -/
def p_Tn (σ : Nat → Nat → Int) (n : Nat) : Nat → Int := fun j => if j < n then p_T σ j else 0
theorem p_Tn_0 : (fun _ => 0) = p_Tn σ 0 := rfl
theorem p_Tn_s (σ : Nat → Nat → Int) (N i : Nat) : k_up σ N (p_Tn σ (i + 1)) = k_up (k_up σ N (p_Tn σ i)) N (k_u1 (k_up σ N (p_Tn σ i) N) ((i : Int)).toNat (p_T σ i)) := by
  rw [k_up_same]
  funext a
  unfold k_up
  by_cases q : a = N
  · rw [if_pos q, if_pos q]
    funext j
    unfold p_Tn k_u1
    rw [Int.toNat_natCast]
    by_cases w : j = i
    · rw [w, if_pos (by omega), if_pos rfl]
    · rw [if_neg w]
      show (if j < i + 1 then p_T σ j else 0) = if j < i then p_T σ j else 0
      by_cases v : j < i
      · rw [if_pos v, if_pos (by omega)]
      · rw [if_neg v, if_neg (by omega)]
  · rw [if_neg q, if_neg q, if_neg q]
set_option maxHeartbeats 8000000 in
theorem c_tables (hS : p_Sh sh m) (hm : m < 900) (hJ : p_J σ) : k_C E mL_tables 17 [.ref 0] sh σ 200 1200 (k_ret (some (.ref sh.length)) (sh ++ [.inl (0, (4 * σ 1 2).toNat)]) (k_up σ sh.length (p_Tn σ (4 * σ 1 2).toNat))) := by
  refine k_C_of (ls0 := [(0, .ref 0)]) rfl pnL (fun v hv => k_cat1 rfl hv) (Nat.le_of_ble_eq_true rfl) rfl ?_
  have hsh := p_Sh_main hS
  have hsh1 := p_Sh_main (p_Sh_push hS (4 * σ 1 2).toNat)
  have hl0 := p_Sh_len hS
  obtain ⟨j0, j1, j2⟩ := p_J_rg hJ
  refine k_iconst (v := 4) dL_tables_0 rfl ?_
  refine k_aload_n dL_tables_1 0 rfl rfl (by decide) ?_
  refine k_less (k' := 1 + (199)) (n' := 6 + (1194)) (by omega) (by omega) ?_
  refine p_callV (k1 := 1) (n1 := 6) (k := 199) (n := 1194) (st := [.int (iI (4))]) (as := []) dL_tables_2 oX7_pupilCount rfl w_p918 w_410 w_411 (by decide) rfl (Nat.le_of_ble_eq_true rfl) (by decide) (s_0 hsh) rfl (d_pupilCount hsh hJ) ?_
  refine k_imul dL_tables_5 ?_
  refine k_less (k' := 1 + (198)) (n' := 48 + (1146)) (by omega) (by omega) ?_
  refine k_less (k' := (198) + 1) (n' := (1146) + (4 * σ 1 2).toNat) (by omega) (by omega) ?_
  refine p_newa (w := (4 * σ 1 2).toNat) dL_tables_6 (by omega) (by omega) hS hm hJ (k_okl_l (Or.inl (by show (0 : Nat) < _; omega)) k_okl_0) ?_
  refine k_eqσ (σ' := k_up σ sh.length (p_Tn σ 0)) (by rw [p_Tn_0]) ?_
  refine k_astore_n (ls' := [(0, .ref 0), (1, .ref sh.length)]) dL_tables_8 rfl (by omega) (by decide) rfl rfl ?_
  refine k_iconst (v := 0) dL_tables_9 rfl ?_
  refine k_istore_n (ls' := [(0, .ref 0), (1, .ref sh.length), (2, .int (iI (0)))]) dL_tables_10 rfl (by decide) rfl rfl ?_
  refine k_less (k' := 2 * ((4 * σ 1 2).toNat - 0) + 0) (n' := 12 * ((4 * σ 1 2).toNat - 0) + 0) (by omega) (by omega) ?_
  refine k_down (P := fun i11 : Nat => k_V E mL_tables _ 11 [(0, .ref 0), (1, .ref sh.length), (2, .int (iI ((i11 : Int))))] [] (sh ++ [.inl (0, (4 * σ 1 2).toNat)]) (k_up σ sh.length (p_Tn σ i11)) (2 * ((4 * σ 1 2).toNat - i11) + 0) (12 * ((4 * σ 1 2).toNat - i11) + 0) _) ((4 * σ 1 2).toNat) ?_ ?_
  · refine k_less (k' := 0) (n' := 0) (by omega) (by omega) ?_
    refine k_iload_n dL_tables_11 2 rfl rfl ?_
    refine k_aload_n dL_tables_12 1 rfl rfl (by omega) ?_
    refine k_alen dL_tables_13 (by omega) (p_last _ _) (by decide) ?_
    refine k_icmp_ge (tgt := 50) dL_tables_14 rfl ⟨by omega, by omega⟩ ⟨by omega, by omega⟩ (fun h_1 => ?_) (fun h_1 => absurd h_1 (by omega))
    refine k_aload_n dL_tables_50 1 rfl rfl (by omega) ?_
    refine k_eqσ (σ' := (k_up σ sh.length (p_Tn σ (4 * σ 1 2).toNat))) rfl ?_
    exact k_retr dL_tables_51 (rt := _) rfl (Or.inr ⟨_, rfl⟩) rfl (by omega) rfl
  · intro i11 hi11 ih11
    refine k_less (k' := 2 + (2 * ((4 * σ 1 2).toNat - (i11 + 1)) + 0)) (n' := 12 + (12 * ((4 * σ 1 2).toNat - (i11 + 1)) + 0)) (by omega) (by omega) ?_
    refine k_iload_n dL_tables_11 2 rfl rfl ?_
    refine k_aload_n dL_tables_12 1 rfl rfl (by omega) ?_
    refine k_alen dL_tables_13 (by omega) (p_last _ _) (by decide) ?_
    refine k_icmp_ge (tgt := 50) dL_tables_14 rfl ⟨by omega, by omega⟩ ⟨by omega, by omega⟩ (fun h_2 => absurd h_2 (by omega)) (fun h_2 => ?_)
    refine k_aload_n dL_tables_17 1 rfl rfl (by omega) ?_
    refine k_iload_n dL_tables_18 2 rfl rfl ?_
    refine k_iload_n dL_tables_19 2 rfl rfl ?_
    refine k_iconst (v := 4) dL_tables_20 rfl ?_
    refine k_irem (v := (iI ((i11 : Int) % 4))) dL_tables_21 (by decide) (p_remI (by omega) (by omega) (by decide) (by decide)) ?_
    refine k_aload_n dL_tables_22 0 rfl rfl (by decide) ?_
    have hbc := d_blockCount (E := E) hsh1 (p_J_up (f := p_Tn σ i11) hJ hl0.1)
    rw [k_up_ne (show (1 : Nat) ≠ sh.length by omega)] at hbc
    refine k_less (k' := 1 + (1 + (2 * ((4 * σ 1 2).toNat - (i11 + 1)) + 0))) (n' := 6 + (6 + (12 * ((4 * σ 1 2).toNat - (i11 + 1)) + 0))) (by omega) (by omega) ?_
    refine p_callV (k1 := 1) (n1 := 6) (k := 1 + (2 * ((4 * σ 1 2).toNat - (i11 + 1)) + 0)) (n := 6 + (12 * ((4 * σ 1 2).toNat - (i11 + 1)) + 0)) (st := [.int (iI ((i11 : Int) % 4)), .int (iI ((i11 : Int))), .ref sh.length]) (as := []) dL_tables_23 oX7_blockCount rfl w_p914 w_406 w_407 (by decide) rfl (Nat.le_of_ble_eq_true rfl) (by decide) (s_0 hsh1) rfl (hbc) ?_
    refine k_icmp_ge (tgt := 42) dL_tables_26 rfl ⟨by omega, by omega⟩ ⟨by omega, by omega⟩ (fun h_3 => ?_) (fun h_3 => ?_)
    · refine k_iconst (v := (-1)) dL_tables_42 rfl ?_
      refine k_eqst (congrArg (fun z : Int => Value.int (iI z) :: [.int (iI ((i11 : Int))), .ref sh.length]) (show p_T σ i11 = -1 from (if_neg (by omega)))) ?_
      refine k_iast (w := (4 * σ 1 2).toNat) dL_tables_43 (by omega) (p_last _ _) (by omega) (by omega) (by omega) ?_
      refine k_iinc (ls' := [(0, .ref 0), (1, .ref sh.length), (2, .int (iI ((i11 : Int) + 1)))]) dL_tables_44 2 rfl (by decide) rfl rfl ?_
      refine k_goto (tgt := 11) dL_tables_47 rfl ?_
      refine k_eqσ (σ' := (k_up σ sh.length (p_Tn σ (i11 + 1)))) (p_Tn_s σ sh.length i11) ?_
      refine k_lrw (q := 2) (j := 2) (a' := ((i11 + 1 : Nat) : Int)) (ls' := [(0, .ref 0), (1, .ref sh.length), (2, .int (iI (((i11 + 1 : Nat) : Int))))]) rfl (by omega) rfl ?_
      refine k_less (k' := 2 * ((4 * σ 1 2).toNat - (i11 + 1)) + 0) (n' := 12 * ((4 * σ 1 2).toNat - (i11 + 1)) + 0) (by omega) (by omega) ?_
      exact ih11
    · refine k_aload_n dL_tables_29 0 rfl rfl (by decide) ?_
      refine k_iload_n dL_tables_30 2 rfl rfl ?_
      refine k_iconst (v := 4) dL_tables_31 rfl ?_
      refine k_idiv (v := (iI ((i11 : Int) / 4))) dL_tables_32 (by decide) (p_divI (by omega) (by omega) (by decide) (by decide)) ?_
      refine k_iload_n dL_tables_33 2 rfl rfl ?_
      refine k_iconst (v := 4) dL_tables_34 rfl ?_
      refine k_irem (v := (iI ((i11 : Int) % 4))) dL_tables_35 (by decide) (p_remI (by omega) (by omega) (by decide) (by decide)) ?_
      have hsub := v_subjectIn (E := E) hsh1 (p_J_up (f := p_Tn σ i11) hJ hl0.1) (p := (i11 : Int) / 4) (b := (i11 : Int) % 4) (by rw [k_up_ne (by omega)]; omega) (by rw [k_up_ne (by omega)]; omega)
      rw [(p_pl_up hl0.1).lesson] at hsub
      refine k_less (k' := 1 + (2 * ((4 * σ 1 2).toNat - (i11 + 1)) + 0)) (n' := 6 + (12 * ((4 * σ 1 2).toNat - (i11 + 1)) + 0)) (by omega) (by omega) ?_
      refine p_callW (k1 := 1) (n1 := 6) (k := 2 * ((4 * σ 1 2).toNat - (i11 + 1)) + 0) (n := 12 * ((4 * σ 1 2).toNat - (i11 + 1)) + 0) (st := [.int (iI ((i11 : Int))), .ref sh.length]) (as := [.ref 0, .int (iI ((i11 : Int) / 4)), .int (iI ((i11 : Int) % 4))]) dL_tables_36 oL_subjectIn rfl w_p840 w_1060 (by decide) rfl (Nat.le_of_ble_eq_true rfl) (hsub) ?_
      refine k_goto (tgt := 43) dL_tables_39 rfl ?_
      refine k_eqst (congrArg (fun z : Int => Value.int (iI z) :: [.int (iI ((i11 : Int))), .ref sh.length]) (show p_T σ i11 = f_lesson σ ((i11 : Int) / 4) ((i11 : Int) % 4) from (if_pos (by omega)))) ?_
      refine k_iast (w := (4 * σ 1 2).toNat) dL_tables_43 (by omega) (p_last _ _) (by omega) (by omega) (by omega) ?_
      refine k_iinc (ls' := [(0, .ref 0), (1, .ref sh.length), (2, .int (iI ((i11 : Int) + 1)))]) dL_tables_44 2 rfl (by decide) rfl rfl ?_
      refine k_goto (tgt := 11) dL_tables_47 rfl ?_
      refine k_eqσ (σ' := (k_up σ sh.length (p_Tn σ (i11 + 1)))) (p_Tn_s σ sh.length i11) ?_
      refine k_lrw (q := 2) (j := 2) (a' := ((i11 + 1 : Nat) : Int)) (ls' := [(0, .ref 0), (1, .ref sh.length), (2, .int (iI (((i11 + 1 : Nat) : Int))))]) rfl (by omega) rfl ?_
      refine k_less (k' := 2 * ((4 * σ 1 2).toNat - (i11 + 1)) + 0) (n' := 12 * ((4 * σ 1 2).toNat - (i11 + 1)) + 0) (by omega) (by omega) ?_
      exact ih11
set_option maxHeartbeats 8000000 in
theorem c_same {A B W : Nat} (hA : sh[A]? = some (.inl (0, W))) (hB : sh[B]? = some (.inl (0, W))) (hlt : (A < 1000000 ∧ B < 1000000) ∧ W < 10000) (hr : ∀ j : Nat, j < W → -2147483648 ≤ σ A j ∧ σ A j < 2147483648) (he : ∀ j : Nat, j < W → σ A j = σ B j) : k_C E mL_same 17 [.ref A, .ref B] sh σ 0 0 (k_ret (some (.int (iI 1))) sh σ) := by
  refine k_C_of (ls0 := [(0, .ref A), (1, .ref B)]) rfl pnL (fun v hv => k_cat1 rfl hv) (Nat.le_of_ble_eq_true rfl) rfl ?_
  refine k_aload_n dL_same_0 0 rfl rfl (by omega) ?_
  refine k_alen dL_same_1 (by omega) hA (by decide) ?_
  refine k_aload_n dL_same_2 1 rfl rfl (by omega) ?_
  refine k_alen dL_same_3 (by omega) hB (by decide) ?_
  refine k_icmp_ne (tgt := 11) dL_same_4 rfl ⟨by omega, by omega⟩ ⟨by omega, by omega⟩ (fun h_1 => absurd h_1 (by omega)) (fun h_1 => ?_)
  refine k_iconst (v := 1) dL_same_7 rfl ?_
  refine k_goto (tgt := 12) dL_same_8 rfl ?_
  refine k_istore_n (ls' := [(0, .ref A), (1, .ref B), (2, .int (iI (1)))]) dL_same_12 rfl (by decide) rfl rfl ?_
  refine k_iconst (v := 0) dL_same_13 rfl ?_
  refine k_istore_n (ls' := [(0, .ref A), (1, .ref B), (2, .int (iI (1))), (3, .int (iI (0)))]) dL_same_14 rfl (by decide) rfl rfl ?_
  refine k_less (k' := 0 * (W - 0) + 0) (n' := 0 * (W - 0) + 0) (by omega) (by omega) ?_
  refine k_down (P := fun i15 : Nat => k_V E mL_same _ 15 [(0, .ref A), (1, .ref B), (2, .int (iI (1))), (3, .int (iI ((i15 : Int))))] [] sh σ (0 * (W - i15) + 0) (0 * (W - i15) + 0) _) (W) ?_ ?_
  · refine k_less (k' := 0) (n' := 0) (by omega) (by omega) ?_
    refine k_iload_n dL_same_15 3 rfl rfl ?_
    refine k_aload_n dL_same_16 0 rfl rfl (by omega) ?_
    refine k_alen dL_same_17 (by omega) hA (by decide) ?_
    refine k_icmp_ge (tgt := 46) dL_same_18 rfl ⟨by omega, by omega⟩ ⟨by omega, by omega⟩ (fun h_2 => ?_) (fun h_2 => absurd h_2 (by omega))
    refine k_iload_n dL_same_46 2 rfl rfl ?_
    exact k_retz dL_same_47 rfl (Or.inr rfl) rfl (by first | rfl | omega)
  · intro i15 hi15 ih15
    refine k_less (k' := 0 * (W - (i15 + 1)) + 0) (n' := 0 * (W - (i15 + 1)) + 0) (by omega) (by omega) ?_
    have ha := hr ((i15 : Int)).toNat (by omega)
    have hab := he ((i15 : Int)).toNat (by omega)
    refine k_iload_n dL_same_15 3 rfl rfl ?_
    refine k_aload_n dL_same_16 0 rfl rfl (by omega) ?_
    refine k_alen dL_same_17 (by omega) hA (by decide) ?_
    refine k_icmp_ge (tgt := 46) dL_same_18 rfl ⟨by omega, by omega⟩ ⟨by omega, by omega⟩ (fun h_3 => absurd h_3 (by omega)) (fun h_3 => ?_)
    refine k_iload_n dL_same_21 2 rfl rfl ?_
    refine k_if_eq (tgt := 46) dL_same_22 rfl ⟨by decide, by decide⟩ (fun h_4 => absurd h_4 (by decide)) (fun h_4 => ?_)
    refine k_aload_n dL_same_25 0 rfl rfl (by omega) ?_
    refine k_iload_n dL_same_26 3 rfl rfl ?_
    refine k_iald (w := W) dL_same_27 (by omega) hA (by omega) (by omega) (by omega) ?_
    refine k_aload_n dL_same_28 1 rfl rfl (by omega) ?_
    refine k_iload_n dL_same_29 3 rfl rfl ?_
    refine k_iald (w := W) dL_same_30 (by omega) hB (by omega) (by omega) (by omega) ?_
    refine k_icmp_ne (tgt := 38) dL_same_31 rfl ⟨by omega, by omega⟩ ⟨by omega, by omega⟩ (fun h_5 => absurd h_5 (by omega)) (fun h_5 => ?_)
    refine k_iconst (v := 1) dL_same_34 rfl ?_
    refine k_goto (tgt := 39) dL_same_35 rfl ?_
    refine k_istore_n (ls' := [(0, .ref A), (1, .ref B), (2, .int (iI (1))), (3, .int (iI ((i15 : Int))))]) dL_same_39 rfl (by decide) rfl rfl ?_
    refine k_iinc (ls' := [(0, .ref A), (1, .ref B), (2, .int (iI (1))), (3, .int (iI ((i15 : Int) + 1)))]) dL_same_40 3 rfl (by decide) rfl rfl ?_
    refine k_goto (tgt := 15) dL_same_43 rfl ?_
    refine k_lrw (q := 3) (j := 3) (a' := ((i15 + 1 : Nat) : Int)) (ls' := [(0, .ref A), (1, .ref B), (2, .int (iI (1))), (3, .int (iI (((i15 + 1 : Nat) : Int))))]) rfl (by omega) rfl ?_
    refine k_less (k' := 0 * (W - (i15 + 1)) + 0) (n' := 0 * (W - (i15 + 1)) + 0) (by omega) (by omega) ?_
    exact ih15
end P_H
