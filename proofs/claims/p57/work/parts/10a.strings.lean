/-! ===== TEXTS THAT STAND IN THE CLASS FILES, statics, calls of what is inherited ===== -/
section K_HA
variable {E : k_E} {M M1 : k_M} {dp d1 pc k n k1 n1 na : Nat} {ls : List (Nat × Value)} {st as : List Value} {sh : List k_Sh} {σ : Nat → Nat → Int} {Q Q1 : k_Q}
def k_str (i : Nat) : String × Nat × String × List Int32 := k_strs.getD i ("", 0, "", [])
/-- how long the text is, and its characters -/
def k_len (i : Nat) : Nat := (k_str i).2.2.2.length
def k_ch (i j : Nat) : Int := ((k_str i).2.2.2.getD j 0).toInt
theorem k_ok3 {p : Program} {R : Room} {s : State} {m : MethodId} {args : Array Value} {meth : Method} {c : Code} (C : k_Ctx E M dp p R s m args meth c) : k_Ok3 E := C.2.2.2.2.2.2.2.2.2.1.2.2.2.2.2.2.2.2.2.2.2.2.2
theorem k_spc {ad : Nat → Nat} {H : Heap} (h : k_Hp E ad sh σ H) {j : Nat} (hj : 1000000 ≤ j) : ad j = k_sp E j := h.2.2 j hj
theorem k_cv_sp {ad : Nat → Nat} {H : Heap} (h : k_Hp E ad sh σ H) {j : Nat} (hj : 1000002 ≤ j) : k_cv E ad (.ref j) = .ref (k_sp E j) := by
  rw [k_cv_ref (by omega), k_spc h (by omega)]
theorem k_gets {C0 n0 d0 : String} {idx : Nat} {v vC : Value} (hd : decode M.2.1 pc = .ok (.getstatic idx, 3)) (hw : Cond.fieldLink M.1.cls idx C0 n0 d0 ∈ k_TBL) (hv : ∀ (ad : Nat → Nat) (H : Heap), k_Hp E ad sh σ H → k_cv E ad v = vC) (hZ : k_Ok3 E → va_Z C0 n0 d0 vC (k_A E) (k_s0 E) (k_s0 E).heap) (kk : k_V E M dp (pc + 3) ls (v :: st) sh σ k n Q) : k_V E M dp pc ls st sh σ k n Q := by
  intro N0 ad0 p e R s m args below meth c H locs cells slots lsC ad mc ms C X hl
  obtain ⟨hW, hz, hh, -⟩ := C.2.2.2.2.2.2.2.2.2.1
  have hv := hv ad H X.2.2.2.2.2.2
  have hZ2 : va_Z C0 n0 d0 (k_cv E ad v) (k_A E) s s.heap := by
    rw [hv]
    exact va_Z.moved hW.alike (va_Z.kept (hZ (k_ok3 C)) fun a ha _ => hh a ha)
  exact va_gets C.1 C.2.1 hZ2 X.2.2.2.2.2.1 C.2.2.2.2.1 (C.2.2.2.2.2.1 _ (k_cws hw)) (fun _ h => h) hd (kk N0 ad0 p e R s m args below meth c H locs cells slots lsC ad mc ms C X hl)
/-- String.COMPACT_STRINGS -/
theorem k_getCS {idx : Nat} (hd : decode M.2.1 pc = .ok (.getstatic idx, 3)) (hw : Cond.fieldLink M.1.cls idx "java/lang/String" "COMPACT_STRINGS" "Z" ∈ k_TBL) (kk : k_V E M dp (pc + 3) ls (.int (iI 1) :: st) sh σ k n Q) : k_V E M dp pc ls st sh σ k n Q :=
  k_gets (v := .int (iI 1)) hd hw (fun _ _ _ => rfl) (fun h => h.1) kk
/-- invokevirtual of a method that the object's class has inherited -/
theorem k_callVC {idx r ci N : Nat} {Cn : String} {cs : List Nat} {T : u_T} (hd : decode M.2.1 pc = .ok (.invokevirtual idx, 3)) (hM : k_MOk M1 na) (hh : M1.2.2.2.2 = []) (hl : Cond.methodLink M.1.cls idx M1.1 ∈ k_TBL) (hi : Cond.instanceMethod M1.1 ∈ k_TBL) (hse : Cond.selects Cn M1.1 M1.1 ∈ k_TBL) (hdp : d1 + 1 ≤ dp) (hn : as.length = na) (hcat : (st.map fun v => v.category).sum ≤ 8)
    (hr1 : r ≠ 1000001) (hs : sh[r]? = some (.inr (ci, cs))) (hc : k_cls[ci]? = some (Cn, T, N))
    (hC : k_C E M1 d1 (.ref r :: as) sh σ k1 n1 Q1) (hok : k_okl sh.length ls st ∨ ∀ r sh' σ', Q1 r sh' σ' → sh'.length = sh.length)
    (kx : ∀ Xn sh' σ', Q1 (.inr Xn) sh' σ' → k_VX E M dp pc ls Xn sh' σ' k n Q) (kk : ∀ v sh' σ', Q1 (.inl v) sh' σ' → k_V E M dp (pc + 3) ls (v.toList ++ st) sh' σ' k n Q) : k_V E M dp pc ls (as.reverse ++ .ref r :: st) sh σ (k1 + k) (n1 + n) Q := by
  intro N0 ad0 p e R s m args below meth c H locs cells slots lsC ad mc ms C X hl0
  rw [List.map_append, List.map_reverse, List.map_cons, k_cv_ref hr1]
  have hpre := k_pre (as := .ref r :: as) C X
  rw [List.map_cons, k_cv_ref hr1] at hpre
  have hcell := va_recv (k_Kat C) X.2.2.2.2.2.2.1 hc (k_obj hs)
  refine k_run C X hl0 (vx_runV (b := ad r) (C := Cn) (As := as.map (k_cv E ad)) (rest := st.map (k_cv E ad)) (k_fix C) (hC ad) ⟨k_cb C hM hh hdp hl, C.2.2.2.2.2.1 _ (k_cws hi), C.2.2.2.2.2.1 _ (k_cws hse)⟩ ⟨k_blind, hcell, hpre⟩ rfl (by rw [List.length_map]; exact hn) hl0.1 rfl (k_room (k_fmc C) hcat) hd ⟨by have := X.2.1; have := X.2.2.2.1; omega, by have := X.2.2.1; have := X.2.2.2.2.1; omega⟩) hok kx kk
/-- invokespecial of the superclass's method -/
theorem k_callSU {idx r ci N : Nat} {Cn : String} {cs : List Nat} {T : u_T} (hd : decode M.2.1 pc = .ok (.invokespecial idx, 3)) (hM : k_MOk M1 na) (hh : M1.2.2.2.2 = []) (hl : Cond.methodLink M.1.cls idx M1.1 ∈ k_TBL) (hsm : Cond.sameMethod M1.1.cls M1.1.cls M1.1.name M1.1.desc ∈ k_TBL) (hsu : Cond.superclass M.1.cls M1.1.cls ∈ k_TBL) (hi : Cond.instanceMethod M1.1 ∈ k_TBL) (hy : M1.1.name ≠ "<init>") (hdp : d1 + 1 ≤ dp) (hn : as.length = na) (hcat : (st.map fun v => v.category).sum ≤ 8)
    (hr1 : r ≠ 1000001) (hs : sh[r]? = some (.inr (ci, cs))) (hc : k_cls[ci]? = some (Cn, T, N))
    (hC : k_C E M1 d1 (.ref r :: as) sh σ k1 n1 Q1) (hno : ∀ X sh' σ', ¬ Q1 (.inr X) sh' σ') (hok : k_okl sh.length ls st ∨ ∀ r sh' σ', Q1 r sh' σ' → sh'.length = sh.length)
    (kk : ∀ v sh' σ', Q1 (.inl v) sh' σ' → k_V E M dp (pc + 3) ls (v.toList ++ st) sh' σ' k n Q) : k_V E M dp pc ls (as.reverse ++ .ref r :: st) sh σ (k1 + k) (n1 + n) Q := by
  intro N0 ad0 p e R s m args below meth c H locs cells slots lsC ad mc ms C X hl0
  rw [List.map_append, List.map_reverse, List.map_cons, k_cv_ref hr1]
  have hpre := k_pre (as := .ref r :: as) C X
  rw [List.map_cons, k_cv_ref hr1] at hpre
  have hcell := va_recv (k_Kat C) X.2.2.2.2.2.2.1 hc (k_obj hs)
  have hcd := k_code_nil hh
  have d2 := C.2.2.2.2.2.2.2.2.2.2.1
  have d3 := C.2.2.2.2.2.2.2.2.2.2.2
  have d4 := hM.2.2.1
  have hcc : Cond.code M1.1 M1.2.1 M1.2.2.1 M1.2.2.2.1 ∈ k_TBL := hcd ▸ hM.1
  have cw : va_CS R s args M.1.cls idx M1.1 M1.2.1 M1.2.2.1 M1.2.2.2.1 (k_ws M1) (k_rm d1 k1 n1) k1 n1 na := ⟨⟨rfl, rfl, by show d1 + 1 ≤ R.frames; omega, by show 8 + (M1.2.2.1 + 11) + 64 * d1 ≤ R.locals; omega, k_pay C hM.1, by rw [k_ws, hcd]; exact List.mem_cons_self⟩, C.2.2.2.2.2.1 _ (k_cws hl), C.2.2.2.2.2.1 _ (k_cws hsm), C.2.2.2.2.2.1 _ (k_cws hsu), C.2.2.2.2.2.1 _ (k_cws hi), C.2.2.2.2.2.1 _ (k_cws hM.2.1), C.2.2.2.2.2.1 _ (k_cws hcc), hy, k_lens hM.2.2.2.2⟩
  have hr := va_runSU (b := ad r) (C := Cn) (As := as.map (k_cv E ad)) (rest := st.map (k_cv E ad)) (l := k_l E) (e := e) (below := below) (meth := meth) (H := H) (locs := locs) (cells := cells) (slots := slots) (g := F0 m pc lsC ((as.map (k_cv E ad)).reverse ++ .ref (ad r) :: st.map (k_cv E ad))) ((k_Kat C).1 ci _ hc).2 (k_fix C) (k_met hC hno ad) cw ⟨k_blind, hcell, hpre⟩ rfl (by rw [List.length_map]; exact hn) hl0.1 rfl (k_room (k_fmc C) hcat) hd ⟨by have := X.2.1; have := X.2.2.2.1; omega, by have := X.2.2.1; have := X.2.2.2.2.1; omega⟩
  exact k_run C X hl0 (fun T hT Y => Or.inl (hr T hT Y)) hok (fun Xn sh' σ' h => absurd h (hno _ _ _)) kk
end K_HA
