/-! ===== the kinds of calls ===== -/
section K_G
variable {E : k_E} {M M1 : k_M} {dp d1 pc k n k1 n1 na : Nat} {ls : List (Nat × Value)} {st as : List Value} {sh : List k_Sh} {σ : Nat → Nat → Int} {Q Q1 : k_Q}
/-- what a call needs of its callee: code among the words, its class ready, its numbers -/
def k_MOk (M : k_M) (na : Nat) : Prop := k_code M ∈ k_TBL ∧ Cond.initialized M.1.cls ∈ k_TBL ∧ M.2.2.1 ≤ 45 ∧ (M.1.cls ≠ "java/lang/invoke/MethodHandle" ∧ M.1.cls ≠ "java/lang/invoke/VarHandle") ∧ (parseMethodDescriptor M.1.desc).map (fun d => d.parameters.length) = some na
theorem k_good {w : Cond} (h : w ∈ k_TBL) : goodWord w = true := (List.mem_filter.mp h).2
theorem k_goodIn (h : k_code M1 ∈ k_TBL) : GoodIn (k_ws M) (k_ws M1) := fun w hw => by
  have : w ∈ k_TBL := (List.mem_cons.mp hw).elim (fun e => e ▸ h) id
  exact ⟨k_cws this, good_of_word (k_good this)⟩
theorem k_pay {p : Program} {R : Room} {s : State} {m : MethodId} {args : Array Value} {meth : Method} {c : Code} (C : k_Ctx E M dp p R s m args meth c) (h : k_code M1 ∈ k_TBL) : ∀ w ∈ k_ws M1, ∀ (a' : Array Value) (U : State), s.WarmedH U.vm → w.before a' U = true := pay_in C.2.2.2.2.2.1 (k_goodIn h)
theorem k_fix {p : Program} {R : Room} {s : State} {m : MethodId} {args : Array Value} {meth : Method} {c : Code} (C : k_Ctx E M dp p R s m args meth c) : CallFix p m c M.2.1 M.2.2.1 s args (k_ws M) M.1.cls := ⟨C.1, C.2.1, C.2.2.2.1, C.2.2.2.2.1, C.2.2.2.2.2.1⟩
theorem k_lens {y : MethodName} (h : (parseMethodDescriptor y.desc).map (fun d => d.parameters.length) = some na) : ∀ sig, parseMethodDescriptor y.desc = some sig → na = sig.parameters.length := fun sig h2 => by
  rw [h2] at h
  exact (Option.some.inj h).symm
theorem k_cb {p : Program} {R : Room} {s : State} {m : MethodId} {args : Array Value} {meth : Method} {c : Code} {idx : Nat} (C : k_Ctx E M dp p R s m args meth c) (hM : k_MOk M1 na) (hh : M1.2.2.2.2 = []) (hd : d1 + 1 ≤ dp) (hl : Cond.methodLink M.1.cls idx M1.1 ∈ k_TBL) : CallB R s args M.1.cls idx M1.1 M1.2.1 M1.2.2.1 M1.2.2.2.1 (k_ws M1) (k_rm d1 k1 n1) k1 n1 na := by
  have hc := k_code_nil hh
  have h1 := hM.1
  rw [hc] at h1
  have d2 := C.2.2.2.2.2.2.2.2.2.2.1
  have d3 := C.2.2.2.2.2.2.2.2.2.2.2
  have d4 := hM.2.2.1
  exact ⟨rfl, rfl, by show d1 + 1 ≤ R.frames; omega, by show 8 + (M1.2.2.1 + 11) + 64 * d1 ≤ R.locals; omega, k_pay C hM.1, by rw [k_ws, hc]; exact List.mem_cons_self, C.2.2.2.2.2.1 _ (k_cws h1), C.2.2.2.2.2.1 _ (k_cws hM.2.1), hM.2.2.2.1, k_lens hM.2.2.2.2, C.2.2.2.2.2.1 _ (k_cws hl)⟩
theorem k_blind {ad : Nat → Nat} : FrameBlind (k_Pc E ad as sh σ) := fun a U g mk q => q
theorem k_pre {p : Program} {R : Room} {s : State} {m : MethodId} {args : Array Value} {meth : Method} {c : Code} {N0 : Nat} {ad0 ad : Nat → Nat} {H : Heap} {locs : List Loc} {cells slots k' n' mc ms : Nat} (C : k_Ctx E M dp p R s m args meth c) (X : k_In E N0 ad0 ad sh σ R s H locs cells slots k' n' mc ms) : ∀ U : State, U.heap = H → s.WarmedH U.vm → k_Pc E ad as sh σ (as.map (k_cv E ad)).toArray U := by
  intro U hU hW
  obtain ⟨w1, w2, w3, w4⟩ := C.2.2.2.2.2.2.2.2.2.1
  obtain ⟨s1, s2, -⟩ := X.2.2.2.2.2.1
  refine ⟨rfl, ⟨w1.trans hW, by rw [hU]; exact Nat.le_trans w2 s1, fun q hq => ?_, w4⟩, by rw [hU]; exact X.2.2.2.2.2.2⟩
  rw [hU, s2 q (Nat.lt_of_lt_of_le hq w2) (Nat.not_le.mpr hq)]
  exact w3 q hq
theorem k_room {ad : Nat → Nat} {m : MethodId} {lsC : Array Slot} {stC : List Value} (hf : (k_fm E).category = 1) (h : (st.map fun v => v.category).sum ≤ 8) : 2 * (F0 m pc lsC stC).monitorRoom + ((st.map (k_cv E ad)).map fun v => v.category).sum ≤ 8 := by
  refine lv_room ?_
  rw [List.map_map]
  refine Nat.le_trans (Nat.le_of_eq ?_) h
  congr 1
  exact List.map_congr_left fun v _ => k_cat hf v
theorem k_revmap {ad : Nat → Nat} : (as.reverse ++ st).map (k_cv E ad) = (as.map (k_cv E ad)).reverse ++ st.map (k_cv E ad) := by rw [List.map_append, List.map_reverse]
/-- invokestatic of a method of the same class (or another's, named plainly) -/
theorem k_callS {idx : Nat} (hd : decode M.2.1 pc = .ok (.invokestatic idx, 3)) (hM : k_MOk M1 na) (hh : M1.2.2.2.2 = []) (hl : Cond.methodLink M.1.cls idx M1.1 ∈ k_TBL) (hs : Cond.static M1.1 ∈ k_TBL) (hdp : d1 + 1 ≤ dp) (hn : as.length = na) (hcat : (st.map fun v => v.category).sum ≤ 8)
    (hC : k_C E M1 d1 as sh σ k1 n1 Q1) (hok : k_okl sh.length ls st ∨ ∀ r sh' σ', Q1 r sh' σ' → sh'.length = sh.length)
    (kx : ∀ Xn sh' σ', Q1 (.inr Xn) sh' σ' → k_VX E M dp pc ls Xn sh' σ' k n Q) (kk : ∀ v sh' σ', Q1 (.inl v) sh' σ' → k_V E M dp (pc + 3) ls (v.toList ++ st) sh' σ' k n Q) : k_V E M dp pc ls (as.reverse ++ st) sh σ (k1 + k) (n1 + n) Q := by
  intro N0 ad0 p e R s m args below meth c H locs cells slots lsC ad mc ms C X hl0
  rw [k_revmap]
  refine k_run C X hl0 (vx_runS (As := as.map (k_cv E ad)) (rest := st.map (k_cv E ad)) (k_fix C) (hC ad) ⟨k_cb C hM hh hdp hl, C.2.2.2.2.2.1 _ (k_cws hs)⟩ ⟨k_blind, k_pre C X⟩ rfl (by rw [List.length_map]; exact hn) hl0.1 rfl (k_room (k_fmc C) hcat) hd ⟨by have := X.2.1; have := X.2.2.2.1; omega, by have := X.2.2.1; have := X.2.2.2.2.1; omega⟩) hok kx kk
/-- invokestatic of a private method of a nest mate, which throws nothing -/
theorem k_callSN {idx : Nat} {host : String} (hd : decode M.2.1 pc = .ok (.invokestatic idx, 3)) (hM : k_MOk M1 na) (hh : M1.2.2.2.2 = []) (hl : Cond.methodLinkNest M.1.cls idx M1.1 host ∈ k_NW) (hs : Cond.static M1.1 ∈ k_TBL) (hdp : d1 + 1 ≤ dp) (hn : as.length = na) (hcat : (st.map fun v => v.category).sum ≤ 8)
    (hC : k_C E M1 d1 as sh σ k1 n1 Q1) (hno : ∀ X sh' σ', ¬ Q1 (.inr X) sh' σ') (hok : k_okl sh.length ls st ∨ ∀ r sh' σ', Q1 r sh' σ' → sh'.length = sh.length)
    (kk : ∀ v sh' σ', Q1 (.inl v) sh' σ' → k_V E M dp (pc + 3) ls (v.toList ++ st) sh' σ' k n Q) : k_V E M dp pc ls (as.reverse ++ st) sh σ (k1 + k) (n1 + n) Q := by
  intro N0 ad0 p e R s m args below meth c H locs cells slots lsC ad mc ms C X hl0
  rw [k_revmap]
  have hc := k_code_nil hh
  have h1 := hM.1
  rw [hc] at h1
  have d2 := C.2.2.2.2.2.2.2.2.2.2.1
  have d3 := C.2.2.2.2.2.2.2.2.2.2.2
  have d4 := hM.2.2.1
  have cw : va_CN R s args M.1.cls idx M1.1 host M1.2.1 M1.2.2.1 M1.2.2.2.1 (k_ws M1) (k_rm d1 k1 n1) k1 n1 na := ⟨⟨rfl, rfl, by show d1 + 1 ≤ R.frames; omega, by show 8 + (M1.2.2.1 + 11) + 64 * d1 ≤ R.locals; omega, k_pay C hM.1, by rw [k_ws, hc]; exact List.mem_cons_self⟩, C.2.2.2.2.2.1 _ (k_cws h1), C.2.2.2.2.2.1 _ (k_cws hM.2.1), hM.2.2.2.1, k_lens hM.2.2.2.2, k_nwat C hl⟩
  have hr := va_runSN (As := as.map (k_cv E ad)) (rest := st.map (k_cv E ad)) (l := k_l E) (e := e) (below := below) (meth := meth) (H := H) (locs := locs) (cells := cells) (slots := slots) (g := F0 m pc lsC ((as.map (k_cv E ad)).reverse ++ st.map (k_cv E ad))) (k_fix C) (k_met hC hno ad) ⟨cw, C.2.2.2.2.2.1 _ (k_cws hs), trivial⟩ ⟨k_blind, k_pre C X⟩ rfl (by rw [List.length_map]; exact hn) hl0.1 rfl (k_room (k_fmc C) hcat) hd ⟨by have := X.2.1; have := X.2.2.2.1; omega, by have := X.2.2.1; have := X.2.2.2.2.1; omega⟩
  exact k_run C X hl0 (fun T hT Y => Or.inl (hr T hT Y)) hok (fun Xn sh' σ' h => absurd h (hno _ _ _)) kk
/-- invokevirtual on an object of the world, of a method of its own class -/
theorem k_callV {idx r ci N : Nat} {cs : List Nat} {T : u_T} (hd : decode M.2.1 pc = .ok (.invokevirtual idx, 3)) (hM : k_MOk M1 na) (hh : M1.2.2.2.2 = []) (hl : Cond.methodLink M.1.cls idx M1.1 ∈ k_TBL) (hi : Cond.instanceMethod M1.1 ∈ k_TBL) (hse : Cond.selects M1.1.cls M1.1 M1.1 ∈ k_TBL) (hdp : d1 + 1 ≤ dp) (hn : as.length = na) (hcat : (st.map fun v => v.category).sum ≤ 8)
    (hr1 : r ≠ 1000001) (hs : sh[r]? = some (.inr (ci, cs))) (hc : k_cls[ci]? = some (M1.1.cls, T, N))
    (hC : k_C E M1 d1 (.ref r :: as) sh σ k1 n1 Q1) (hok : k_okl sh.length ls st ∨ ∀ r sh' σ', Q1 r sh' σ' → sh'.length = sh.length)
    (kx : ∀ Xn sh' σ', Q1 (.inr Xn) sh' σ' → k_VX E M dp pc ls Xn sh' σ' k n Q) (kk : ∀ v sh' σ', Q1 (.inl v) sh' σ' → k_V E M dp (pc + 3) ls (v.toList ++ st) sh' σ' k n Q) : k_V E M dp pc ls (as.reverse ++ .ref r :: st) sh σ (k1 + k) (n1 + n) Q := by
  intro N0 ad0 p e R s m args below meth c H locs cells slots lsC ad mc ms C X hl0
  rw [List.map_append, List.map_reverse, List.map_cons, k_cv_ref hr1]
  have hpre := k_pre (as := .ref r :: as) C X
  rw [List.map_cons, k_cv_ref hr1] at hpre
  have hcell := va_recv (k_Kat C) X.2.2.2.2.2.2.1 hc (k_obj hs)
  refine k_run C X hl0 (vx_runV (b := ad r) (C := M1.1.cls) (As := as.map (k_cv E ad)) (rest := st.map (k_cv E ad)) (k_fix C) (hC ad) ⟨k_cb C hM hh hdp hl, C.2.2.2.2.2.1 _ (k_cws hi), C.2.2.2.2.2.1 _ (k_cws hse)⟩ ⟨k_blind, hcell, hpre⟩ rfl (by rw [List.length_map]; exact hn) hl0.1 rfl (k_room (k_fmc C) hcat) hd ⟨by have := X.2.1; have := X.2.2.2.1; omega, by have := X.2.2.1; have := X.2.2.2.2.1; omega⟩) hok kx kk
/-- invokespecial of a constructor -/
theorem k_callI {idx r : Nat} (hd : decode M.2.1 pc = .ok (.invokespecial idx, 3)) (hM : k_MOk M1 na) (hh : M1.2.2.2.2 = []) (hret : M1.2.2.2.1 = none) (hl : Cond.methodLink M.1.cls idx M1.1 ∈ k_TBL) (hi : Cond.instanceMethod M1.1 ∈ k_TBL) (hy : M1.1.name = "<init>") (hdp : d1 + 1 ≤ dp) (hn : as.length = na) (hcat : (st.map fun v => v.category).sum ≤ 8)
    (hr1 : r ≠ 1000001) (hC : k_C E M1 d1 (.ref r :: as) sh σ k1 n1 Q1) (hno : ∀ X sh' σ', ¬ Q1 (.inr X) sh' σ') (hok : k_okl sh.length ls st ∨ ∀ r sh' σ', Q1 r sh' σ' → sh'.length = sh.length)
    (kk : ∀ v sh' σ', Q1 (.inl v) sh' σ' → k_V E M dp (pc + 3) ls (v.toList ++ st) sh' σ' k n Q) : k_V E M dp pc ls (as.reverse ++ .ref r :: st) sh σ (k1 + k) (n1 + n) Q := by
  intro N0 ad0 p e R s m args below meth c H locs cells slots lsC ad mc ms C X hl0
  rw [List.map_append, List.map_reverse, List.map_cons, k_cv_ref hr1]
  have hpre := k_pre (as := .ref r :: as) C X
  rw [List.map_cons, k_cv_ref hr1] at hpre
  have hb := k_cb (k1 := k1) (n1 := n1) C hM hh hdp hl
  rw [hret] at hb
  have hr := va_runI (b := ad r) (As := as.map (k_cv E ad)) (rest := st.map (k_cv E ad)) (l := k_l E) (e := e) (below := below) (meth := meth) (H := H) (locs := locs) (cells := cells) (slots := slots) (g := F0 m pc lsC ((as.map (k_cv E ad)).reverse ++ .ref (ad r) :: st.map (k_cv E ad))) (k_fix C) (k_met hC hno ad) ⟨hb, hy, C.2.2.2.2.2.1 _ (k_cws hi)⟩ ⟨k_blind, hpre⟩ rfl (by rw [List.length_map]; exact hn) hl0.1 rfl (k_room (k_fmc C) hcat) hd ⟨by have := X.2.1; have := X.2.2.2.1; omega, by have := X.2.2.1; have := X.2.2.2.2.1; omega⟩
  exact k_run C X hl0 (fun T hT Y => Or.inl (hr T hT Y)) hok (fun Xn sh' σ' h => absurd h (hno _ _ _)) kk
/-- Object's constructor -/
theorem k_objI {idx r : Nat} (hd : decode M.2.1 pc = .ok (.invokespecial idx, 3)) (hl : Cond.methodLink M.1.cls idx Lib.objectInit ∈ k_TBL) (hi : Cond.instanceMethod Lib.objectInit ∈ k_TBL) (hc : Cond.code Lib.objectInit ⟨#[0xb1]⟩ 1 none ∈ k_TBL) (hdp : 1 ≤ dp) (hcat : (st.map fun v => v.category).sum ≤ 8) (hr1 : r ≠ 1000001) (kk : k_V E M dp (pc + 3) ls st sh σ k n Q) : k_V E M dp pc ls (.ref r :: st) sh σ k n Q := by
  intro N0 ad0 p e R s m args below meth c H locs cells slots lsC ad mc ms C X hl0
  rw [List.map_cons, k_cv_ref hr1]
  have d2 := C.2.2.2.2.2.2.2.2.2.2.1
  have d3 := C.2.2.2.2.2.2.2.2.2.2.2
  have hq := k_room (E := E) (st := st) (pc := pc) (ad := ad) (m := m) (lsC := lsC) (stC := .ref (ad r) :: st.map (k_cv E ad)) (k_fmc C) hcat
  exact W.objInit C.1 C.2.1 C.2.2.2.2.1 (C.2.2.2.2.2.1 _ (k_cws hl)) (C.2.2.2.2.2.1 _ (k_cws hi)) (C.2.2.2.2.2.1 _ (k_cws hc)) rfl (hl0.1.trans C.2.2.2.1.symm) rfl hd (by omega) (by omega) (kk N0 ad0 p e R s m args below meth c H locs cells slots lsC ad mc ms C X hl0)
end K_G
