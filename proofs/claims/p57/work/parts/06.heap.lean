/-! ===== RULES OF THE HEAP: fields, arrays, what is made ===== -/
section K_C
variable {E : k_E} {M : k_M} {dp pc k n : Nat} {ls : List (Nat × Value)} {st : List Value} {sh : List k_Sh} {σ : Nat → Nat → Int} {Q : k_Q}
def k_Cls (ci : Nat) (C : String) (T : u_T) (N : Nat) (ty : Nat → FieldType) : Prop := k_cls[ci]? = some (C, T, N) ∧ (∀ w ∈ u_ws C T N, w ∈ k_TBL) ∧ (∀ k, k < N → parseFieldDescriptor (T k).2.2.1 = some (ty k)) ∧ (∀ a, a < N → ∀ b, b < N → a ≠ b → (T a).2.1 ≠ (T b).2.1)
theorem k_cws {w : Cond} (h : w ∈ k_TBL) : w ∈ k_ws M := List.mem_cons_of_mem _ h
theorem k_Kat {p : Program} {R : Room} {s : State} {m : MethodId} {args : Array Value} {meth : Method} {c : Code} (C : k_Ctx E M dp p R s m args meth c) : va_K (k_D E) k_cls (k_tys E) s := va_K.moved C.2.2.2.2.2.2.2.2.2.1.1.alike C.2.2.2.2.2.2.2.2.2.1.2.2.2.1
theorem k_nwat {p : Program} {R : Room} {s : State} {m : MethodId} {args : Array Value} {meth : Method} {c : Code} {w : Cond} (C : k_Ctx E M dp p R s m args meth c) (h : w ∈ k_NW) : w.before args s = true := by
  obtain ⟨hW, -, -, hO⟩ := C.2.2.2.2.2.2.2.2.2.1
  have h0 : va_Nw w (k_s0 E) := hO.2.2.2.2.2.2.2.2.1 w h
  have hn : k_nw w = true := (List.mem_filter.mp h).2
  cases w <;> first | exact va_Nw.use rfl (va_Nw.warmF hW h0) | exact va_Nw.use rfl (va_Nw.warmM hW h0) | exact va_Nw.use rfl (va_Nw.warmC hW h0) | exact va_Nw.use rfl (va_Nw.warmD hW h0) | exact absurd hn Bool.false_ne_true | (rename_i ty; cases ty <;> first | exact va_AO.use (va_AO.moved hW.alike h0) | exact absurd hn Bool.false_ne_true)
theorem k_obj {ad : Nat → Nat} {a ci : Nat} {cs : List Nat} (hs : sh[a]? = some (.inr (ci, cs))) : (k_cw E ad sh σ)[a]? = some (ad a, .inr (ci, cs.mapIdx fun k c => k_cv E ad (k_fv c (σ a k)))) := k_cw_get hs
theorem k_get {a idx ci kf code N : Nat} {cs : List Nat} {C : String} {T : u_T} {ty : Nat → FieldType} {v : Value} (hd : decode M.2.1 pc = .ok (.getfield idx, 3)) (hT : k_Cls ci C T N ty) (hw : Cond.fieldLink M.1.cls idx (T kf).1 (T kf).2.1 (T kf).2.2.1 ∈ k_TBL) (hkf : kf < N) (ha : a ≠ 1000001) (hs : sh[a]? = some (.inr (ci, cs))) (hc : cs[kf]? = some code) (hv : k_fv code (σ a kf) = v) (kk : k_V E M dp (pc + 3) ls (v :: st) sh σ k n Q) : k_V E M dp pc ls (.ref a :: st) sh σ k n Q := by
  intro N0 ad0 p e R s m args below meth c H locs cells slots lsC ad mc ms C X hl
  subst hv
  rw [List.map_cons, k_cv_ref ha]
  exact va_get (Ts := k_ws M) (T := T) C.1 C.2.1 C.2.2.2.2.2.1 (fun w h => k_cws (hT.2.1 w h)) C.2.2.2.2.1 (k_Kat C) X.2.2.2.2.2.2.1 a (k_obj hs) hT.1 kf hkf (C.2.2.2.2.2.1 _ (k_cws hw)) (fun _ h => h) (by simp [List.getElem?_mapIdx, hc]) hd (kk N0 ad0 p e R s m args below meth c H locs cells slots lsC ad mc ms C X hl)
theorem k_getN {a idx ci kf code N : Nat} {cs : List Nat} {C host : String} {T : u_T} {ty : Nat → FieldType} {v : Value} (hd : decode M.2.1 pc = .ok (.getfield idx, 3)) (hT : k_Cls ci C T N ty) (hw : Cond.fieldLinkNest M.1.cls idx (T kf).1 (T kf).2.1 (T kf).2.2.1 host ∈ k_NW) (hkf : kf < N) (ha : a ≠ 1000001) (hs : sh[a]? = some (.inr (ci, cs))) (hc : cs[kf]? = some code) (hv : k_fv code (σ a kf) = v) (kk : k_V E M dp (pc + 3) ls (v :: st) sh σ k n Q) : k_V E M dp pc ls (.ref a :: st) sh σ k n Q := by
  intro N0 ad0 p e R s m args below meth c H locs cells slots lsC ad mc ms C X hl
  subst hv
  rw [List.map_cons, k_cv_ref ha]
  exact va_getN (Ts := k_ws M) (T := T) C.1 C.2.1 C.2.2.2.2.2.1 (fun w h => k_cws (hT.2.1 w h)) C.2.2.2.2.1 (k_Kat C) X.2.2.2.2.2.2.1 a (k_obj hs) hT.1 kf hkf (k_nwat C hw) (fun _ h => h) (by simp [List.getElem?_mapIdx, hc]) hd (kk N0 ad0 p e R s m args below meth c H locs cells slots lsC ad mc ms C X hl)
/-- a field's new content: a number (code 0), or a cell in a changing field (code 1) -/
theorem k_fset {ad : Nat → Nat} {a ci kf code : Nat} {cs : List Nat} {z : Int} (hs : sh[a]? = some (.inr (ci, cs))) (hc : cs[kf]? = some code) : (k_cw E ad sh σ).set a (ad a, .inr (ci, (cs.mapIdx fun k c => k_cv E ad (k_fv c (σ a k))).set kf (k_cv E ad (k_fv code z)))) = k_cw E ad sh (k_up σ a (k_u1 (σ a) kf z)) := by
  rw [← k_cw_set1 hs]
  congr 2
  show (Sum.inr (ci, _) : va_E) = Sum.inr (ci, _)
  congr 2
  apply List.ext_getElem?
  intro i
  rw [List.getElem?_set, List.getElem?_mapIdx, List.length_mapIdx, List.getElem?_mapIdx]
  have hk := (List.getElem?_eq_some_iff.mp hc).1
  by_cases h : kf = i
  · subst h
    simp [hk, hc, k_u1, (List.getElem?_eq_some_iff.mp hc).2]
  · rw [if_neg h]
    cases cs[i]? with
    | none => rfl
    | some y =>
      show some _ = some _
      rw [show k_u1 (σ a) kf z i = σ a i from if_neg (fun q => h q.symm)]
/-- a field that gets a lasting cell -/
theorem k_fsetr {ad : Nat → Nat} {a ci kf r : Nat} {cs : List Nat} (hs : sh[a]? = some (.inr (ci, cs))) (hk : kf < cs.length) : (k_cw E ad sh σ).set a (ad a, .inr (ci, (cs.mapIdx fun k c => k_cv E ad (k_fv c (σ a k))).set kf (k_cv E ad (.ref r)))) = k_cw E ad (sh.set a (.inr (ci, cs.set kf (r + 3)))) σ := by
  have h0 : k_up σ a (σ a) = σ := by
    funext i
    by_cases h : i = a
    · rw [h, k_up_same]
    · rw [k_up_ne h]
  have h1 := k_cw_set (E := E) (ad := ad) (sh := sh) (σ := σ) (a := a) (x := .inr (ci, cs.set kf (r + 3))) (f := σ a)
  rw [h0] at h1
  rw [← h1]
  congr 2
  show (Sum.inr (ci, _) : va_E) = Sum.inr (ci, _)
  congr 2
  apply List.ext_getElem?
  intro i
  rw [List.getElem?_set, List.getElem?_mapIdx, List.length_mapIdx, List.getElem?_mapIdx, List.getElem?_set]
  by_cases h : kf = i
  · subst h
    simp [hk, k_fv]
  · rw [if_neg h, if_neg h]
theorem k_putf {a idx ci kf N : Nat} {cs : List Nat} {C : String} {T : u_T} {ty : Nat → FieldType} {z : Int} (hd : decode M.2.1 pc = .ok (.putfield idx, 3)) (hT : k_Cls ci C T N ty) (hw : Cond.fieldLink M.1.cls idx (T kf).1 (T kf).2.1 (T kf).2.2.1 ∈ k_TBL) (hkf : kf < N) (ha : a ≠ 1000001) (hs : sh[a]? = some (.inr (ci, cs))) (hc : cs[kf]? = some 0) (hfin : (T kf).2.2.2 = false) (hn : narrow (ty kf) (.int (iI z)) = .int (iI z)) (hfit : fits (ty kf) (.int (iI z)) = true) (kk : k_V E M dp (pc + 3) ls st sh (k_up σ a (k_u1 (σ a) kf z)) k n Q) : k_V E M dp pc ls (.int (iI z) :: .ref a :: st) sh σ k n Q := by
  intro N0 ad0 p e R s m args below meth c H locs cells slots lsC ad mc ms C X hl
  rw [List.map_cons, List.map_cons, k_cv_ref ha]
  refine va_put (Ts := k_ws M) (T := T) (cl := k_cls) (D := k_D E) C.1 C.2.1 C.2.2.2.2.2.1 (fun w h => k_cws (hT.2.1 w h)) ty hT.2.2.1 hT.2.2.2 C.2.2.2.2.1 (k_Kat C) X.2.2.2.2.2.2.1 X.2.2.2.2.2.2.2.1 X.2.2.2.2.2.1 a (k_obj hs) hT.1 kf hkf (C.2.2.2.2.2.1 _ (k_cws hw)) (fun _ h => h) hfin (hT.2.2.1 kf hkf) hn hfit (by rw [List.length_mapIdx]; exact (List.getElem?_eq_some_iff.mp hc).1) hd (fun H1 locs1 hP hD hS => ?_)
  have hf := k_fset (E := E) (ad := ad) (σ := σ) (z := z) hs hc
  rw [show k_cv E ad (Value.int (iI z)) = k_cv E ad (k_fv 0 z) from rfl, hf] at hP hD
  exact kk N0 ad0 p e R s m args below meth c H1 locs1 cells slots lsC ad mc ms C ⟨X.1, X.2.1, X.2.2.1, X.2.2.2.1, X.2.2.2.2.1, hS, hP, hD, X.2.2.2.2.2.2.2.2⟩ hl
theorem k_putN {a idx ci kf N : Nat} {cs : List Nat} {C host : String} {T : u_T} {ty : Nat → FieldType} {z : Int} (hd : decode M.2.1 pc = .ok (.putfield idx, 3)) (hT : k_Cls ci C T N ty) (hw : Cond.fieldLinkNest M.1.cls idx (T kf).1 (T kf).2.1 (T kf).2.2.1 host ∈ k_NW) (hkf : kf < N) (ha : a ≠ 1000001) (hs : sh[a]? = some (.inr (ci, cs))) (hc : cs[kf]? = some 0) (hfin : (T kf).2.2.2 = false) (hn : narrow (ty kf) (.int (iI z)) = .int (iI z)) (hfit : fits (ty kf) (.int (iI z)) = true) (kk : k_V E M dp (pc + 3) ls st sh (k_up σ a (k_u1 (σ a) kf z)) k n Q) : k_V E M dp pc ls (.int (iI z) :: .ref a :: st) sh σ k n Q := by
  intro N0 ad0 p e R s m args below meth c H locs cells slots lsC ad mc ms C X hl
  rw [List.map_cons, List.map_cons, k_cv_ref ha]
  refine va_putN (Ts := k_ws M) (T := T) (cl := k_cls) (D := k_D E) C.1 C.2.1 C.2.2.2.2.2.1 (fun w h => k_cws (hT.2.1 w h)) ty hT.2.2.1 hT.2.2.2 C.2.2.2.2.1 (k_Kat C) X.2.2.2.2.2.2.1 X.2.2.2.2.2.2.2.1 X.2.2.2.2.2.1 a (k_obj hs) hT.1 kf hkf (k_nwat C hw) (fun _ h => h) hfin (hT.2.2.1 kf hkf) hn hfit (by rw [List.length_mapIdx]; exact (List.getElem?_eq_some_iff.mp hc).1) hd (fun H1 locs1 hP hD hS => ?_)
  have hf := k_fset (E := E) (ad := ad) (σ := σ) (z := z) hs hc
  rw [show k_cv E ad (Value.int (iI z)) = k_cv E ad (k_fv 0 z) from rfl, hf] at hP hD
  exact kk N0 ad0 p e R s m args below meth c H1 locs1 cells slots lsC ad mc ms C ⟨X.1, X.2.1, X.2.2.1, X.2.2.2.1, X.2.2.2.2.1, hS, hP, hD, X.2.2.2.2.2.2.2.2⟩ hl
/-- a final field of numbers or cells, in a constructor: a lasting cell -/
theorem k_putFr {a idx ci kf N r : Nat} {cs : List Nat} {C : String} {T : u_T} {ty : Nat → FieldType} (hd : decode M.2.1 pc = .ok (.putfield idx, 3)) (hT : k_Cls ci C T N ty) (hw : Cond.fieldLink M.1.cls idx (T kf).1 (T kf).2.1 (T kf).2.2.1 ∈ k_TBL) (hkf : kf < N) (ha : a ≠ 1000001) (hs : sh[a]? = some (.inr (ci, cs))) (hk : kf < cs.length) (hfin : (T kf).2.2.2 = true) (hin : M.1.name = "<init>") (hdc : (T kf).1 = M.1.cls) (hr : r ≠ 1000001) (hn : ∀ x, narrow (ty kf) (.ref x) = .ref x) (hfit : ∀ x, fits (ty kf) (.ref x) = true) (kk : k_V E M dp (pc + 3) ls st (sh.set a (.inr (ci, cs.set kf (r + 3)))) σ k n Q) : k_V E M dp pc ls (.ref r :: .ref a :: st) sh σ k n Q := by
  intro N0 ad0 p e R s m args below meth c H locs cells slots lsC ad mc ms C X hl
  rw [List.map_cons, List.map_cons, k_cv_ref ha, k_cv_ref hr]
  refine va_putF (Ts := k_ws M) (T := T) (cl := k_cls) (D := k_D E) C.1 C.2.1 C.2.2.2.2.2.1 (fun w h => k_cws (hT.2.1 w h)) ty hT.2.2.1 hT.2.2.2 C.2.2.2.2.1 (k_Kat C) X.2.2.2.2.2.2.1 X.2.2.2.2.2.2.2.1 X.2.2.2.2.2.1 a (k_obj hs) hT.1 kf hkf (C.2.2.2.2.2.1 _ (k_cws hw)) (fun _ h => h) hfin (C.2.2.2.2.2.2.2.2.1.trans hin) hdc (hT.2.2.1 kf hkf) (hn _) (hfit _) (by rw [List.length_mapIdx]; exact hk) hd (fun H1 locs1 hP hD hS => ?_)
  have hf := k_fsetr (E := E) (ad := ad) (σ := σ) (r := r) hs hk
  rw [← k_cv_ref (E := E) hr, hf] at hP hD
  exact kk N0 ad0 p e R s m args below meth c H1 locs1 cells slots lsC ad mc ms C ⟨by rw [List.length_set]; exact X.1, X.2.1, X.2.2.1, X.2.2.2.1, X.2.2.2.2.1, hS, hP, hD, X.2.2.2.2.2.2.2.2⟩ hl
/-- a changing cell (code 1) -/
theorem k_putr {a idx ci kf N r : Nat} {cs : List Nat} {C : String} {T : u_T} {ty : Nat → FieldType} (hd : decode M.2.1 pc = .ok (.putfield idx, 3)) (hT : k_Cls ci C T N ty) (hw : Cond.fieldLink M.1.cls idx (T kf).1 (T kf).2.1 (T kf).2.2.1 ∈ k_TBL) (hkf : kf < N) (ha : a ≠ 1000001) (hs : sh[a]? = some (.inr (ci, cs))) (hk : kf < cs.length) (hfin : (T kf).2.2.2 = false) (hr : r ≠ 1000001) (hn : ∀ x, narrow (ty kf) (.ref x) = .ref x) (hfit : ∀ x, fits (ty kf) (.ref x) = true) (kk : k_V E M dp (pc + 3) ls st (sh.set a (.inr (ci, cs.set kf (r + 3)))) σ k n Q) : k_V E M dp pc ls (.ref r :: .ref a :: st) sh σ k n Q := by
  intro N0 ad0 p e R s m args below meth c H locs cells slots lsC ad mc ms C X hl
  rw [List.map_cons, List.map_cons, k_cv_ref ha, k_cv_ref hr]
  refine va_put (Ts := k_ws M) (T := T) (cl := k_cls) (D := k_D E) C.1 C.2.1 C.2.2.2.2.2.1 (fun w h => k_cws (hT.2.1 w h)) ty hT.2.2.1 hT.2.2.2 C.2.2.2.2.1 (k_Kat C) X.2.2.2.2.2.2.1 X.2.2.2.2.2.2.2.1 X.2.2.2.2.2.1 a (k_obj hs) hT.1 kf hkf (C.2.2.2.2.2.1 _ (k_cws hw)) (fun _ h => h) hfin (hT.2.2.1 kf hkf) (hn _) (hfit _) (by rw [List.length_mapIdx]; exact hk) hd (fun H1 locs1 hP hD hS => ?_)
  have hf := k_fsetr (E := E) (ad := ad) (σ := σ) (r := r) hs hk
  rw [← k_cv_ref (E := E) hr, hf] at hP hD
  exact kk N0 ad0 p e R s m args below meth c H1 locs1 cells slots lsC ad mc ms C ⟨by rw [List.length_set]; exact X.1, X.2.1, X.2.2.1, X.2.2.2.1, X.2.2.2.2.1, hS, hP, hD, X.2.2.2.2.2.2.2.2⟩ hl
end K_C
