/-! ===== RULES OF ARRAYS, and of what is made ===== -/
section K_D1
variable {E : k_E} {M : k_M} {dp pc k n : Nat} {ls : List (Nat × Value)} {st : List Value} {sh : List k_Sh} {σ : Nat → Nat → Int} {Q : k_Q}
theorem k_r_in {i : Int} {w : Nat} (h0 : 0 ≤ i) (h1 : i < w) (hw : w < 2147483648) : k_r i := ⟨by omega, by omega⟩
theorem k_aent {ad : Nat → Nat} {a kd w : Nat} (hs : sh[a]? = some (.inl (kd, w))) : (k_cw E ad sh σ)[a]? = some (ad a, .inl (k_dA E kd, w, k_arr ad kd (σ a))) := k_cw_get hs
theorem k_upi (f : Nat → Int) (m : Nat) (z : Int) : upd (fun j => iI (f j)) m (iI z) = fun j => iI (k_u1 f m z j) := by
  funext j
  unfold upd k_u1
  split <;> rfl
theorem k_upl (f : Nat → Int) (m : Nat) (z : Int) : vp_updL (fun j => iL (f j)) m (iL z) = fun j => iL (k_u1 f m z j) := by
  funext j
  unfold vp_updL k_u1
  split <;> rfl
theorem k_iald {a w : Nat} {i : Int} (hd : decode M.2.1 pc = .ok (.iaload, 1)) (ha : a ≠ 1000001) (hs : sh[a]? = some (.inl (0, w))) (h0 : 0 ≤ i) (h1 : i < w) (hw : w < 2147483648) (kk : k_V E M dp (pc + 1) ls (.int (iI (σ a i.toNat)) :: st) sh σ k n Q) : k_V E M dp pc ls (.int (iI i) :: .ref a :: st) sh σ k n Q := by
  intro N0 ad0 p e R s m args below meth c H locs cells slots lsC ad mc ms C X hl
  have hr := k_r_in h0 h1 hw
  rw [List.map_cons, List.map_cons, k_cv_ref ha]
  have h := kk N0 ad0 p e R s m args below meth c H locs cells slots lsC ad mc ms C X hl
  rw [← iI_clamp hr] at h
  exact va_iald C.1 C.2.1 (k_Kat C) X.2.2.2.2.2.2.1 a 0 (k_aent hs) (k_tys_at E (k := 0) (by decide)) (iI_in hr h0 h1) hd h

theorem k_bald {a w : Nat} {i : Int} (hd : decode M.2.1 pc = .ok (.baload, 1)) (ha : a ≠ 1000001) (hs : sh[a]? = some (.inl (2, w))) (h0 : 0 ≤ i) (h1 : i < w) (hw : w < 2147483648) (kk : k_V E M dp (pc + 1) ls (.int (iI (σ a i.toNat)) :: st) sh σ k n Q) : k_V E M dp pc ls (.int (iI i) :: .ref a :: st) sh σ k n Q := by
  intro N0 ad0 p e R s m args below meth c H locs cells slots lsC ad mc ms C X hl
  have hr := k_r_in h0 h1 hw
  rw [List.map_cons, List.map_cons, k_cv_ref ha]
  have h := kk N0 ad0 p e R s m args below meth c H locs cells slots lsC ad mc ms C X hl
  rw [← iI_clamp hr] at h
  exact va_bald C.1 C.2.1 (k_Kat C) X.2.2.2.2.2.2.1 a 2 (k_aent hs) (k_tys_at E (k := 2) (by decide)) (iI_in hr h0 h1) hd h

theorem k_iast {a w : Nat} {i z : Int} (hd : decode M.2.1 pc = .ok (.iastore, 1)) (ha : a ≠ 1000001) (hs : sh[a]? = some (.inl (0, w))) (h0 : 0 ≤ i) (h1 : i < w) (hw : w < 2147483648)  (kk : k_V E M dp (pc + 1) ls st sh (k_up σ a (k_u1 (σ a) i.toNat z)) k n Q) : k_V E M dp pc ls (.int (iI z) :: .int (iI i) :: .ref a :: st) sh σ k n Q := by
  intro N0 ad0 p e R s m args below meth c H locs cells slots lsC ad mc ms C X hl
  have hr := k_r_in h0 h1 hw
  rw [List.map_cons, List.map_cons, List.map_cons, k_cv_ref ha]
  refine va_iast C.1 C.2.1 (k_Kat C) X.2.2.2.2.2.2.1 X.2.2.2.2.2.2.2.1 X.2.2.2.2.2.1 a 0 (k_aent hs) (k_tys_at E (k := 0) (by decide)) (iI_in hr h0 h1) hd (fun H1 locs1 hP hD hS => ?_)
  have hf := k_cw_set1 (E := E) (ad := ad) (σ := σ) (f := k_u1 (σ a) i.toNat z) hs
  have he : k_conc E ad (.inl (0, w)) (k_u1 (σ a) i.toNat z) = .inl (k_dA E 0, w, k_arr ad 0 (k_u1 (σ a) i.toNat z)) := rfl
  rw [he] at hf
  rw [iI_clamp hr, k_upi] at hP hD
  have hP : va_P (k_D E) k_cls _ H1 := hf ▸ hP
  have hD : va_D (k_A E) _ := hf ▸ hD
  exact kk N0 ad0 p e R s m args below meth c H1 locs1 cells slots lsC ad mc ms C ⟨X.1, X.2.1, X.2.2.1, X.2.2.2.1, X.2.2.2.2.1, hS, hP, hD, X.2.2.2.2.2.2.2.2⟩ hl

theorem k_bast {a w : Nat} {i z : Int} (hd : decode M.2.1 pc = .ok (.bastore, 1)) (ha : a ≠ 1000001) (hs : sh[a]? = some (.inl (2, w))) (h0 : 0 ≤ i) (h1 : i < w) (hw : w < 2147483648) (hz : vp_nar .byte (iI z) = iI z) (kk : k_V E M dp (pc + 1) ls st sh (k_up σ a (k_u1 (σ a) i.toNat z)) k n Q) : k_V E M dp pc ls (.int (iI z) :: .int (iI i) :: .ref a :: st) sh σ k n Q := by
  intro N0 ad0 p e R s m args below meth c H locs cells slots lsC ad mc ms C X hl
  have hr := k_r_in h0 h1 hw
  rw [List.map_cons, List.map_cons, List.map_cons, k_cv_ref ha]
  refine va_bast C.1 C.2.1 (k_Kat C) X.2.2.2.2.2.2.1 X.2.2.2.2.2.2.2.1 X.2.2.2.2.2.1 a 2 (k_aent hs) (k_tys_at E (k := 2) (by decide)) (iI_in hr h0 h1) hd (fun H1 locs1 hP hD hS => ?_)
  have hf := k_cw_set1 (E := E) (ad := ad) (σ := σ) (f := k_u1 (σ a) i.toNat z) hs
  have he : k_conc E ad (.inl (2, w)) (k_u1 (σ a) i.toNat z) = .inl (k_dA E 2, w, k_arr ad 2 (k_u1 (σ a) i.toNat z)) := rfl
  rw [he] at hf
  rw [iI_clamp hr, hz, k_upi] at hP hD
  have hP : va_P (k_D E) k_cls _ H1 := hf ▸ hP
  have hD : va_D (k_A E) _ := hf ▸ hD
  exact kk N0 ad0 p e R s m args below meth c H1 locs1 cells slots lsC ad mc ms C ⟨X.1, X.2.1, X.2.2.1, X.2.2.2.1, X.2.2.2.2.1, hS, hP, hD, X.2.2.2.2.2.2.2.2⟩ hl

theorem k_aald5 {a w r : Nat} {i : Int} (hd : decode M.2.1 pc = .ok (.aaload, 1)) (ha : a ≠ 1000001) (hs : sh[a]? = some (.inl (5, w))) (h0 : 0 ≤ i) (h1 : i < w) (hw : w < 2147483648) (hr1 : r ≠ 1000001) (hz : σ a i.toNat = (r : Int) + 1) (kk : k_V E M dp (pc + 1) ls (.ref r :: st) sh σ k n Q) : k_V E M dp pc ls (.int (iI i) :: .ref a :: st) sh σ k n Q := by
  intro N0 ad0 p e R s m args below meth c H locs cells slots lsC ad mc ms C X hl
  have hr := k_r_in h0 h1 hw
  rw [List.map_cons, List.map_cons, k_cv_ref ha]
  have h := kk N0 ad0 p e R s m args below meth c H locs cells slots lsC ad mc ms C X hl
  rw [List.map_cons, k_cv_ref hr1] at h
  refine va_aldq (C := RX5) (f := fun j => if σ a j = 0 then none else some (ad ((σ a j).toNat - 1))) C.1 C.2.1 (k_Kat C) X.2.2.2.2.2.2.1 a 5 (k_aent hs) (k_tys_at E (k := 5) (by decide)) (iI_in hr h0 h1) hd ?_
  rw [iI_clamp hr, hz, if_neg (by omega), show ((r : Int) + 1).toNat - 1 = r by omega]
  exact h

theorem k_alen {a kd w : Nat} (hd : decode M.2.1 pc = .ok (.arraylength, 1)) (ha : a ≠ 1000001) (hs : sh[a]? = some (.inl (kd, w))) (hk : kd < 7) (kk : k_V E M dp (pc + 1) ls (.int (iI (w : Int)) :: st) sh σ k n Q) : k_V E M dp pc ls (.ref a :: st) sh σ k n Q := by
  intro N0 ad0 p e R s m args below meth c H locs cells slots lsC ad mc ms C X hl
  rw [List.map_cons, k_cv_ref ha]
  exact va_alen (v := iI w) C.1 C.2.1 (k_Kat C) X.2.2.2.2.2.2.1 a kd (k_aent hs) (k_tys_at E hk) rfl hd (kk N0 ad0 p e R s m args below meth c H locs cells slots lsC ad mc ms C X hl)

theorem k_aast5 {a w v ci : Nat} {cs : List Nat} {q : vw_C} {i : Int} (hd : decode M.2.1 pc = .ok (.aastore, 1)) (ha : a ≠ 1000001) (hs : sh[a]? = some (.inl (5, w))) (h0 : 0 ≤ i) (h1 : i < w) (hw : w < 2147483648) (hv1 : v ≠ 1000001) (hv : sh[v]? = some (.inr (ci, cs))) (hc : k_cls[ci]? = some q) (hq : q.1 = RX5) (kk : k_V E M dp (pc + 1) ls st sh (k_up σ a (k_u1 (σ a) i.toNat ((v : Int) + 1))) k n Q) : k_V E M dp pc ls (.ref v :: .int (iI i) :: .ref a :: st) sh σ k n Q := by
  intro N0 ad0 p e R s m args below meth c H locs cells slots lsC ad mc ms C X hl
  have hr := k_r_in h0 h1 hw
  rw [List.map_cons, List.map_cons, List.map_cons, k_cv_ref ha, k_cv_ref hv1]
  refine va_astq (r := q) (f := fun j => if σ a j = 0 then none else some (ad ((σ a j).toNat - 1))) C.1 C.2.1 (k_Kat C) X.2.2.2.2.2.2.1 X.2.2.2.2.2.2.2.1 X.2.2.2.2.2.1 a 5 v ci (k_aent hs) (by rw [hq]; exact k_tys_at E (k := 5) (by decide)) (k_obj hv) hc (iI_in hr h0 h1) hd (fun H1 locs1 hP hD hS => ?_)
  have hf := k_cw_set1 (E := E) (ad := ad) (σ := σ) (f := k_u1 (σ a) i.toNat ((v : Int) + 1)) hs
  have hu : va_up (fun j => if σ a j = 0 then none else some (ad ((σ a j).toNat - 1))) i.toNat (some (ad v)) = fun j => if k_u1 (σ a) i.toNat ((v : Int) + 1) j = 0 then none else some (ad ((k_u1 (σ a) i.toNat ((v : Int) + 1) j).toNat - 1)) := by
    funext j
    unfold va_up k_u1
    by_cases h : j = i.toNat
    · rw [if_pos h, if_pos h, if_neg (by omega), show ((v : Int) + 1).toNat - 1 = v by omega]
    · rw [if_neg h, if_neg h]
  have he : k_conc E ad (.inl (5, w)) (k_u1 (σ a) i.toNat ((v : Int) + 1)) = .inl (k_dA E 5, w, .inr (.inr (.inr (.inr fun j => if k_u1 (σ a) i.toNat ((v : Int) + 1) j = 0 then none else some (ad ((k_u1 (σ a) i.toNat ((v : Int) + 1) j).toNat - 1)))))) := rfl
  rw [he, ← hu] at hf
  rw [iI_clamp hr, hf] at hP hD
  exact kk N0 ad0 p e R s m args below meth c H1 locs1 cells slots lsC ad mc ms C ⟨X.1, X.2.1, X.2.2.1, X.2.2.2.1, X.2.2.2.2.1, hS, hP, hD, X.2.2.2.2.2.2.2.2⟩ hl

theorem k_stup {ad : Nat → Nat} {q : Nat} (hN : sh.length < 1000000) (h : ∀ v ∈ st, k_okv sh.length v) : st.map (k_cv E (va_up ad sh.length q)) = st.map (k_cv E ad) := List.map_congr_left fun v hv => k_cv_up hN (h v hv)
theorem k_lsup {ad : Nat → Nat} {q : Nat} (hN : sh.length < 1000000) (h : ∀ z ∈ ls, k_okv sh.length z.2) : k_lc E (va_up ad sh.length q) ls = k_lc E ad ls := List.map_congr_left fun z hz => by rw [k_cv_up hN (h z hz)]
theorem k_new {idx ci N : Nat} {C : String} {T : u_T} {ty : Nat → FieldType} {cs : List Nat} (hd : decode M.2.1 pc = .ok (.new idx, 3)) (hT : k_Cls ci C T N ty) (hw : Cond.classLink M.1.cls idx C ∈ k_TBL) (hi : Cond.instantiable C N ∈ k_TBL) (hini : Cond.initialized C ∈ k_TBL) (hcs : cs.length = N) (hc2 : ∀ c ∈ cs, c = 0 ∨ c = 2) (hfs : ∀ j, j < N → defaultValue (ty j) = k_fv (cs.getD j 0) 0) (hN : sh.length < 1000000) (hok : k_ok sh σ) (hls : ∀ z ∈ ls, k_okv sh.length z.2) (hst : ∀ v ∈ st, k_okv sh.length v) (kk : k_V E M dp (pc + 3) ls (.ref sh.length :: st) (sh ++ [.inr (ci, cs)]) (k_up σ sh.length fun _ => 0) k n Q) : k_V E M dp pc ls st sh σ (k + 1) (n + N) Q := by
  intro N0 ad0 p e R s m args below meth c H locs cells slots lsC ad mc ms C X hl
  have hsz : (k_s0 E).heap.size ≤ s.heap.size := C.2.2.2.2.2.2.2.2.2.1.2.1
  have hA : ∀ q, s.heap.size ≤ q → k_A E q := fun q h => Nat.le_trans hsz h
  have hce : ∀ (ad : Nat → Nat) (i c : Nat), cs[i]? = some c → k_cv E ad (k_fv c 0) = k_fv c 0 := fun ad i c h => by
    rcases hc2 c (List.mem_of_getElem? h) with rfl | rfl <;> rfl
  refine va_new (Ts := k_ws M) (T := T) (cl := k_cls) (D := k_D E) (fs := cs.mapIdx fun i c => k_fv c 0) C.1 C.2.1 C.2.2.2.2.2.1 (fun w h => k_cws (hT.2.1 w h)) ty hT.2.2.1 C.2.2.2.2.1 (C.2.2.2.2.2.1 _ (k_cws hw)) (C.2.2.2.2.2.1 _ (k_cws hi)) (C.2.2.2.2.2.1 _ (k_cws hini)) (k_Kat C) X.2.2.2.2.2.2.1 X.2.2.2.2.2.2.2.1 X.2.2.2.2.2.1 hA hT.1 (fun j hj => ?_) (by have := X.2.1; have := X.2.2.2.1; omega) (by have := X.2.2.1; have := X.2.2.2.2.1; omega) hd (fun q H1 hP hD hS => ?_)
  · rw [hfs j hj]
    unfold vp_V
    have hj2 : j < cs.length := by omega
    simp [List.getD, List.getElem?_mapIdx, hj2]
  · have hcc : k_conc E (va_up ad sh.length q) (.inr (ci, cs)) (fun _ => 0) = .inr (ci, cs.mapIdx fun i c => k_fv c 0) := by
      show (Sum.inr (ci, _) : va_E) = Sum.inr (ci, _)
      congr 2
      apply List.ext_getElem?
      intro i
      rw [List.getElem?_mapIdx, List.getElem?_mapIdx]
      cases h : cs[i]? with
      | none => rfl
      | some y => exact congrArg some (hce _ i y h)
    have hp := k_cw_push (E := E) (ad := ad) (σ := σ) (q := q) (x := .inr (ci, cs)) (f := fun _ => 0) hN hok
    rw [hcc] at hp
    rw [hp] at hP hD
    have hz : va_up ad sh.length q sh.length = q := if_pos rfl
    have h := kk N0 ad0 p e R s m args below meth c H1 locs (cells + 1) (slots + N) lsC (va_up ad sh.length q) mc ms C ⟨⟨Nat.le_trans X.1.1 (by rw [List.length_append]; exact Nat.le_add_right _ _), fun j hj => ?_⟩, by have := X.2.1; omega, by have := X.2.2.1; omega, X.2.2.2.1, X.2.2.2.2.1, hS, hP, hD, fun j hj => ?_⟩ (by rw [k_lsup hN hls]; exact hl)
    rw [List.map_cons, k_cv_ref (by omega), hz, k_stup hN hst] at h
    exact h
    · rw [show va_up ad sh.length q j = ad j from if_neg (by rw [List.length_append, List.length_singleton] at hj; have := X.1.1; omega)]
      exact X.1.2 j (by rw [List.length_append, List.length_singleton] at hj; omega)
    · rw [show va_up ad sh.length q j = ad j from if_neg (by omega)]
      exact X.2.2.2.2.2.2.2.2 j hj

theorem k_newa0 {i : Int} {w : Nat} (hd : decode M.2.1 pc = .ok (.newarray .int, 2)) (harr : Cond.arrayClass .int ∈ k_TBL) (hi : i = (w : Int)) (hw : w < 65536) (hN : sh.length < 1000000) (hok : k_ok sh σ) (hls : ∀ z ∈ ls, k_okv sh.length z.2) (hst : ∀ v ∈ st, k_okv sh.length v) (kk : k_V E M dp (pc + 2) ls (.ref sh.length :: st) (sh ++ [.inl (0, w)]) (k_up σ sh.length fun _ => 0) k n Q) : k_V E M dp pc ls (.int (iI i) :: st) sh σ (k + 1) (n + w) Q := by
  intro N0 ad0 p e R s m args below meth c H locs cells slots lsC ad mc ms C X hl
  have hsz : (k_s0 E).heap.size ≤ s.heap.size := C.2.2.2.2.2.2.2.2.2.1.2.1
  have hA : ∀ q, s.heap.size ≤ q → k_A E q := fun q h => Nat.le_trans hsz h
  have hr : k_r i := ⟨by omega, by omega⟩
  refine va_newa (ty := .int) (atype := .int) (N' := w) (a0 := (w, k_arr ad 0 fun _ => 0)) C.1 C.2.1 (C.2.2.2.2.2.1 _ (k_cws harr)) rfl (k_Kat C) X.2.2.2.2.2.2.1 X.2.2.2.2.2.2.2.1 X.2.2.2.2.2.1 hA (fun cA => rfl) (by rw [Int32.lt_iff_toInt_lt, iI_toInt hr]; show ¬ i < 0; omega) (by rw [iI_clamp hr]; omega) (by show w * 4 ≤ 536870912; omega) (by have := X.2.1; have := X.2.2.2.1; omega) (by have := X.2.2.1; have := X.2.2.2.2.1; omega) hd (fun q cA H1 hK hP hD hS => ?_)
  have h1 : va_RA s cA .int := (hK.2 7 (cA, .int) (by simp [k_tys])).2
  have h2 : va_RA s (k_dA E 0) .int := ((k_Kat C).2 0 _ (k_tys_at E (k := 0) (by decide))).2
  have hcA : cA = k_dA E 0 := Option.some.inj (Eq.trans (Eq.symm h1) h2)
  subst hcA
  have hp := k_cw_push (E := E) (ad := ad) (σ := σ) (q := q) (x := .inl (0, w)) (f := fun _ => 0) hN hok
  have hcc : k_conc E (va_up ad sh.length q) (.inl (0, w)) (fun _ => 0) = .inl (k_dA E 0, w, k_arr ad 0 fun _ => 0) := rfl
  rw [hcc] at hp
  rw [hp] at hP hD
  have hz : va_up ad sh.length q sh.length = q := if_pos rfl
  have h := kk N0 ad0 p e R s m args below meth c H1 locs (cells + 1) (slots + w) lsC (va_up ad sh.length q) mc ms C ⟨⟨Nat.le_trans X.1.1 (by rw [List.length_append]; exact Nat.le_add_right _ _), fun j hj => ?_⟩, by have := X.2.1; omega, by have := X.2.2.1; omega, X.2.2.2.1, X.2.2.2.2.1, hS, hP, hD, fun j hj => ?_⟩ (by rw [k_lsup hN hls]; exact hl)
  rw [List.map_cons, k_cv_ref (by omega), hz, k_stup hN hst] at h
  exact h
  · rw [show va_up ad sh.length q j = ad j from if_neg (by rw [List.length_append, List.length_singleton] at hj; have := X.1.1; omega)]
    exact X.1.2 j (by rw [List.length_append, List.length_singleton] at hj; omega)
  · rw [show va_up ad sh.length q j = ad j from if_neg (by omega)]
    exact X.2.2.2.2.2.2.2.2 j hj

theorem k_newa2 {i : Int} {w : Nat} (hd : decode M.2.1 pc = .ok (.newarray .byte, 2)) (harr : Cond.arrayClass .byte ∈ k_TBL) (hi : i = (w : Int)) (hw : w < 65536) (hN : sh.length < 1000000) (hok : k_ok sh σ) (hls : ∀ z ∈ ls, k_okv sh.length z.2) (hst : ∀ v ∈ st, k_okv sh.length v) (kk : k_V E M dp (pc + 2) ls (.ref sh.length :: st) (sh ++ [.inl (2, w)]) (k_up σ sh.length fun _ => 0) k n Q) : k_V E M dp pc ls (.int (iI i) :: st) sh σ (k + 1) (n + w) Q := by
  intro N0 ad0 p e R s m args below meth c H locs cells slots lsC ad mc ms C X hl
  have hsz : (k_s0 E).heap.size ≤ s.heap.size := C.2.2.2.2.2.2.2.2.2.1.2.1
  have hA : ∀ q, s.heap.size ≤ q → k_A E q := fun q h => Nat.le_trans hsz h
  have hr : k_r i := ⟨by omega, by omega⟩
  refine va_newa (ty := .byte) (atype := .byte) (N' := w) (a0 := (w, k_arr ad 2 fun _ => 0)) C.1 C.2.1 (C.2.2.2.2.2.1 _ (k_cws harr)) rfl (k_Kat C) X.2.2.2.2.2.2.1 X.2.2.2.2.2.2.2.1 X.2.2.2.2.2.1 hA (fun cA => rfl) (by rw [Int32.lt_iff_toInt_lt, iI_toInt hr]; show ¬ i < 0; omega) (by rw [iI_clamp hr]; omega) (by show w * 1 ≤ 536870912; omega) (by have := X.2.1; have := X.2.2.2.1; omega) (by have := X.2.2.1; have := X.2.2.2.2.1; omega) hd (fun q cA H1 hK hP hD hS => ?_)
  have h1 : va_RA s cA .byte := (hK.2 7 (cA, .byte) (by simp [k_tys])).2
  have h2 : va_RA s (k_dA E 2) .byte := ((k_Kat C).2 2 _ (k_tys_at E (k := 2) (by decide))).2
  have hcA : cA = k_dA E 2 := Option.some.inj (Eq.trans (Eq.symm h1) h2)
  subst hcA
  have hp := k_cw_push (E := E) (ad := ad) (σ := σ) (q := q) (x := .inl (2, w)) (f := fun _ => 0) hN hok
  have hcc : k_conc E (va_up ad sh.length q) (.inl (2, w)) (fun _ => 0) = .inl (k_dA E 2, w, k_arr ad 2 fun _ => 0) := rfl
  rw [hcc] at hp
  rw [hp] at hP hD
  have hz : va_up ad sh.length q sh.length = q := if_pos rfl
  have h := kk N0 ad0 p e R s m args below meth c H1 locs (cells + 1) (slots + w) lsC (va_up ad sh.length q) mc ms C ⟨⟨Nat.le_trans X.1.1 (by rw [List.length_append]; exact Nat.le_add_right _ _), fun j hj => ?_⟩, by have := X.2.1; omega, by have := X.2.2.1; omega, X.2.2.2.1, X.2.2.2.2.1, hS, hP, hD, fun j hj => ?_⟩ (by rw [k_lsup hN hls]; exact hl)
  rw [List.map_cons, k_cv_ref (by omega), hz, k_stup hN hst] at h
  exact h
  · rw [show va_up ad sh.length q j = ad j from if_neg (by rw [List.length_append, List.length_singleton] at hj; have := X.1.1; omega)]
    exact X.1.2 j (by rw [List.length_append, List.length_singleton] at hj; omega)
  · rw [show va_up ad sh.length q j = ad j from if_neg (by omega)]
    exact X.2.2.2.2.2.2.2.2 j hj

end K_D1
