/-! ===== THE MAKING: the model ===== -/
section K_CM
variable {E : k_E} {M M1 : k_M} {dp d1 pc k n k1 n1 na : Nat} {ls : List (Nat × Value)} {st as : List Value} {sh L T : List k_Sh} {σ σ' τ : Nat → Nat → Int} {Q Q1 : k_Q} {o : Option Value}
theorem k_asg_refl (vm : Vm) (c : ClassId) : vm.assignable c c = true := by
  show vm.assignableAux (255 + 1) c c = true
  rw [Vm.assignableAux, beq_self_eq_true, Bool.true_or]
/-- a text of the start, put into a row of texts -/
theorem k_aast6 {a w j : Nat} {i : Int} (hd : decode M.2.1 pc = .ok (.aastore, 1)) (ha : a ≠ 1000001) (hs : sh[a]? = some (.inl (6, w))) (h0 : 0 ≤ i) (h1 : i < w) (hw : w < 2147483648) (hj : j < 24) (kk : k_V E M dp (pc + 1) ls st sh (k_up σ a (k_u1 (σ a) i.toNat (((1000010 + j : Nat) : Int) + 1))) k n Q) : k_V E M dp pc ls (.ref (1000010 + j) :: .int (iI i) :: .ref a :: st) sh σ k n Q := by
  intro N0 ad0 p e R s m args below meth c H locs cells slots lsC ad mc ms C X hl
  have hr := k_r_in h0 h1 hw
  rw [List.map_cons, List.map_cons, List.map_cons, k_cv_ref ha, k_cv_ref (by omega)]
  have hany : va_Any "java/lang/String" s H (ad (1000010 + j)) := by
    obtain ⟨hW, hz, hh, -⟩ := C.2.2.2.2.2.2.2.2.2.1
    have h := ((k_ok3 C).2.2.1 j _ (k_str_at hj)).2.1
    rw [k_spc X.2.2.2.2.2.2 (by omega)]
    obtain ⟨cell, h1, h2, h3, -⟩ := (va_O.moved hW.alike (h.kept fun a ha _ => hh a ha) : va_O _ _ _ s s.heap).kept X.2.2.2.2.2.1.2.1
    obtain ⟨kC, hkC, -⟩ := Vm.findClass_spec h3
    exact ⟨cell, h1, h2, ⟨kC, hkC⟩, fun comp hc => by cases h3.symm.trans hc; exact k_asg_refl _ _⟩
  refine va_astqM (E := "java/lang/String") (f := fun j => if σ a j = 0 then none else some (ad ((σ a j).toNat - 1))) C.1 C.2.1 (k_Kat C) X.2.2.2.2.2.2.1 X.2.2.2.2.2.2.2.1 X.2.2.2.2.2.1 a 6 (k_aent hs) (k_tys_at E (k := 6) (by decide)) hany (iI_in hr h0 h1) hd (fun H1 locs1 hP hD hS => ?_)
  have hf := k_cw_set1 (E := E) (ad := ad) (σ := σ) (f := k_u1 (σ a) i.toNat (((1000010 + j : Nat) : Int) + 1)) hs
  have hu : va_up (fun j => if σ a j = 0 then none else some (ad ((σ a j).toNat - 1))) i.toNat (some (ad (1000010 + j))) = fun q => if k_u1 (σ a) i.toNat (((1000010 + j : Nat) : Int) + 1) q = 0 then none else some (ad ((k_u1 (σ a) i.toNat (((1000010 + j : Nat) : Int) + 1) q).toNat - 1)) := by
    funext q
    unfold va_up k_u1
    by_cases h : q = i.toNat
    · rw [if_pos h, if_pos h, if_neg (by omega), show (((1000010 + j : Nat) : Int) + 1).toNat - 1 = 1000010 + j by omega]
    · rw [if_neg h, if_neg h]
  have he : k_conc E ad (.inl (6, w)) (k_u1 (σ a) i.toNat (((1000010 + j : Nat) : Int) + 1)) = .inl (k_dA E 6, w, .inr (.inr (.inr (.inr fun q => if k_u1 (σ a) i.toNat (((1000010 + j : Nat) : Int) + 1) q = 0 then none else some (ad ((k_u1 (σ a) i.toNat (((1000010 + j : Nat) : Int) + 1) q).toNat - 1)))))) := rfl
  rw [he, ← hu] at hf
  rw [iI_clamp hr, hf] at hP hD
  exact kk N0 ad0 p e R s m args below meth c H1 locs1 cells slots lsC ad mc ms C ⟨X.1, X.2.1, X.2.2.1, X.2.2.2.1, X.2.2.2.2.1, hS, hP, hD, X.2.2.2.2.2.2.2.2⟩ hl
theorem k_rowC {idx ci kf N w : Nat} {i : Int} {cs cs' : List Nat} {T' : List k_Sh} {C : String} {Tf : u_T} {ty : Nat → FieldType} (hd : decode M.2.1 pc = .ok (.newarray .char, 2)) (hd2 : decode M.2.1 (pc + 2) = .ok (.putfield idx, 3)) (hT : k_Cls ci C Tf N ty) (hw : Cond.fieldLink M.1.cls idx (Tf kf).1 (Tf kf).2.1 (Tf kf).2.2.1 ∈ k_TBL) (hkf : kf < N) (hk : kf < cs.length) (hfin : (Tf kf).2.2.2 = true) (hin : M.1.name = "<init>") (hdc : (Tf kf).1 = M.1.cls) (hn : ∀ x, narrow (ty kf) (.ref x) = .ref x) (hfit : ∀ x, fits (ty kf) (.ref x) = true) (harr : Cond.arrayClass .char ∈ k_TBL) (hi : i = (w : Int)) (hw16 : w < 65536) (hN : L.length < 900000 ∧ T.length < 10000) (hI : k_I (L ++ (.inr (ci, cs) :: T)) σ) (hl : k_okl (L.length + 1) ls st) (hcs' : cs.set kf (L.length + (1 + T.length) + 3) = cs') (hT' : T ++ [.inl (1, w)] = T')
    (kk : k_I (L ++ (.inr (ci, cs') :: T')) σ → k_V E M dp (pc + 5) ls st (L ++ (.inr (ci, cs') :: T')) σ k n Q) : k_V E M dp pc ls (.int (iI i) :: .ref L.length :: st) (L ++ (.inr (ci, cs) :: T)) σ (k + 1) (n + w) Q := by
  subst hcs' hT'
  have hlen : (L ++ ((.inr (ci, cs) : k_Sh) :: T)).length = L.length + (1 + T.length) := by rw [List.length_append, List.length_cons]; omega
  have hl2 := k_okl_mono (N2 := (L ++ ((.inr (ci, cs) : k_Sh) :: T)).length) (by omega) hl
  have hp := k_I_push hI (x := .inl (1, w)) (fun _ _ h => by cases h)
  refine k_newa1 hd harr hi hw16 (by omega) hI.1 hl2.1 (fun v hv => ?_) ?_
  · rcases List.mem_cons.mp hv with rfl | hv
    · exact Or.inl (by show L.length < _; rw [hlen]; omega)
    · exact hl2.2 v hv
  · have e : (L ++ ((.inr (ci, cs) : k_Sh) :: T)) ++ [.inl (1, w)] = L ++ (.inr (ci, cs) :: (T ++ [.inl (1, w)])) := List.append_assoc _ _ _
    have hp1 := hp.1
    rw [hp.2, e]
    rw [e] at hp1
    have hs := k_get_mid L (T ++ [.inl (1, w)]) (.inr (ci, cs))
    refine k_putFr hd2 hT hw hkf (by omega) hs hk hfin hin hdc (by omega) hn hfit ?_
    have h2 := k_I_set (kf := kf) (r := L.length + (1 + T.length)) hp1 hs (by rw [List.length_append, List.length_cons, List.length_append, List.length_singleton]; omega)
    rw [k_set_mid] at h2
    rw [hlen, k_set_mid]
    exact kk h2
/-- a row of texts made, not yet in its field -/
theorem k_mkQ {idq w kd r : Nat} {i : Int} {x : k_Sh} {Cn : String} {T' : List k_Sh} (hd : decode M.2.1 pc = .ok (.anewarray idq, 3)) (hcl : Cond.classLink M.1.cls idq Cn ∈ k_TBL) (hao : Cond.arrayOver (.object Cn) ∈ k_NW) (hkt : (k_tys E)[kd]? = some (k_dA E kd, .object Cn)) (hkd : kd = 5 ∨ kd = 6) (hi : i = (w : Int)) (hw16 : w < 65536) (hN : L.length < 900000 ∧ T.length < 10000) (hI : k_I (L ++ (x :: T)) σ) (hl : k_okl (L.length + 1) ls st) (hT' : T ++ [.inl (kd, w)] = T') (hr' : L.length + (1 + T.length) = r)
    (kk : k_I (L ++ (x :: T')) σ → k_V E M dp (pc + 3) ls (.ref r :: st) (L ++ (x :: T')) σ k n Q) : k_V E M dp pc ls (.int (iI i) :: st) (L ++ (x :: T)) σ (k + 1) (n + w) Q := by
  subst hT' hr'
  have hlen : (L ++ (x :: T)).length = L.length + (1 + T.length) := by rw [List.length_append, List.length_cons]; omega
  have hl2 := k_okl_mono (N2 := (L ++ (x :: T)).length) (by omega) hl
  have hp := k_I_push hI (x := .inl (kd, w)) (fun _ _ h => by cases h)
  refine k_newq hd hcl hao hkt hkd hi hw16 (by omega) hI.1 hl2.1 hl2.2 ?_
  have e : (L ++ (x :: T)) ++ [.inl (kd, w)] = L ++ (x :: (T ++ [.inl (kd, w)])) := List.append_assoc _ _ _
  have hp1 := hp.1
  rw [hp.2, e, hlen]
  rw [e] at hp1
  exact kk hp1
end K_CM
