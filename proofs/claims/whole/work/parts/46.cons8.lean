/-! ===== THE MAKING: the model ===== -/
section K_CM
variable {E : k_E} {M M1 : k_M} {dp d1 pc k n k1 n1 na : Nat} {ls : List (Nat × Value)} {st as : List Value} {sh L T : List k_Sh} {σ σ' τ : Nat → Nat → Int} {Q Q1 : k_Q} {o : Option Value}
theorem k_asg_refl (vm : Vm) (c : ClassId) : vm.assignable c c = true := by
  show vm.assignableAux (255 + 1) c c = true
  rw [Vm.assignableAux, beq_self_eq_true, Bool.true_or]
/-- a text of the start, put into a row of texts -/
theorem k_aast6 {a w j : Nat} {i : Int} (hd : decode M.2.1 pc = .ok (.aastore, 1)) (ha : a ≠ 1000001) (hs : sh[a]? = some (.inl (6, w))) (h0 : 0 ≤ i) (h1 : i < w) (hw : w < 2147483648) (hj : j < 24) (kk : k_V E M dp (pc + 1) ls st sh (k_up σ a (k_u1 (σ a) i.toNat (((1000010 + j : Nat) : Int) + 1))) k n Q) : k_V E M dp pc ls (.ref (1000010 + j) :: .int (iI i) :: .ref a :: st) sh σ k n Q := by
  intro N0 ad0 p e R s m args below meth c H locs cells slots lsC ad mc ms C X hl
  have hr := k_r_in h0 h1 hw
  rw [List.map_cons, List.map_cons, List.map_cons, k_cv_ref ha, k_cv_ref (by omega)]
  have hany : va_Any "java/lang/String" s H (ad (1000010 + j)) := by
    obtain ⟨hW, hz, hh, -⟩ := C.2.2.2.2.2.2.2.2.2.1
    have h := ((k_ok3 C).2.2.1 j _ (k_str_at hj)).2.1
    rw [k_spc X.2.2.2.2.2.2 (by omega)]
    obtain ⟨cell, h1, h2, h3, -⟩ := (va_O.moved hW.alike (h.kept fun a ha _ => hh a ha) : va_O _ _ _ s s.heap).kept X.2.2.2.2.2.1.2.1
    obtain ⟨kC, hkC, -⟩ := Vm.findClass_spec h3
    exact ⟨cell, h1, h2, ⟨kC, hkC⟩, fun comp hc => by cases h3.symm.trans hc; exact k_asg_refl _ _⟩
  refine va_astqM (E := "java/lang/String") (f := fun j => if σ a j = 0 then none else some (ad ((σ a j).toNat - 1))) C.1 C.2.1 (k_Kat C) X.2.2.2.2.2.2.1 X.2.2.2.2.2.2.2.1 X.2.2.2.2.2.1 a 6 (k_aent hs) (k_tys_at E (k := 6) (by decide)) hany (iI_in hr h0 h1) hd (fun H1 locs1 hP hD hS => ?_)
  have hf := k_cw_set1 (E := E) (ad := ad) (σ := σ) (f := k_u1 (σ a) i.toNat (((1000010 + j : Nat) : Int) + 1)) hs
  have hu : va_up (fun j => if σ a j = 0 then none else some (ad ((σ a j).toNat - 1))) i.toNat (some (ad (1000010 + j))) = fun q => if k_u1 (σ a) i.toNat (((1000010 + j : Nat) : Int) + 1) q = 0 then none else some (ad ((k_u1 (σ a) i.toNat (((1000010 + j : Nat) : Int) + 1) q).toNat - 1)) := by
    funext q
    unfold va_up k_u1
    by_cases h : q = i.toNat
    · rw [if_pos h, if_pos h, if_neg (by omega), show (((1000010 + j : Nat) : Int) + 1).toNat - 1 = 1000010 + j by omega]
    · rw [if_neg h, if_neg h]
  have he : k_conc E ad (.inl (6, w)) (k_u1 (σ a) i.toNat (((1000010 + j : Nat) : Int) + 1)) = .inl (k_dA E 6, w, .inr (.inr (.inr (.inr fun q => if k_u1 (σ a) i.toNat (((1000010 + j : Nat) : Int) + 1) q = 0 then none else some (ad ((k_u1 (σ a) i.toNat (((1000010 + j : Nat) : Int) + 1) q).toNat - 1)))))) := rfl
  rw [he, ← hu] at hf
  rw [iI_clamp hr, hf] at hP hD
  exact kk N0 ad0 p e R s m args below meth c H1 locs1 cells slots lsC ad mc ms C ⟨X.1, X.2.1, X.2.2.1, X.2.2.2.1, X.2.2.2.2.1, hS, hP, hD, X.2.2.2.2.2.2.2.2⟩ hl
end K_CM
