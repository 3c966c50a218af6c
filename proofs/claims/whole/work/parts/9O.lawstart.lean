/-! ===== THE LAW: its start ===== -/
section K_LS
variable {E : k_E} {M : k_M} {dp pc k n : Nat} {ls : List (Nat × Value)} {st : List Value} {sh : List k_Sh} {σ : Nat → Nat → Int} {Q : k_Q}
theorem k_I_nil : k_I [] (fun _ _ => 0) := ⟨fun i x hx => by simp at hx, fun i _ => rfl⟩
theorem k_newK {idx ci N : Nat} {C : String} {T : u_T} {ty : Nat → FieldType} {cs : List Nat} (hd : decode M.2.1 pc = .ok (.new idx, 3)) (hT : k_Cls ci C T N ty) (hw : Cond.classLink M.1.cls idx C ∈ k_TBL) (hi : Cond.instantiable C N ∈ k_TBL) (hini : Cond.initialized C ∈ k_TBL) (hcs : cs.length = N) (hc2 : ∀ c ∈ cs, c = 0 ∨ c = 2) (hfs : ∀ j, j < N → defaultValue (ty j) = k_fv (cs.getD j 0) 0) (hN : sh.length < 1000000) (hI : k_I sh σ) (hl : k_okl sh.length ls st) (kk : k_I (sh ++ [.inr (ci, cs)]) σ → k_V E M dp (pc + 3) ls (.ref sh.length :: st) (sh ++ [.inr (ci, cs)]) σ k n Q) : k_V E M dp pc ls st sh σ (k + 1) (n + N) Q := by
  have hp := k_I_push hI (x := .inr (ci, cs)) (fun ci2 cs2 h => by cases h; exact hc2)
  refine k_new hd hT hw hi hini hcs hc2 hfs hN hI.1 hl.1 hl.2 ?_
  rw [hp.2]
  exact kk hp.1
theorem k_newaK3 {i : Int} {w : Nat} (hd : decode M.2.1 pc = .ok (.newarray .long, 2)) (hi : i = (w : Int)) (hw : w < 65536) (hN : sh.length < 1000000) (hI : k_I sh σ) (hl : k_okl sh.length ls st) (kk : k_I (sh ++ [.inl (3, w)]) σ → k_V E M dp (pc + 2) ls (.ref sh.length :: st) (sh ++ [.inl (3, w)]) σ k n Q) : k_V E M dp pc ls (.int (iI i) :: st) sh σ (k + 1) (n + w) Q := by
  have hp := k_I_push hI (x := .inl (3, w)) (fun ci2 cs2 h => by cases h)
  refine k_newa3 hd w_2282 hi hw hN hI.1 hl.1 hl.2 ?_
  rw [hp.2]
  exact kk hp.1
theorem k_newaK4 {i : Int} {w : Nat} (hd : decode M.2.1 pc = .ok (.newarray .double, 2)) (hi : i = (w : Int)) (hw : w < 65536) (hN : sh.length < 1000000) (hI : k_I sh σ) (hl : k_okl sh.length ls st) (kk : k_I (sh ++ [.inl (4, w)]) σ → k_V E M dp (pc + 2) ls (.ref sh.length :: st) (sh ++ [.inl (4, w)]) σ k n Q) : k_V E M dp pc ls (.int (iI i) :: st) sh σ (k + 1) (n + w) Q := by
  have hp := k_I_push hI (x := .inl (4, w)) (fun ci2 cs2 h => by cases h)
  refine k_newa4 hd w_2283 hi hw hN hI.1 hl.1 hl.2 ?_
  rw [hp.2]
  exact kk hp.1
theorem z0_shape : ((k_plnS 0 ++ k_mdlS 123) ++ [.inl (3, 1)]) ++ [.inl (4, 1)] = k_shape := by decide +kernel
theorem c_law0 (hL : k_L E ≤ 2048) (hdp : 21 ≤ dp) : k_V E mL_law dp 0 [(0, .ref 1000000)] [] [] (fun _ _ => 0) 656 76550 k_QL := by
  have hI := k_I_nil
  refine k_newK (ci := 8) (N := 14) (k := 655) (n := 76536) (cs := [2, 2, 2, 2, 2, 2, 2, 2, 2, 2, 0, 0, 0, 0]) (by decide +kernel : decode cL_law 0 = .ok (.new 8, 3)) kcX7 w_117 w_118 w_85 rfl (by decide) (by intro j hj; have hj2 : j = 0 ∨ j = 1 ∨ j = 2 ∨ j = 3 ∨ j = 4 ∨ j = 5 ∨ j = 6 ∨ j = 7 ∨ j = 8 ∨ j = 9 ∨ j = 10 ∨ j = 11 ∨ j = 12 ∨ j = 13 := (by omega); rcases hj2 with rfl | rfl | rfl | rfl | rfl | rfl | rfl | rfl | rfl | rfl | rfl | rfl | rfl | rfl <;> rfl) (by decide) hI (k_okl_l (Or.inr (Nat.le_refl _)) k_okl_0) (fun hI => ?_)
  refine k_dup (by decide +kernel : decode cL_law 3 = .ok (.dup, 1)) rfl ?_
  refine k_callI (r := 0) (M1 := mX7_init) (k := 533) (n := 74954) (st := [.ref 0]) (as := []) (by decide +kernel : decode cL_law 4 = .ok (.invokespecial 165, 3)) oX7_init rfl rfl w_119 w_120 rfl (by omega : 5 + 1 ≤ dp) rfl (Nat.le_of_ble_eq_true rfl) (by decide) (c_plnInit (L := []) (by decide) hI) (fun X s1 s2 h => by cases h.1) (Or.inl (k_okl_l (Or.inr (Nat.le_refl _)) (k_okl_s (Or.inl (by decide)) k_okl_0))) (fun v s1 s2 h => ?_)
  obtain ⟨g1, g2, g3, hI⟩ := h
  have g2 : s1 = k_plnS 0 := g2
  have g3 : s2 = u_pln0 (fun _ _ => 0) 0 := g3
  subst g2 g3
  cases g1
  have hlen : (k_plnS 0).length = 123 := by rw [k_pln_shape]; decide +kernel
  have hsh := z0_shape
  have hz := z0_inv
  unfold u_z0 at hz
  rw [← hsh] at hz
  clear hsh
  generalize k_plnS 0 = P at hI hlen hz ⊢
  generalize u_pln0 (fun _ _ => 0) 0 = σ1 at hI hz ⊢
  refine k_astore_n (ls' := [(0, .ref 1000000), (1, .ref 0)]) (by decide +kernel : decode cL_law 7 = .ok (.astore_n 1, 1)) rfl (by decide) (by decide) rfl rfl ?_
  refine k_newK (ci := 9) (N := 31) (k := 532) (n := 74923) (cs := [2, 2, 2, 2, 2, 0, 0, 0, 0, 0, 0, 0, 0, 2, 2, 0, 0, 2, 2, 0, 2, 2, 2, 2, 2, 2, 2, 2, 0, 0, 0]) (by decide +kernel : decode cL_law 8 = .ok (.new 166, 3)) kcX8 w_1727 w_1728 w_97 rfl (by decide) (by intro j hj; have hj2 : j = 0 ∨ j = 1 ∨ j = 2 ∨ j = 3 ∨ j = 4 ∨ j = 5 ∨ j = 6 ∨ j = 7 ∨ j = 8 ∨ j = 9 ∨ j = 10 ∨ j = 11 ∨ j = 12 ∨ j = 13 ∨ j = 14 ∨ j = 15 ∨ j = 16 ∨ j = 17 ∨ j = 18 ∨ j = 19 ∨ j = 20 ∨ j = 21 ∨ j = 22 ∨ j = 23 ∨ j = 24 ∨ j = 25 ∨ j = 26 ∨ j = 27 ∨ j = 28 ∨ j = 29 ∨ j = 30 := (by omega); rcases hj2 with rfl | rfl | rfl | rfl | rfl | rfl | rfl | rfl | rfl | rfl | rfl | rfl | rfl | rfl | rfl | rfl | rfl | rfl | rfl | rfl | rfl | rfl | rfl | rfl | rfl | rfl | rfl | rfl | rfl | rfl | rfl <;> rfl) (by omega) hI (k_okl_l (Or.inr (Nat.le_refl _)) (k_okl_l (Or.inl (by show (0 : Nat) < _; omega)) k_okl_0)) (fun hI => ?_)
  have hl1 : (P ++ [.inr (9, [2, 2, 2, 2, 2, 0, 0, 0, 0, 0, 0, 0, 0, 2, 2, 0, 0, 2, 2, 0, 2, 2, 2, 2, 2, 2, 2, 2, 0, 0, 0])] : List k_Sh).length = 124 := by rw [List.length_append, hlen, List.length_singleton]
  refine k_dup (by decide +kernel : decode cL_law 11 = .ok (.dup, 1)) rfl ?_
  refine k_callI (r := P.length) (M1 := mX8_init) (k := 515) (n := 72848) (st := [.ref P.length]) (as := []) (by decide +kernel : decode cL_law 12 = .ok (.invokespecial 168, 3)) oX8_init rfl rfl w_1729 w_1730 rfl (by omega : 1 + 1 ≤ dp) rfl (Nat.le_of_ble_eq_true rfl) (by omega) (c8_init (by omega) hI) (fun X s1 s2 h => by cases h.1) (Or.inl (k_okl_l (Or.inr (Nat.le_refl _)) (k_okl_l (Or.inl (by show (0 : Nat) < _; omega)) (k_okl_s (Or.inl (by show P.length < _; omega)) k_okl_0)))) (fun v s1 s2 h => ?_)
  obtain ⟨g1, g2, g3, hI⟩ := h
  rw [hlen] at g2 g3
  subst g2 g3
  cases g1
  rw [hlen]
  have hl2 : (P ++ k_mdlS 123).length = 141 := by rw [List.length_append, hlen]; rfl
  generalize P ++ k_mdlS 123 = P2 at hI hl2 hz ⊢
  generalize u_mdl0 σ1 123 = σ2 at hI hz ⊢
  refine k_astore_n (ls' := [(0, .ref 1000000), (1, .ref 0), (2, .ref 123)]) (by decide +kernel : decode cL_law 15 = .ok (.astore_n 2, 1)) rfl (by decide) (by decide) rfl rfl ?_
  refine k_iconst (v := 1) (by decide +kernel : decode cL_law 16 = .ok (.iconst 1, 1)) rfl ?_
  refine k_newaK3 (w := 1) (k := 514) (n := 72847) (by decide +kernel : decode cL_law 17 = .ok (.newarray .long, 2)) rfl (by decide) (by omega) hI (k_okl_l (Or.inr (Nat.le_refl _)) (k_okl_l (Or.inl (by show (0 : Nat) < _; omega)) (k_okl_l (Or.inl (by show (123 : Nat) < _; omega)) k_okl_0))) (fun hI => ?_)
  rw [hl2]
  have hl3 : (P2 ++ [.inl (3, 1)] : List k_Sh).length = 142 := by rw [List.length_append, hl2, List.length_singleton]
  generalize (P2 ++ [.inl (3, 1)] : List k_Sh) = P3 at hI hl3 hz ⊢
  refine k_astore_n (ls' := [(0, .ref 1000000), (1, .ref 0), (2, .ref 123), (3, .ref 141)]) (by decide +kernel : decode cL_law 19 = .ok (.astore_n 3, 1)) rfl (by decide) (by decide) rfl rfl ?_
  refine k_iconst (v := 1) (by decide +kernel : decode cL_law 20 = .ok (.iconst 1, 1)) rfl ?_
  refine k_newaK4 (w := 1) (k := 513) (n := 72846) (by decide +kernel : decode cL_law 21 = .ok (.newarray .double, 2)) rfl (by decide) (by omega) hI (k_okl_l (Or.inr (Nat.le_refl _)) (k_okl_l (Or.inl (by show (0 : Nat) < _; omega)) (k_okl_l (Or.inl (by show (123 : Nat) < _; omega)) (k_okl_l (Or.inl (by show (141 : Nat) < _; omega)) k_okl_0)))) (fun hI => ?_)
  rw [hl3]
  refine k_astore (ls' := [(0, .ref 1000000), (1, .ref 0), (2, .ref 123), (3, .ref 141), (4, .ref 142)]) (by decide +kernel : decode cL_law 23 = .ok (.astore 4, 2)) (by decide) (by decide) rfl rfl ?_
  refine k_iconst (v := 0) (by decide +kernel : decode cL_law 25 = .ok (.iconst 0, 1)) rfl ?_
  refine k_istore (ls' := k_lsL 0) (by decide +kernel : decode cL_law 26 = .ok (.istore 5, 2)) (by decide) rfl rfl ?_
  exact c_lawL hL hdp 513 0 _ _ (by decide) (by decide) (by omega) hz
end K_LS
