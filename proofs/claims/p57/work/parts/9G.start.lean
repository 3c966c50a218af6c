/-! ===== THE START: the world as made, the law from pc 0 ===== -/
section P_O
variable {E : k_E} {M : k_M} {dp pc k n : Nat} {ls : List (Nat × Value)} {st : List Value} {sh : List k_Sh} {σ : Nat → Nat → Int} {Q : k_Q}
/-- the world as the law's start makes it -/
def u_z0 : Nat → Nat → Int := u_pln0 (fun _ _ => 0) 0
theorem z0_0 : ∀ j, u_z0 0 j = if j = 13 then 0 else if j = 12 then -1 else if j = 11 then -1 else 0 := fun j => rfl
theorem z0_1 : ∀ j, u_z0 1 j = if j = 9 then -1 else if j = 1 then 3 else 0 := fun j => rfl
theorem z0_2 : ∀ j, u_z0 2 j = 0 := fun j => rfl
theorem z0_3 : ∀ j, u_z0 3 j = 0 := fun j => rfl
theorem z0_4 : ∀ j, u_z0 4 j = 0 := fun j => rfl
theorem z0_5 : ∀ j, u_z0 5 j = 0 := fun j => rfl
theorem z0_6 : ∀ j, u_z0 6 j = 0 := fun j => rfl
theorem z0_7 : ∀ j, u_z0 7 j = 0 := fun j => rfl
theorem z0_8 : ∀ j, u_z0 8 j = 0 := fun j => rfl
theorem z0_9 : ∀ j, u_z0 9 j = 0 := fun j => rfl
theorem z0_11 : ∀ j, u_z0 11 j = 0 := fun j => rfl
theorem z0_12 : ∀ j, u_z0 12 j = 0 := fun j => rfl
theorem z0_13 : ∀ j, u_z0 13 j = 0 := fun j => rfl
theorem z0_15 : ∀ j, u_z0 15 j = 0 := fun j => rfl
theorem z0_16 : ∀ j, u_z0 16 j = 0 := fun j => rfl
theorem z0_17 : ∀ j, u_z0 17 j = 0 := fun j => rfl
theorem z0_18 : ∀ j, u_z0 18 j = 0 := fun j => rfl
theorem z0_19 : ∀ j, u_z0 19 j = 0 := fun j => rfl
theorem z0_20 : ∀ j, u_z0 20 j = 0 := fun j => rfl
theorem z0_21 : ∀ j, u_z0 21 j = 0 := fun j => rfl
theorem z0_22 : ∀ j, u_z0 22 j = 0 := fun j => rfl
theorem z0_23 : ∀ j, u_z0 23 j = if j = 4 then 0 else 0 := fun j => rfl
theorem z0_24 : ∀ j, u_z0 24 j = 0 := fun j => rfl
theorem z0_25 : ∀ j, u_z0 25 j = if j = 7 then 90 else if j = 6 then 81 else if j = 5 then 72 else if j = 4 then 63 else if j = 3 then 54 else if j = 2 then 45 else if j = 1 then 36 else if j = 0 then 27 else 0 := fun j => rfl
theorem z0_117 : ∀ j, u_z0 117 j = if j = 1 then 0 else if j = 0 then 118 else 0 := fun j => rfl
theorem z0_121 : ∀ j, u_z0 121 j = if j = 1 then 0 else if j = 0 then 122 else 0 := fun j => rfl
theorem z0_rg {f : Nat → Int} {lo hi : Int} (h : ∀ j, f j = 0) (h1 : lo ≤ 0 ∧ 0 ≤ hi) : ∀ j, lo ≤ f j ∧ f j ≤ hi := fun j => by
  rw [h j]
  exact h1
theorem z0_lt {f : Nat → Int} {lo hi : Int} (h : ∀ j, f j = 0) (h1 : lo ≤ 0 ∧ 0 < hi) : ∀ j, lo ≤ f j ∧ f j < hi := fun j => by
  rw [h j]
  exact h1
theorem z0_ty : k_Ty u_z0 := ⟨by rw [z0_1]; decide, by rw [z0_1]; decide, by rw [z0_1]; decide, z0_rg z0_2 (by decide), z0_lt z0_3 (by decide), z0_lt z0_4 (by decide), z0_rg z0_5 (by decide), z0_lt z0_6 (by decide), z0_lt z0_7 (by decide), by rw [z0_1]; decide, z0_lt z0_8 (by decide), z0_lt z0_9 (by decide)⟩
theorem z0_ok : k_OK u_z0 := by
  refine ⟨z0_ty, ⟨z0_lt z0_11 (by decide), z0_lt z0_12 (by decide), z0_lt z0_13 (by decide)⟩, ⟨z0_lt z0_15 (by decide), z0_lt z0_16 (by decide), z0_rg z0_17 (by decide)⟩, ⟨z0_rg z0_19 (by decide), z0_lt z0_20 (by decide), z0_lt z0_21 (by decide), z0_rg z0_22 (by decide)⟩, fun j hj => ?_, by rw [z0_24]; decide, by rw [z0_24]; decide⟩
  rw [z0_25]
  rcases (show j = 0 ∨ j = 1 ∨ j = 2 ∨ j = 3 ∨ j = 4 ∨ j = 5 ∨ j = 6 ∨ j = 7 by omega) with rfl | rfl | rfl | rfl | rfl | rfl | rfl | rfl <;> decide
def z0_r : Nat → Int := fun j => if j = 3 then -1 else if j = 1 then 3 else 0
theorem z0_mo : k_Mo z0_r := by
  have h : ∀ j, 4 ≤ j → z0_r j = 0 := fun j hj => by
    unfold z0_r
    rw [if_neg (by omega), if_neg (by omega)]
  refine ⟨by decide, by decide, by decide, by decide, fun j => ?_, fun j h1 _ => by rw [h j (by omega)]; decide, fun j h1 _ => by rw [h j (by omega)]; decide, fun j h1 _ => by rw [h j (by omega)]; decide, fun j h1 _ => by rw [h j (by omega)]; decide, fun j h1 => by rw [h j (by omega)]; decide⟩
  unfold z0_r
  split
  · decide
  · split <;> decide
theorem z0_p1 : k_P1 z0_r u_z0 := by
  have f1 := z0_1
  have f3 := z0_3
  have f4 := z0_4
  have f5 := z0_5
  have fm := z0_mo
  generalize u_z0 = σ at f1 f3 f4 f5 ⊢
  have e0 : σ 1 0 = 0 := by rw [f1]; decide
  have e1 : σ 1 1 = 3 := by rw [f1]; decide
  have e2 : σ 1 2 = 0 := by rw [f1]; decide
  have e9 : σ 1 9 = -1 := by rw [f1]; decide
  refine ⟨fm, ⟨⟨by rw [e0]; decide, by rw [e1]; decide, by rw [e2]; decide⟩, fun s h1 h2 => ?_, fun s b h1 h2 => ?_, fun s b h1 h2 => ?_, fun j _ => f3 j⟩, ⟨fun p h1 h2 => ?_, fun p k h1 h2 => ?_, fun p k l h1 h2 => ?_, fun j _ => f5 j⟩, ⟨fun p s b h1 h2 => ?_, fun p s b _ _ _ _ _ => ?_, fun p s b _ _ _ _ _ h => ?_, fun p b c h1 h2 => ?_⟩, by rw [e9]; decide, fun k h1 h2 => ?_⟩
  · rw [e0] at h2; omega
  · rw [e0] at h2; omega
  · rw [e0] at h2; omega
  · rw [e2] at h2; omega
  · rw [e2] at h2; omega
  · rw [e2] at h2; omega
  · rw [e2] at h2; omega
  · rw [f4]
    exact z_bit_0 _
  · rw [f4, z_bit_0] at h
    cases h
  · rw [e2] at h2; omega
  · rw [e9] at h2; omega
theorem z0_J : p_J u_z0 := by
  have f0 := z0_0
  have f1 := z0_1
  have f18 := z0_18
  have f23 : u_z0 23 4 = 0 := by rw [z0_23]; decide
  have f25 := z0_25
  have f117 : u_z0 117 0 = 118 := by rw [z0_117]; decide
  have f121 : u_z0 121 0 = 122 := by rw [z0_121]; decide
  have fok := z0_ok
  have fp := z0_p1
  generalize u_z0 = σ at f0 f1 f18 f23 f25 f117 f121 fok fp ⊢
  refine ⟨⟨fok, ⟨by rw [f0]; decide, by rw [f0]; decide, by rw [f0]; decide, by rw [f23]; decide, by rw [f0]; decide⟩, ⟨by rw [f18]; decide, by rw [f18]; decide⟩, f117, f121, fun j hj => ?_⟩, ⟨_, fp⟩, fun s b h0 h1 => ?_⟩
  · rw [f25, if_neg (by omega), if_neg (by omega), if_neg (by omega), if_neg (by omega), if_neg (by omega), if_neg (by omega), if_neg (by omega), if_neg (by omega)]
  · rw [f1] at h1
    have h1 : s < 0 := h1
    omega
theorem k_I_nil : k_I [] (fun _ _ => 0) := ⟨fun i x hx => by simp at hx, fun i _ => rfl⟩
theorem k_newK {idx ci N : Nat} {C : String} {T : u_T} {ty : Nat → FieldType} {cs : List Nat} (hd : decode M.2.1 pc = .ok (.new idx, 3)) (hT : k_Cls ci C T N ty) (hw : Cond.classLink M.1.cls idx C ∈ k_TBL) (hi : Cond.instantiable C N ∈ k_TBL) (hini : Cond.initialized C ∈ k_TBL) (hcs : cs.length = N) (hc2 : ∀ c ∈ cs, c = 0 ∨ c = 2) (hfs : ∀ j, j < N → defaultValue (ty j) = k_fv (cs.getD j 0) 0) (hN : sh.length < 1000000) (hI : k_I sh σ) (hl : k_okl sh.length ls st) (kk : k_I (sh ++ [.inr (ci, cs)]) σ → k_V E M dp (pc + 3) ls (.ref sh.length :: st) (sh ++ [.inr (ci, cs)]) σ k n Q) : k_V E M dp pc ls st sh σ (k + 1) (n + N) Q := by
  have hp := k_I_push hI (x := .inr (ci, cs)) (fun ci2 cs2 h => by cases h; exact hc2)
  refine k_new hd hT hw hi hini hcs hc2 hfs hN hI.1 hl.1 hl.2 ?_
  rw [hp.2]
  exact kk hp.1
theorem z0_shape : k_plnS 0 = k_shape := by decide +kernel
theorem c_law0 (hL : k_L E ≤ 2048) : k_V E mL_law 25 0 [(0, .ref 1000000)] [] [] (fun _ _ => 0) 48292 290610 k_QL := by
  have hI := k_I_nil
  refine k_newK (ci := 8) (N := 14) (k := 48291) (n := 290596) (cs := [2, 2, 2, 2, 2, 2, 2, 2, 2, 2, 0, 0, 0, 0]) dL_law_0 kcX7 w_p49 w_118 w_85 rfl (by decide) (by intro j hj; have hj2 : j = 0 ∨ j = 1 ∨ j = 2 ∨ j = 3 ∨ j = 4 ∨ j = 5 ∨ j = 6 ∨ j = 7 ∨ j = 8 ∨ j = 9 ∨ j = 10 ∨ j = 11 ∨ j = 12 ∨ j = 13 := (by omega); rcases hj2 with rfl | rfl | rfl | rfl | rfl | rfl | rfl | rfl | rfl | rfl | rfl | rfl | rfl | rfl <;> rfl) (by decide) hI (k_okl_l (Or.inr (Nat.le_refl _)) k_okl_0) (fun hI => ?_)
  refine k_dup dL_law_3 rfl ?_
  refine k_callI (r := 0) (M1 := mX7_init) (k := 48169) (n := 289014) (st := [.ref 0]) (as := []) dL_law_4 oX7_init rfl rfl w_p51 w_120 rfl (by decide) rfl (Nat.le_of_ble_eq_true rfl) (by decide) (c_plnInit (L := []) (by decide) hI) (fun X s1 s2 h => by cases h.1) (Or.inl (k_okl_l (Or.inr (Nat.le_refl _)) (k_okl_s (Or.inl (by decide)) k_okl_0))) (fun v s1 s2 h => ?_)
  obtain ⟨g1, g2, g3, -⟩ := h
  have g2 : s1 = k_plnS 0 := g2
  have g3 : s2 = u_z0 := g3
  have hS : p_Sh s1 0 := ⟨[], by rw [g2, z0_shape, List.append_nil], Nat.le_refl 0, fun x hx => by cases hx⟩
  have hJ : p_J s2 := by rw [g3]; exact z0_J
  have e0 : s2 1 0 = 0 := by rw [g3, z0_1]; decide
  have e1 : s2 1 1 = 3 := by rw [g3, z0_1]; decide
  have e2 : s2 1 2 = 0 := by rw [g3, z0_1]; decide
  have e4 : ∀ j, s2 4 j = 0 := fun j => by rw [g3, z0_4]
  clear g2 g3
  cases g1
  refine k_astore_n (ls' := [(0, .ref 1000000), (1, .ref 0)]) dL_law_7 rfl (by decide) (by decide) rfl rfl ?_
  exact l_start hL hS hJ e0 e1 e2 e4
end P_O
