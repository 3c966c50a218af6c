/-! ===== WHAT HOLDS at the start ===== -/
section K_N0
/-- the world as the law's start makes it -/
def u_z0 : Nat → Nat → Int := u_mdl0 (u_pln0 (fun _ _ => 0) 0) 123
theorem z0_0 : ∀ j, u_z0 0 j = if j = 13 then 0 else if j = 12 then -1 else if j = 11 then -1 else 0 := fun j => rfl
theorem z0_1 : ∀ j, u_z0 1 j = if j = 9 then -1 else if j = 1 then 3 else 0 := fun j => rfl
theorem z0_2 : ∀ j, u_z0 2 j = 0 := fun j => rfl
theorem z0_3 : ∀ j, u_z0 3 j = 0 := fun j => rfl
theorem z0_4 : ∀ j, u_z0 4 j = 0 := fun j => rfl
theorem z0_5 : ∀ j, u_z0 5 j = 0 := fun j => rfl
theorem z0_6 : ∀ j, u_z0 6 j = 0 := fun j => rfl
theorem z0_7 : ∀ j, u_z0 7 j = 0 := fun j => rfl
theorem z0_8 : ∀ j, u_z0 8 j = 0 := fun j => rfl
theorem z0_9 : ∀ j, u_z0 9 j = 0 := fun j => rfl
theorem z0_11 : ∀ j, u_z0 11 j = 0 := fun j => rfl
theorem z0_12 : ∀ j, u_z0 12 j = 0 := fun j => rfl
theorem z0_13 : ∀ j, u_z0 13 j = 0 := fun j => rfl
theorem z0_15 : ∀ j, u_z0 15 j = 0 := fun j => rfl
theorem z0_16 : ∀ j, u_z0 16 j = 0 := fun j => rfl
theorem z0_17 : ∀ j, u_z0 17 j = 0 := fun j => rfl
theorem z0_18 : ∀ j, u_z0 18 j = 0 := fun j => rfl
theorem z0_19 : ∀ j, u_z0 19 j = 0 := fun j => rfl
theorem z0_20 : ∀ j, u_z0 20 j = 0 := fun j => rfl
theorem z0_21 : ∀ j, u_z0 21 j = 0 := fun j => rfl
theorem z0_22 : ∀ j, u_z0 22 j = 0 := fun j => rfl
theorem z0_23 : ∀ j, u_z0 23 j = if j = 4 then 0 else 0 := fun j => rfl
theorem z0_24 : ∀ j, u_z0 24 j = 0 := fun j => rfl
theorem z0_25 : ∀ j, u_z0 25 j = if j = 7 then 90 else if j = 6 then 81 else if j = 5 then 72 else if j = 4 then 63 else if j = 3 then 54 else if j = 2 then 45 else if j = 1 then 36 else if j = 0 then 27 else 0 := fun j => rfl
theorem z0_117 : ∀ j, u_z0 117 j = if j = 1 then 0 else if j = 0 then 118 else 0 := fun j => rfl
theorem z0_118 : ∀ j, u_z0 118 j = 0 := fun j => rfl
theorem z0_119 : ∀ j, u_z0 119 j = 0 := fun j => rfl
theorem z0_120 : ∀ j, u_z0 120 j = 0 := fun j => rfl
theorem z0_121 : ∀ j, u_z0 121 j = if j = 1 then 0 else if j = 0 then 122 else 0 := fun j => rfl
theorem z0_122 : ∀ j, u_z0 122 j = 0 := fun j => rfl
theorem z0_123 : ∀ j, u_z0 123 j = if j = 11 then -1 else if j = 10 then -1 else 0 := fun j => rfl
theorem z0_124 : ∀ j, u_z0 124 j = if j = 3 then -1 else if j = 1 then 3 else 0 := fun j => rfl
theorem z0_126 : ∀ j, u_z0 126 j = 0 := fun j => rfl
theorem z0_129 : ∀ j, u_z0 129 j = 0 := fun j => rfl
theorem z0_130 : ∀ j, u_z0 130 j = 0 := fun j => rfl
theorem z0_131 : ∀ j, u_z0 131 j = 0 := fun j => rfl
theorem z0_132 : ∀ j, u_z0 132 j = 0 := fun j => rfl
theorem z0_133 : ∀ j, u_z0 133 j = 0 := fun j => rfl
theorem z0_134 : ∀ j, u_z0 134 j = 0 := fun j => rfl
theorem z0_135 : ∀ j, u_z0 135 j = 0 := fun j => rfl
theorem z0_136 : ∀ j, u_z0 136 j = 0 := fun j => rfl
theorem z0_137 : ∀ j, u_z0 137 j = if j = 11 then 1000034 else if j = 10 then 1000033 else if j = 9 then 1000032 else if j = 8 then 1000031 else if j = 7 then 1000030 else if j = 6 then 1000029 else if j = 5 then 1000028 else if j = 4 then 1000027 else if j = 3 then 1000026 else if j = 2 then 1000025 else if j = 1 then 1000024 else if j = 0 then 1000023 else 0 := fun j => rfl
theorem z0_138 : ∀ j, u_z0 138 j = 0 := fun j => rfl
theorem z0_139 : ∀ j, u_z0 139 j = 0 := fun j => rfl
theorem z0_140 : ∀ j, u_z0 140 j = 0 := fun j => rfl
theorem z0_rg {f : Nat → Int} {lo hi : Int} (h : ∀ j, f j = 0) (h1 : lo ≤ 0 ∧ 0 ≤ hi) : ∀ j, lo ≤ f j ∧ f j ≤ hi := fun j => by
  rw [h j]
  exact h1
theorem z0_lt {f : Nat → Int} {lo hi : Int} (h : ∀ j, f j = 0) (h1 : lo ≤ 0 ∧ 0 < hi) : ∀ j, lo ≤ f j ∧ f j < hi := fun j => by
  rw [h j]
  exact h1
theorem z0_ty : k_Ty u_z0 := ⟨by rw [z0_1]; decide, by rw [z0_1]; decide, by rw [z0_1]; decide, z0_rg z0_2 (by decide), z0_lt z0_3 (by decide), z0_lt z0_4 (by decide), z0_rg z0_5 (by decide), z0_lt z0_6 (by decide), z0_lt z0_7 (by decide), by rw [z0_1]; decide, z0_lt z0_8 (by decide), z0_lt z0_9 (by decide)⟩
theorem z0_ok : k_OK u_z0 := by
  refine ⟨z0_ty, ⟨z0_lt z0_11 (by decide), z0_lt z0_12 (by decide), z0_lt z0_13 (by decide)⟩, ⟨z0_lt z0_15 (by decide), z0_lt z0_16 (by decide), z0_rg z0_17 (by decide)⟩, ⟨z0_rg z0_19 (by decide), z0_lt z0_20 (by decide), z0_lt z0_21 (by decide), z0_rg z0_22 (by decide)⟩, fun j hj => ?_, by rw [z0_24]; decide, by rw [z0_24]; decide⟩
  rw [z0_25]
  rcases (show j = 0 ∨ j = 1 ∨ j = 2 ∨ j = 3 ∨ j = 4 ∨ j = 5 ∨ j = 6 ∨ j = 7 by omega) with rfl | rfl | rfl | rfl | rfl | rfl | rfl | rfl <;> decide
theorem z0_mo : k_Mo (u_z0 124) := by
  have h : ∀ j, 4 ≤ j → u_z0 124 j = 0 := fun j hj => by
    rw [z0_124, if_neg (by omega), if_neg (by omega)]
  refine ⟨by rw [z0_124]; decide, by rw [z0_124]; decide, by rw [z0_124]; decide, by rw [z0_124]; decide, fun j => ?_, fun j h1 _ => by rw [h j (by omega)]; decide, fun j h1 _ => by rw [h j (by omega)]; decide, fun j h1 _ => by rw [h j (by omega)]; decide, fun j h1 _ => by rw [h j (by omega)]; decide, fun j h1 => by rw [h j (by omega)]; decide⟩
  rw [z0_124]
  split
  · decide
  · split <;> decide
theorem z0_p1 : k_P1 (u_z0 124) u_z0 := by
  have f1 := z0_1
  have f124 := z0_124
  have f3 := z0_3
  have f4 := z0_4
  have f5 := z0_5
  have fm := z0_mo
  generalize u_z0 = σ at f1 f124 f3 f4 f5 fm ⊢
  have e0 : σ 1 0 = 0 := by rw [f1]; decide
  have e1 : σ 1 1 = 3 := by rw [f1]; decide
  have e2 : σ 1 2 = 0 := by rw [f1]; decide
  have e9 : σ 1 9 = -1 := by rw [f1]; decide
  refine ⟨fm, ⟨⟨by rw [e0, f124]; decide, by rw [e1, f124]; decide, by rw [e2, f124]; decide⟩, fun s h1 h2 => ?_, fun s b h1 h2 => ?_, fun s b h1 h2 => ?_, fun j _ => f3 j⟩, ⟨fun p h1 h2 => ?_, fun p k h1 h2 => ?_, fun p k l h1 h2 => ?_, fun j _ => f5 j⟩, ⟨fun p s b h1 h2 => ?_, fun p s b _ _ _ _ _ => ?_, fun p s b _ _ _ _ _ h => ?_, fun p b c h1 h2 => ?_⟩, by rw [e9, f124]; decide, fun k h1 h2 => ?_⟩
  · rw [e0] at h2; omega
  · rw [e0] at h2; omega
  · rw [e0] at h2; omega
  · rw [e2] at h2; omega
  · rw [e2] at h2; omega
  · rw [e2] at h2; omega
  · rw [e2] at h2; omega
  · rw [f4]
    exact z_bit_0 _
  · rw [f4, z_bit_0] at h
    cases h
  · rw [e2] at h2; omega
  · rw [e9] at h2; omega
theorem z0_F0 : k_F0 (u_z0 123) := by
  refine ⟨?_, ?_, ?_, ?_, ?_, ?_, ?_, ?_, ?_, ?_, ?_, ?_, ?_, ?_⟩ <;> (rw [z0_123]; decide)
theorem z0_MA : k_MA u_z0 := ⟨z0_F0, z0_mo, z0_rg z0_129 (by decide), z0_rg z0_130 (by decide), z0_rg z0_131 (by decide), z0_rg z0_132 (by decide), z0_rg z0_133 (by decide), z0_rg z0_134 (by decide), z0_rg z0_135 (by decide), z0_rg z0_136 (by decide), z0_rg z0_138 (by decide), z0_rg z0_139 (by decide), z0_rg z0_140 (by decide)⟩
theorem z0_Fo : k_Fo u_z0 ∧ ∀ j, 12 ≤ j → u_z0 137 j = 0 := by
  refine ⟨fun f hf => ?_, fun j hj => ?_⟩
  · rw [z0_137]
    rcases (show f = 0 ∨ f = 1 ∨ f = 2 ∨ f = 3 ∨ f = 4 ∨ f = 5 ∨ f = 6 ∨ f = 7 ∨ f = 8 ∨ f = 9 ∨ f = 10 ∨ f = 11 by omega) with rfl | rfl | rfl | rfl | rfl | rfl | rfl | rfl | rfl | rfl | rfl | rfl <;> decide
  · rw [z0_137, if_neg (by omega), if_neg (by omega), if_neg (by omega), if_neg (by omega), if_neg (by omega), if_neg (by omega), if_neg (by omega), if_neg (by omega), if_neg (by omega), if_neg (by omega), if_neg (by omega), if_neg (by omega)]
theorem z0_inv : k_Inv k_shape u_z0 := by
  have hm : k_Main k_shape := fun i x h => h
  have f0 := z0_0
  have f18 := z0_18
  have f24 := z0_24
  have f25 := z0_25
  have f117 := z0_117
  have f118 := z0_118
  have f119 := z0_119
  have f120 := z0_120
  have f121 := z0_121
  have f122 := z0_122
  have f123 := z0_123
  have f129 := z0_129
  have f130 := z0_130
  have f23 : u_z0 23 4 = 0 := by rw [z0_23]; decide
  have fok := z0_ok
  have fMA := z0_MA
  have fFo := z0_Fo
  have fp1 := z0_p1
  generalize u_z0 = σ at f0 f18 f24 f25 f117 f118 f119 f120 f121 f122 f123 f129 f130 f23 fok fMA fFo fp1 ⊢
  have b117 : k_SB k_shape σ 117 118 16 := ⟨s_117 hm, s_118 hm, ⟨by decide, by decide, by decide⟩, ⟨by rw [f117]; decide, by rw [f117]; decide, by rw [f117]; decide, by rw [f117]; decide⟩, z0_lt f118 (by decide)⟩
  have b121 : k_SB k_shape σ 121 122 16 := ⟨s_121 hm, s_122 hm, ⟨by decide, by decide, by decide⟩, ⟨by rw [f121]; decide, by rw [f121]; decide, by rw [f121]; decide, by rw [f121]; decide⟩, z0_lt f122 (by decide)⟩
  have e121 : σ 121 3 = 0 := by rw [f121]; decide
  have e117 : σ 117 3 = 0 := by rw [f117]; decide
  have e10 : σ 0 10 = 0 := by rw [f0]; decide
  have hc : k_Ic k_shape 118 16 σ := ⟨Or.inl ⟨rfl, rfl, rfl⟩, fok, ⟨by rw [f18]; decide, by rw [f18]; decide⟩, k_PJ_mk b117 (z0_rg f120 (by decide)) (z0_lt f119 (by decide)) ⟨by decide, by decide, by decide, by decide⟩, ⟨b121, by rw [e121]; decide⟩, fun j hj => by rw [f25, if_neg (by omega), if_neg (by omega), if_neg (by omega), if_neg (by omega), if_neg (by omega), if_neg (by omega), if_neg (by omega), if_neg (by omega)]⟩
  have hr : k_Rel σ σ := ⟨fp1, ⟨by rw [f123, f24]; decide, fun u hu => by rw [f24] at hu; omega⟩, ⟨by rw [f123, e10]; decide, fun h => absurd e10 h⟩, by rw [f123, f23]; decide⟩
  have hl : k_Lr σ σ := ⟨⟨by rw [f123, e121]; decide, by rw [e121]; decide⟩, fun j hj => by rw [f129, f122]⟩
  have hb : k_Bf 118 σ σ := ⟨⟨by rw [f123, e117]; decide, by rw [e117]; decide, by rw [e117]; decide⟩, fun j hj => by rw [f130, f118]⟩
  have hn : k_Nm σ σ := ⟨by rw [f123, f0]; decide, by rw [f123, f0]; decide, by rw [f0, f0]; decide, by rw [f123, f0]; decide⟩
  exact ⟨118, 16, hc, ⟨fMA, fFo.1, fFo.2⟩, hr, hl, hb, hn⟩
end K_N0
