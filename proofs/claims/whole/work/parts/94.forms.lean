/-! ===== THE FORMS of the commands: the class's and the model's ===== -/
section K_R38
theorem k_form_len : ∀ i : Fin 12, k_len (12 + i.val) = k_len i.val ∧ k_len i.val ≤ 20 := by decide +kernel
theorem k_form_ch : ∀ i : Fin 12, ∀ j : Fin 20, j.val < k_len i.val → k_ch (12 + i.val) j.val = if k_ch i.val j.val = 35 then 68 else if k_ch i.val j.val = 64 then 78 else k_ch i.val j.val := by decide +kernel
end K_R38
