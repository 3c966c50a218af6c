/-! ===== TEXTS: String and StringBuilder ===== -/
section K_AA
variable {E : k_E} {M M1 : k_M} {dp d1 pc k n k1 n1 na : Nat} {ls : List (Nat × Value)} {st as : List Value} {sh : List k_Sh} {σ σ' : Nat → Nat → Int} {Q Q1 : k_Q} {o : Option Value}
theorem pnJ4 : plainName RJ4 = true := by decide +kernel
theorem pnJ5 : plainName RJ5 = true := by decide +kernel
end K_AA
