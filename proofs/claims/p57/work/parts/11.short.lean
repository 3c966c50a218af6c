/-! ===== shorter forms: contracts that answer one value, make nothing, and leave the shapes ===== -/
section K_I
variable {E : k_E} {M M1 : k_M} {dp d1 pc k n na : Nat} {ls : List (Nat × Value)} {st as : List Value} {sh : List k_Sh} {σ σ' : Nat → Nat → Int} {Q : k_Q} {o : Option Value}
def k_ret (o : Option Value) (sh : List k_Sh) (σ : Nat → Nat → Int) : k_Q := fun r sh' σ' => r = .inl o ∧ sh' = sh ∧ σ' = σ
theorem k_reti {e e' : Int} (hd : decode M.2.1 pc = .ok (.ireturn, 1)) (hr : M.2.2.2.1 = some .int) (hσ : σ' = σ) (he : e = e') : k_V E M dp pc ls [.int (iI e)] sh σ' k n (k_ret (some (.int (iI e'))) sh σ) := k_ret_i hd hr ⟨by rw [he], rfl, hσ⟩
theorem k_nar_z {e : Int} (h : e = 0 ∨ e = 1) : narrow .boolean (.int (iI e)) = .int (iI e) := by rcases h with rfl | rfl <;> decide
theorem k_retz {e e' : Int} (hd : decode M.2.1 pc = .ok (.ireturn, 1)) (hr : M.2.2.2.1 = some .boolean) (hz : e = 0 ∨ e = 1) (hσ : σ' = σ) (he : e = e') : k_V E M dp pc ls [.int (iI e)] sh σ' k n (k_ret (some (.int (iI e'))) sh σ) := k_ret_z hd hr (k_nar_z hz) ⟨by rw [he], rfl, hσ⟩
theorem k_retv (hd : decode M.2.1 pc = .ok (.return_, 1)) (hr : M.2.2.2.1 = none) (hσ : σ' = σ) : k_V E M dp pc ls [] sh σ' k n (k_ret none sh σ) := k_ret_v hd hr ⟨rfl, rfl, hσ⟩
theorem k_noX : ∀ X sh' σ', ¬ k_ret o sh σ (.inr X) sh' σ' := fun _ _ _ h => by cases h.1
theorem k_callSr {idx : Nat} (hd : decode M.2.1 pc = .ok (.invokestatic idx, 3)) (hM : k_MOk M1 na) (hl : Cond.methodLink M.1.cls idx M1.1 ∈ k_TBL) (hs : Cond.static M1.1 ∈ k_TBL) (hh : M1.2.2.2.2 = []) (hdp : d1 + 1 ≤ dp) (hn : as.length = na) (hcat : (st.map fun v => v.category).sum ≤ 8)
    (hC : k_C E M1 d1 as sh σ 0 0 (k_ret o sh σ')) (kk : k_V E M dp (pc + 3) ls (o.toList ++ st) sh σ' k n Q) : k_V E M dp pc ls (as.reverse ++ st) sh σ k n Q := by
  have h := k_callS (k := k) (n := n) (ls := ls) (Q := Q) hd hM hh hl hs hdp hn hcat hC (Or.inr fun r s2 σ2 h => by rw [h.2.1]) (fun Xn s2 σ2 h => by cases h.1) (fun v s2 σ2 h => by
    obtain ⟨h1, rfl, rfl⟩ := h
    cases h1
    exact kk)
  rw [Nat.zero_add, Nat.zero_add] at h
  exact h
theorem k_callSNr {idx : Nat} {host : String} (hd : decode M.2.1 pc = .ok (.invokestatic idx, 3)) (hM : k_MOk M1 na) (hl : Cond.methodLinkNest M.1.cls idx M1.1 host ∈ k_NW) (hs : Cond.static M1.1 ∈ k_TBL) (hh : M1.2.2.2.2 = []) (hdp : d1 + 1 ≤ dp) (hn : as.length = na) (hcat : (st.map fun v => v.category).sum ≤ 8)
    (hC : k_C E M1 d1 as sh σ 0 0 (k_ret o sh σ')) (kk : k_V E M dp (pc + 3) ls (o.toList ++ st) sh σ' k n Q) : k_V E M dp pc ls (as.reverse ++ st) sh σ k n Q := by
  have h := k_callSN (k := k) (n := n) (ls := ls) (Q := Q) hd hM hh hl hs hdp hn hcat hC k_noX (Or.inr fun r s2 σ2 h => by rw [h.2.1]) (fun v s2 σ2 h => by
    obtain ⟨h1, rfl, rfl⟩ := h
    cases h1
    exact kk)
  rw [Nat.zero_add, Nat.zero_add] at h
  exact h
theorem k_callVr {idx r ci N : Nat} {cs : List Nat} {T : u_T} (hd : decode M.2.1 pc = .ok (.invokevirtual idx, 3)) (hM : k_MOk M1 na) (hl : Cond.methodLink M.1.cls idx M1.1 ∈ k_TBL) (hi : Cond.instanceMethod M1.1 ∈ k_TBL) (hse : Cond.selects M1.1.cls M1.1 M1.1 ∈ k_TBL) (hh : M1.2.2.2.2 = []) (hdp : d1 + 1 ≤ dp) (hn : as.length = na) (hcat : (st.map fun v => v.category).sum ≤ 8)
    (hr1 : r ≠ 1000001) (hs : sh[r]? = some (.inr (ci, cs))) (hc : k_cls[ci]? = some (M1.1.cls, T, N))
    (hC : k_C E M1 d1 (.ref r :: as) sh σ 0 0 (k_ret o sh σ')) (kk : k_V E M dp (pc + 3) ls (o.toList ++ st) sh σ' k n Q) : k_V E M dp pc ls (as.reverse ++ .ref r :: st) sh σ k n Q := by
  have h := k_callV (k := k) (n := n) (ls := ls) (Q := Q) hd hM hh hl hi hse hdp hn hcat hr1 hs hc hC (Or.inr fun r s2 σ2 h => by rw [h.2.1]) (fun Xn s2 σ2 h => by cases h.1) (fun v s2 σ2 h => by
    obtain ⟨h1, rfl, rfl⟩ := h
    cases h1
    exact kk)
  rw [Nat.zero_add, Nat.zero_add] at h
  exact h
/-- what holds at the end of a loop holds at its start -/
theorem k_down {P : Nat → Prop} (N : Nat) (hN : P N) (hs : ∀ i, i < N → P (i + 1) → P i) : P 0 := by
  have h : ∀ j i, i + j = N → P i := by
    intro j
    induction j with
    | zero => intro i hi; have : i = N := by omega
              exact this ▸ hN
    | succ j ih => intro i hi; exact hs i (by omega) (ih (i + 1) (by omega))
  exact h N 0 (by omega)
/-- as k_down, with a fact about the places before -/
theorem k_downI {P : Nat → Prop} {J : Nat → Prop} (N : Nat) (h0 : J 0) (hN : J N → P N) (hs : ∀ i, i < N → J i → (J (i + 1) → P (i + 1)) → P i) : P 0 := by
  have h : ∀ j i, i + j = N → J i → P i := by
    intro j
    induction j with
    | zero => intro i hi hj; have : i = N := by omega
              exact this ▸ hN (this ▸ hj)
    | succ j ih => intro i hi hj; exact hs i (by omega) hj (ih (i + 1) (by omega))
  exact h N 0 (by omega) h0
/-- folds over the first n numbers -/
def k_fold {α : Type} (n : Nat) (f : Nat → α → α) (a : α) : α := match n with
  | 0 => a
  | m + 1 => f m (k_fold m f a)
end K_I
