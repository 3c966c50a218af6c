/-! ===== THE FACE: what throws ===== -/
section K_FA
variable {E : k_E} {M M1 : k_M} {dp d1 pc k n k1 n1 na : Nat} {ls : List (Nat × Value)} {st as : List Value} {sh : List k_Sh} {σ σ' : Nat → Nat → Int} {Q Q1 : k_Q} {o : Option Value}
theorem th_ia : k_thr RX7 275 279 "java/lang/IllegalArgumentException" ["java/lang/RuntimeException", "java/lang/Exception"] = true := by decide +kernel
theorem th_is : k_thr RX7 283 287 "java/lang/IllegalStateException" ["java/lang/RuntimeException", "java/lang/Exception"] = true := by decide +kernel
theorem th_io : k_thr RX7 330 334 "java/lang/IndexOutOfBoundsException" ["java/lang/RuntimeException", "java/lang/Exception"] = true := by decide +kernel
theorem th_ns : k_thrX RX7 335 339 "java/util/NoSuchElementException" "java/lang/RuntimeException" ["java/lang/Exception"] = true := by decide +kernel
theorem th_uo : k_thr RX7 344 348 "java/lang/UnsupportedOperationException" ["java/lang/RuntimeException", "java/lang/Exception"] = true := by decide +kernel
/-- the answer, or what is thrown; the cells behind it -/
def k_rx (o : Option Value ⊕ String) (sh : List k_Sh) (σ : Nat → Nat → Int) : k_Q := fun r sh' σ' => r = o ∧ sh' = sh ∧ σ' = σ
def x_io : String := "java/lang/IndexOutOfBoundsException"
def x_ia : String := "java/lang/IllegalArgumentException"
def x_is : String := "java/lang/IllegalStateException"
def x_uo : String := "java/lang/UnsupportedOperationException"
def x_ns : String := "java/util/NoSuchElementException"
def x_ar : String := "java/lang/ArithmeticException"
set_option maxHeartbeats 4000000 in
theorem c_needIndex {z : Int} (hz : -2147483648 ≤ z ∧ z < 2147483648) : k_C E mX7_needIndex 6 [.int (iI (z))] sh σ 1 6 (k_rx (if z = 0 then .inr x_io else .inl none) sh (σ)) := by
  refine k_C_of (ls0 := [(0, .int (iI (z)))]) rfl pnX7 (fun v hv => k_cat1 rfl hv) (Nat.le_of_ble_eq_true rfl) rfl ?_
  refine k_iload_n dX7_needIndex_0 0 rfl rfl ?_
  refine k_if_ne (tgt := 15) dX7_needIndex_1 rfl ⟨by omega, by omega⟩ (fun h_1 => ?_) (fun h_1 => ?_)
  · exact k_ret_v dX7_needIndex_15 rfl ⟨(by (repeat' split) <;> first | rfl | (exfalso; omega) | (exfalso; simp_all; done) | (simp_all; done) | (exfalso; simp_all; omega)), rfl, (rfl)⟩
  · exact k_throwW dX7_needIndex_4 dX7_needIndex_7 dX7_needIndex_8 dX7_needIndex_11 dX7_needIndex_14 rfl th_io w_756 (by decide) (Nat.le_of_ble_eq_true rfl) ⟨(by (repeat' split) <;> first | rfl | (exfalso; omega) | (exfalso; simp_all; done) | (simp_all; done) | (exfalso; simp_all; omega)), rfl, (rfl)⟩
set_option maxHeartbeats 4000000 in
theorem c_needElement {z : Int} (hz : -2147483648 ≤ z ∧ z < 2147483648) : k_C E mX7_needElement 6 [.int (iI (z))] sh σ 1 6 (k_rx (if z = 0 then .inr x_ns else .inl none) sh (σ)) := by
  refine k_C_of (ls0 := [(0, .int (iI (z)))]) rfl pnX7 (fun v hv => k_cat1 rfl hv) (Nat.le_of_ble_eq_true rfl) rfl ?_
  refine k_iload_n dX7_needElement_0 0 rfl rfl ?_
  refine k_if_ne (tgt := 15) dX7_needElement_1 rfl ⟨by omega, by omega⟩ (fun h_1 => ?_) (fun h_1 => ?_)
  · exact k_ret_v dX7_needElement_15 rfl ⟨(by (repeat' split) <;> first | rfl | (exfalso; omega) | (exfalso; simp_all; done) | (simp_all; done) | (exfalso; simp_all; omega)), rfl, (rfl)⟩
  · exact k_throwNS dX7_needElement_4 dX7_needElement_7 dX7_needElement_8 dX7_needElement_11 dX7_needElement_14 rfl th_ns w_1007 (by decide) (Nat.le_of_ble_eq_true rfl) ⟨(by (repeat' split) <;> first | rfl | (exfalso; omega) | (exfalso; simp_all; done) | (simp_all; done) | (exfalso; simp_all; omega)), rfl, (rfl)⟩
set_option maxHeartbeats 4000000 in
theorem c_needIndex1  : k_C E mX7_needIndex 6 [.int (iI (1))] sh σ 0 0 (k_ret none sh σ) := by
  refine k_C_of (ls0 := [(0, .int (iI (1)))]) rfl pnX7 (fun v hv => k_cat1 rfl hv) (Nat.le_of_ble_eq_true rfl) rfl ?_
  refine k_iload_n dX7_needIndex_0 0 rfl rfl ?_
  refine k_if_ne (tgt := 15) dX7_needIndex_1 rfl ⟨by decide, by decide⟩ (fun h_1 => ?_) (fun h_1 => absurd h_1 (by decide))
  exact k_retv dX7_needIndex_15 rfl rfl
set_option maxHeartbeats 4000000 in
theorem c_needElement1  : k_C E mX7_needElement 6 [.int (iI (1))] sh σ 0 0 (k_ret none sh σ) := by
  refine k_C_of (ls0 := [(0, .int (iI (1)))]) rfl pnX7 (fun v hv => k_cat1 rfl hv) (Nat.le_of_ble_eq_true rfl) rfl ?_
  refine k_iload_n dX7_needElement_0 0 rfl rfl ?_
  refine k_if_ne (tgt := 15) dX7_needElement_1 rfl ⟨by decide, by decide⟩ (fun h_1 => ?_) (fun h_1 => absurd h_1 (by decide))
  exact k_retv dX7_needElement_15 rfl rfl
/-- a static call that may throw, from a method without handlers -/
theorem k_callSx {idx : Nat} {o : Option Value ⊕ String} (hd : decode M.2.1 pc = .ok (.invokestatic idx, 3)) (hM : k_MOk M1 na) (hl : Cond.methodLink M.1.cls idx M1.1 ∈ k_TBL) (hs : Cond.static M1.1 ∈ k_TBL) (hh : M1.2.2.2.2 = []) (hhM : M.2.2.2.2 = []) (hdp : d1 + 1 ≤ dp) (hn : as.length = na) (hcat : (st.map fun v => v.category).sum ≤ 8)
    (hC : k_C E M1 d1 as sh σ k1 n1 (k_rx o sh σ')) (kk : ∀ v, o = .inl v → k_V E M dp (pc + 3) ls (v.toList ++ st) sh σ' k n Q) (kx : ∀ X, o = .inr X → Q (.inr X) sh σ') : k_V E M dp pc ls (as.reverse ++ st) sh σ (k1 + k) (n1 + n) Q :=
  k_callS hd hM hh hl hs hdp hn hcat hC (Or.inr fun r s2 σ2 h => by rw [h.2.1]) (fun Xn s2 σ2 h => by
    obtain ⟨h1, rfl, rfl⟩ := h
    exact k_out hhM (kx Xn h1.symm)) (fun v s2 σ2 h => by
    obtain ⟨h1, rfl, rfl⟩ := h
    exact kk v h1.symm)
/-- the same for a method of an object -/
theorem k_callVx {idx r ci N : Nat} {cs : List Nat} {T : u_T} {o : Option Value ⊕ String} (hd : decode M.2.1 pc = .ok (.invokevirtual idx, 3)) (hM : k_MOk M1 na) (hl : Cond.methodLink M.1.cls idx M1.1 ∈ k_TBL) (hi : Cond.instanceMethod M1.1 ∈ k_TBL) (hse : Cond.selects M1.1.cls M1.1 M1.1 ∈ k_TBL) (hh : M1.2.2.2.2 = []) (hhM : M.2.2.2.2 = []) (hdp : d1 + 1 ≤ dp) (hn : as.length = na) (hcat : (st.map fun v => v.category).sum ≤ 8)
    (hr1 : r ≠ 1000001) (hs : sh[r]? = some (.inr (ci, cs))) (hc : k_cls[ci]? = some (M1.1.cls, T, N))
    (hC : k_C E M1 d1 (.ref r :: as) sh σ k1 n1 (k_rx o sh σ')) (kk : ∀ v, o = .inl v → k_V E M dp (pc + 3) ls (v.toList ++ st) sh σ' k n Q) (kx : ∀ X, o = .inr X → Q (.inr X) sh σ') : k_V E M dp pc ls (as.reverse ++ .ref r :: st) sh σ (k1 + k) (n1 + n) Q :=
  k_callV hd hM hh hl hi hse hdp hn hcat hr1 hs hc hC (Or.inr fun r s2 σ2 h => by rw [h.2.1]) (fun Xn s2 σ2 h => by
    obtain ⟨h1, rfl, rfl⟩ := h
    exact k_out hhM (kx Xn h1.symm)) (fun v s2 σ2 h => by
    obtain ⟨h1, rfl, rfl⟩ := h
    exact kk v h1.symm)
theorem k_needIx {idx : Nat} {z : Int} (hd : decode M.2.1 pc = .ok (.invokestatic idx, 3)) (hl : Cond.methodLink M.1.cls idx yX7_needIndex ∈ k_TBL) (hs : Cond.static yX7_needIndex ∈ k_TBL) (hhM : M.2.2.2.2 = []) (hz : -2147483648 ≤ z ∧ z < 2147483648) (hdp : 7 ≤ dp) (hcat : (st.map fun v => v.category).sum ≤ 8) (kt : z ≠ 0 → k_V E M dp (pc + 3) ls st sh σ k n Q) (kf : z = 0 → Q (.inr x_io) sh σ) : k_V E M dp pc ls (.int (iI z) :: st) sh σ (1 + k) (6 + n) Q :=
  k_callSx (as := [.int (iI z)]) hd oX7_needIndex hl hs rfl hhM hdp rfl hcat (c_needIndex hz) (fun v h => by
    by_cases e : z = 0
    · rw [if_pos e] at h; cases h
    · rw [if_neg e] at h; cases h; exact kt e) (fun X h => by
    by_cases e : z = 0
    · rw [if_pos e] at h; cases h; exact kf e
    · rw [if_neg e] at h; cases h)
theorem k_needI1 {idx : Nat} (hd : decode M.2.1 pc = .ok (.invokestatic idx, 3)) (hl : Cond.methodLink M.1.cls idx yX7_needIndex ∈ k_TBL) (hs : Cond.static yX7_needIndex ∈ k_TBL) (hdp : 7 ≤ dp) (hcat : (st.map fun v => v.category).sum ≤ 8) (kt : k_V E M dp (pc + 3) ls st sh σ k n Q) : k_V E M dp pc ls (.int (iI 1) :: st) sh σ k n Q :=
  k_callSr (d1 := 6) (as := [.int (iI 1)]) (o := none) hd oX7_needIndex hl hs rfl hdp rfl hcat (c_needIndex1) kt
theorem k_needI0 {idx : Nat} (hd : decode M.2.1 pc = .ok (.invokestatic idx, 3)) (hl : Cond.methodLink M.1.cls idx yX7_needIndex ∈ k_TBL) (hs : Cond.static yX7_needIndex ∈ k_TBL) (hhM : M.2.2.2.2 = []) (hdp : 7 ≤ dp) (hcat : (st.map fun v => v.category).sum ≤ 8) (kf : Q (.inr x_io) sh σ) : k_V E M dp pc ls (.int (iI 0) :: st) sh σ (1 + k) (6 + n) Q :=
  k_needIx hd hl hs hhM (by decide) hdp hcat (fun h => absurd rfl h) (fun _ => kf)
theorem k_needIz {idx : Nat} {p : Prop} [Decidable p] (hd : decode M.2.1 pc = .ok (.invokestatic idx, 3)) (hl : Cond.methodLink M.1.cls idx yX7_needIndex ∈ k_TBL) (hs : Cond.static yX7_needIndex ∈ k_TBL) (hhM : M.2.2.2.2 = []) (hdp : 7 ≤ dp) (hcat : (st.map fun v => v.category).sum ≤ 8) (kt : p → k_V E M dp (pc + 3) ls st sh σ (1 + k) (6 + n) Q) (kf : ¬ p → Q (.inr x_io) sh σ) : k_V E M dp pc ls (.int (iI (zb p)) :: st) sh σ (1 + k) (6 + n) Q := by
  by_cases h : p
  · rw [zb_t h]
    exact k_needI1 hd hl hs hdp hcat (kt h)
  · rw [zb_f h]
    exact k_needI0 hd hl hs hhM hdp hcat (kf h)
theorem k_needEx {idx : Nat} {z : Int} (hd : decode M.2.1 pc = .ok (.invokestatic idx, 3)) (hl : Cond.methodLink M.1.cls idx yX7_needElement ∈ k_TBL) (hs : Cond.static yX7_needElement ∈ k_TBL) (hhM : M.2.2.2.2 = []) (hz : -2147483648 ≤ z ∧ z < 2147483648) (hdp : 7 ≤ dp) (hcat : (st.map fun v => v.category).sum ≤ 8) (kt : z ≠ 0 → k_V E M dp (pc + 3) ls st sh σ k n Q) (kf : z = 0 → Q (.inr x_ns) sh σ) : k_V E M dp pc ls (.int (iI z) :: st) sh σ (1 + k) (6 + n) Q :=
  k_callSx (as := [.int (iI z)]) hd oX7_needElement hl hs rfl hhM hdp rfl hcat (c_needElement hz) (fun v h => by
    by_cases e : z = 0
    · rw [if_pos e] at h; cases h
    · rw [if_neg e] at h; cases h; exact kt e) (fun X h => by
    by_cases e : z = 0
    · rw [if_pos e] at h; cases h; exact kf e
    · rw [if_neg e] at h; cases h)
theorem k_needE1 {idx : Nat} (hd : decode M.2.1 pc = .ok (.invokestatic idx, 3)) (hl : Cond.methodLink M.1.cls idx yX7_needElement ∈ k_TBL) (hs : Cond.static yX7_needElement ∈ k_TBL) (hdp : 7 ≤ dp) (hcat : (st.map fun v => v.category).sum ≤ 8) (kt : k_V E M dp (pc + 3) ls st sh σ k n Q) : k_V E M dp pc ls (.int (iI 1) :: st) sh σ k n Q :=
  k_callSr (d1 := 6) (as := [.int (iI 1)]) (o := none) hd oX7_needElement hl hs rfl hdp rfl hcat (c_needElement1) kt
theorem k_needE0 {idx : Nat} (hd : decode M.2.1 pc = .ok (.invokestatic idx, 3)) (hl : Cond.methodLink M.1.cls idx yX7_needElement ∈ k_TBL) (hs : Cond.static yX7_needElement ∈ k_TBL) (hhM : M.2.2.2.2 = []) (hdp : 7 ≤ dp) (hcat : (st.map fun v => v.category).sum ≤ 8) (kf : Q (.inr x_ns) sh σ) : k_V E M dp pc ls (.int (iI 0) :: st) sh σ (1 + k) (6 + n) Q :=
  k_needEx hd hl hs hhM (by decide) hdp hcat (fun h => absurd rfl h) (fun _ => kf)
theorem k_needEz {idx : Nat} {p : Prop} [Decidable p] (hd : decode M.2.1 pc = .ok (.invokestatic idx, 3)) (hl : Cond.methodLink M.1.cls idx yX7_needElement ∈ k_TBL) (hs : Cond.static yX7_needElement ∈ k_TBL) (hhM : M.2.2.2.2 = []) (hdp : 7 ≤ dp) (hcat : (st.map fun v => v.category).sum ≤ 8) (kt : p → k_V E M dp (pc + 3) ls st sh σ (1 + k) (6 + n) Q) (kf : ¬ p → Q (.inr x_ns) sh σ) : k_V E M dp pc ls (.int (iI (zb p)) :: st) sh σ (1 + k) (6 + n) Q := by
  by_cases h : p
  · rw [zb_t h]
    exact k_needE1 hd hl hs hdp hcat (kt h)
  · rw [zb_f h]
    exact k_needE0 hd hl hs hhM hdp hcat (kf h)
end K_FA
