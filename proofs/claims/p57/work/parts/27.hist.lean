/-! ===== THE PLAN COPIED; THE HISTORY ===== -/
section K_W
variable {E : k_E} {sh : List k_Sh} {σ : Nat → Nat → Int}
variable {M : k_M} {dp pc k n : Nat} {ls : List (Nat × Value)} {σ' : Nat → Nat → Int}
/-- a plan's cells stand from A on -/
def k_PlAt (sh : List k_Sh) (A : Nat) : Prop := sh[A]? = some (.inr (6, [0, 0, 0, A + 4, A + 5, A + 6, A + 7, A + 8, A + 9, 0, A + 10, A + 11])) ∧ sh[A + 1]? = some (.inl (0, 7)) ∧ sh[A + 2]? = some (.inl (0, 7)) ∧ sh[A + 3]? = some (.inl (0, 28)) ∧ sh[A + 4]? = some (.inl (0, 12)) ∧ sh[A + 5]? = some (.inl (0, 36)) ∧ sh[A + 6]? = some (.inl (0, 12)) ∧ sh[A + 7]? = some (.inl (0, 4)) ∧ sh[A + 8]? = some (.inl (0, 4))
/-- the plan at A is a copy of that at B -/
def u_copy (σ : Nat → Nat → Int) (A B : Nat) : Nat → Nat → Int := fun i => if i = A then (fun j => if j = 0 ∨ j = 1 ∨ j = 2 ∨ j = 9 then σ B j else σ A j) else if A < i ∧ i < A + 9 then σ (i - A + B) else σ i
theorem u_copy_ne {A B i : Nat} (h : i < A ∨ A + 9 ≤ i) : u_copy σ A B i = σ i := by
  unfold u_copy
  rw [if_neg (by omega), if_neg (by omega)]
theorem u_copy_eq {A B : Nat} {τ : Nat → Nat → Int} (h : τ = (k_up (k_up (k_up (k_up (k_up (k_up (k_up (k_up (k_up (k_up (k_up (k_up σ A (k_u1 (σ A) 0 (σ B 0))) A (k_u1 ((k_up σ A (k_u1 (σ A) 0 (σ B 0))) A) 1 (σ B 1))) A (k_u1 ((k_up (k_up σ A (k_u1 (σ A) 0 (σ B 0))) A (k_u1 ((k_up σ A (k_u1 (σ A) 0 (σ B 0))) A) 1 (σ B 1))) A) 2 (σ B 2))) (A + 1) (σ (B + 1))) (A + 2) (σ (B + 2))) (A + 3) (σ (B + 3))) (A + 4) (σ (B + 4))) (A + 5) (σ (B + 5))) (A + 6) (σ (B + 6))) A (k_u1 ((k_up (k_up (k_up (k_up (k_up (k_up (k_up (k_up (k_up σ A (k_u1 (σ A) 0 (σ B 0))) A (k_u1 ((k_up σ A (k_u1 (σ A) 0 (σ B 0))) A) 1 (σ B 1))) A (k_u1 ((k_up (k_up σ A (k_u1 (σ A) 0 (σ B 0))) A (k_u1 ((k_up σ A (k_u1 (σ A) 0 (σ B 0))) A) 1 (σ B 1))) A) 2 (σ B 2))) (A + 1) (σ (B + 1))) (A + 2) (σ (B + 2))) (A + 3) (σ (B + 3))) (A + 4) (σ (B + 4))) (A + 5) (σ (B + 5))) (A + 6) (σ (B + 6))) A) 9 (σ B 9))) (A + 7) (σ (B + 7))) (A + 8) (σ (B + 8)))) : τ = u_copy σ A B := by
  subst h
  funext i
  unfold u_copy
  by_cases e0 : i = A
  · subst e0
    rw [if_pos rfl]
    funext j
    simp [k_up, k_u1]
    by_cases j9 : j = 9
    · simp [j9]
    · by_cases j2 : j = 2
      · simp [j2]
      · by_cases j1 : j = 1
        · simp [j1]
        · by_cases j0 : j = 0
          · simp [j0]
          · simp [j9, j2, j1, j0]
  · rw [if_neg e0]
    by_cases h : A < i ∧ i < A + 9
    · rw [if_pos h]
      have h2 : i = A + 1 ∨ i = A + 2 ∨ i = A + 3 ∨ i = A + 4 ∨ i = A + 5 ∨ i = A + 6 ∨ i = A + 7 ∨ i = A + 8 := by omega
      rcases h2 with rfl | rfl | rfl | rfl | rfl | rfl | rfl | rfl <;> simp [k_up] <;> congr 1 <;> omega
    · rw [if_neg h]
      have h1 : ¬ i = A + 1 ∧ ¬ i = A + 2 ∧ ¬ i = A + 3 ∧ ¬ i = A + 4 ∧ ¬ i = A + 5 ∧ ¬ i = A + 6 ∧ ¬ i = A + 7 ∧ ¬ i = A + 8 := by omega
      simp [k_up, e0, h1]
set_option maxHeartbeats 4000000 in
theorem c_copyFrom {A B : Nat} (hA : k_PlAt sh A) (hB : k_PlAt sh B) (hlt : A < 1000 ∧ B < 1000) (hd : A + 9 ≤ B ∨ B + 9 ≤ A) : k_C E mX5_copyFrom 3 [.ref A, .ref B] sh σ 0 0 (k_ret none sh (u_copy σ A B)) := by
  refine k_C_of (ls0 := [(0, .ref A), (1, .ref B)]) rfl pnX5 (fun v hv => k_cat1 rfl hv) (Nat.le_of_ble_eq_true rfl) rfl ?_
  have hne : ¬ B = A := by omega
  have hne0 : ∀ k : Nat, k < 9 → ¬ B = A + k := fun k hk => by omega
  have hq0 : ∀ k : Nat, k < 9 → ¬ B + k = A := fun k hk => by omega
  have hq : ∀ k m : Nat, k < 9 → m < 9 → ¬ B + k = A + m := fun k m hk hm => by omega
  refine k_aload_n dX5_copyFrom_0 0 rfl rfl (by omega) ?_
  refine k_aload_n dX5_copyFrom_1 1 rfl rfl (by omega) ?_
  refine k_get (kf := 0) (v := .int (iI (σ B 0))) dX5_copyFrom_2 kcX5 w_131 (by decide) (by omega) hB.1 rfl rfl ?_
  refine k_putf (kf := 0) dX5_copyFrom_5 kcX5 w_131 (by decide) (by omega) hA.1 rfl rfl rfl rfl ?_
  refine k_aload_n dX5_copyFrom_8 0 rfl rfl (by omega) ?_
  refine k_aload_n dX5_copyFrom_9 1 rfl rfl (by omega) ?_
  refine k_get (kf := 1) (v := .int (iI ((k_up σ A (k_u1 (σ A) 0 (σ B 0))) B 1))) dX5_copyFrom_10 kcX5 w_135 (by decide) (by omega) hB.1 rfl rfl ?_
  refine k_eqst (congrArg (fun z : Int => Value.int (iI z) :: [.ref A]) (show σ B 1 = (k_up σ A (k_u1 (σ A) 0 (σ B 0))) B 1 from by simp [k_up, hne, hne0])) ?_
  refine k_putf (kf := 1) dX5_copyFrom_13 kcX5 w_135 (by decide) (by omega) hA.1 rfl rfl rfl rfl ?_
  refine k_aload_n dX5_copyFrom_16 0 rfl rfl (by omega) ?_
  refine k_aload_n dX5_copyFrom_17 1 rfl rfl (by omega) ?_
  refine k_get (kf := 2) (v := .int (iI ((k_up (k_up σ A (k_u1 (σ A) 0 (σ B 0))) A (k_u1 ((k_up σ A (k_u1 (σ A) 0 (σ B 0))) A) 1 (σ B 1))) B 2))) dX5_copyFrom_18 kcX5 w_138 (by decide) (by omega) hB.1 rfl rfl ?_
  refine k_eqst (congrArg (fun z : Int => Value.int (iI z) :: [.ref A]) (show σ B 2 = (k_up (k_up σ A (k_u1 (σ A) 0 (σ B 0))) A (k_u1 ((k_up σ A (k_u1 (σ A) 0 (σ B 0))) A) 1 (σ B 1))) B 2 from by simp [k_up, hne, hne0])) ?_
  refine k_putf (kf := 2) dX5_copyFrom_21 kcX5 w_138 (by decide) (by omega) hA.1 rfl rfl rfl rfl ?_
  refine k_aload_n dX5_copyFrom_24 1 rfl rfl (by omega) ?_
  refine k_get (kf := 3) (v := .ref (B + 1)) dX5_copyFrom_25 kcX5 w_142 (by decide) (by omega) hB.1 rfl rfl ?_
  refine k_aload_n dX5_copyFrom_28 0 rfl rfl (by omega) ?_
  refine k_get (kf := 3) (v := .ref (A + 1)) dX5_copyFrom_29 kcX5 w_142 (by decide) (by omega) hA.1 rfl rfl ?_
  refine k_callSNr (st := []) (as := [.ref (B + 1), .ref (A + 1)]) dX5_copyFrom_32 oX7_copyRow w_429 w_430 rfl (by omega) rfl (Nat.le_of_ble_eq_true rfl) (c_copyRow (w := 7) (by omega) (by omega) hB.2.1 hA.2.1 (by decide)) ?_
  refine k_eqσ (σ' := (k_up (k_up (k_up (k_up σ A (k_u1 (σ A) 0 (σ B 0))) A (k_u1 ((k_up σ A (k_u1 (σ A) 0 (σ B 0))) A) 1 (σ B 1))) A (k_u1 ((k_up (k_up σ A (k_u1 (σ A) 0 (σ B 0))) A (k_u1 ((k_up σ A (k_u1 (σ A) 0 (σ B 0))) A) 1 (σ B 1))) A) 2 (σ B 2))) (A + 1) (σ (B + 1)))) (congrArg (k_up _ _) (by simp [k_up, hq, hq0])) ?_
  refine k_aload_n dX5_copyFrom_35 1 rfl rfl (by omega) ?_
  refine k_get (kf := 4) (v := .ref (B + 2)) dX5_copyFrom_36 kcX5 w_144 (by decide) (by omega) hB.1 rfl rfl ?_
  refine k_aload_n dX5_copyFrom_39 0 rfl rfl (by omega) ?_
  refine k_get (kf := 4) (v := .ref (A + 2)) dX5_copyFrom_40 kcX5 w_144 (by decide) (by omega) hA.1 rfl rfl ?_
  refine k_callSNr (st := []) (as := [.ref (B + 2), .ref (A + 2)]) dX5_copyFrom_43 oX7_copyRow w_429 w_430 rfl (by omega) rfl (Nat.le_of_ble_eq_true rfl) (c_copyRow (w := 7) (by omega) (by omega) hB.2.2.1 hA.2.2.1 (by decide)) ?_
  refine k_eqσ (σ' := (k_up (k_up (k_up (k_up (k_up σ A (k_u1 (σ A) 0 (σ B 0))) A (k_u1 ((k_up σ A (k_u1 (σ A) 0 (σ B 0))) A) 1 (σ B 1))) A (k_u1 ((k_up (k_up σ A (k_u1 (σ A) 0 (σ B 0))) A (k_u1 ((k_up σ A (k_u1 (σ A) 0 (σ B 0))) A) 1 (σ B 1))) A) 2 (σ B 2))) (A + 1) (σ (B + 1))) (A + 2) (σ (B + 2)))) (congrArg (k_up _ _) (by simp [k_up, hq, hq0])) ?_
  refine k_aload_n dX5_copyFrom_46 1 rfl rfl (by omega) ?_
  refine k_get (kf := 5) (v := .ref (B + 3)) dX5_copyFrom_47 kcX5 w_145 (by decide) (by omega) hB.1 rfl rfl ?_
  refine k_aload_n dX5_copyFrom_50 0 rfl rfl (by omega) ?_
  refine k_get (kf := 5) (v := .ref (A + 3)) dX5_copyFrom_51 kcX5 w_145 (by decide) (by omega) hA.1 rfl rfl ?_
  refine k_callSNr (st := []) (as := [.ref (B + 3), .ref (A + 3)]) dX5_copyFrom_54 oX7_copyRow w_429 w_430 rfl (by omega) rfl (Nat.le_of_ble_eq_true rfl) (c_copyRow (w := 28) (by omega) (by omega) hB.2.2.2.1 hA.2.2.2.1 (by decide)) ?_
  refine k_eqσ (σ' := (k_up (k_up (k_up (k_up (k_up (k_up σ A (k_u1 (σ A) 0 (σ B 0))) A (k_u1 ((k_up σ A (k_u1 (σ A) 0 (σ B 0))) A) 1 (σ B 1))) A (k_u1 ((k_up (k_up σ A (k_u1 (σ A) 0 (σ B 0))) A (k_u1 ((k_up σ A (k_u1 (σ A) 0 (σ B 0))) A) 1 (σ B 1))) A) 2 (σ B 2))) (A + 1) (σ (B + 1))) (A + 2) (σ (B + 2))) (A + 3) (σ (B + 3)))) (congrArg (k_up _ _) (by simp [k_up, hq, hq0])) ?_
  refine k_aload_n dX5_copyFrom_57 1 rfl rfl (by omega) ?_
  refine k_get (kf := 6) (v := .ref (B + 4)) dX5_copyFrom_58 kcX5 w_146 (by decide) (by omega) hB.1 rfl rfl ?_
  refine k_aload_n dX5_copyFrom_61 0 rfl rfl (by omega) ?_
  refine k_get (kf := 6) (v := .ref (A + 4)) dX5_copyFrom_62 kcX5 w_146 (by decide) (by omega) hA.1 rfl rfl ?_
  refine k_callSNr (st := []) (as := [.ref (B + 4), .ref (A + 4)]) dX5_copyFrom_65 oX7_copyRow w_429 w_430 rfl (by omega) rfl (Nat.le_of_ble_eq_true rfl) (c_copyRow (w := 12) (by omega) (by omega) hB.2.2.2.2.1 hA.2.2.2.2.1 (by decide)) ?_
  refine k_eqσ (σ' := (k_up (k_up (k_up (k_up (k_up (k_up (k_up σ A (k_u1 (σ A) 0 (σ B 0))) A (k_u1 ((k_up σ A (k_u1 (σ A) 0 (σ B 0))) A) 1 (σ B 1))) A (k_u1 ((k_up (k_up σ A (k_u1 (σ A) 0 (σ B 0))) A (k_u1 ((k_up σ A (k_u1 (σ A) 0 (σ B 0))) A) 1 (σ B 1))) A) 2 (σ B 2))) (A + 1) (σ (B + 1))) (A + 2) (σ (B + 2))) (A + 3) (σ (B + 3))) (A + 4) (σ (B + 4)))) (congrArg (k_up _ _) (by simp [k_up, hq, hq0])) ?_
  refine k_aload_n dX5_copyFrom_68 1 rfl rfl (by omega) ?_
  refine k_get (kf := 7) (v := .ref (B + 5)) dX5_copyFrom_69 kcX5 w_150 (by decide) (by omega) hB.1 rfl rfl ?_
  refine k_aload_n dX5_copyFrom_72 0 rfl rfl (by omega) ?_
  refine k_get (kf := 7) (v := .ref (A + 5)) dX5_copyFrom_73 kcX5 w_150 (by decide) (by omega) hA.1 rfl rfl ?_
  refine k_callSNr (st := []) (as := [.ref (B + 5), .ref (A + 5)]) dX5_copyFrom_76 oX7_copyRow w_429 w_430 rfl (by omega) rfl (Nat.le_of_ble_eq_true rfl) (c_copyRow (w := 36) (by omega) (by omega) hB.2.2.2.2.2.1 hA.2.2.2.2.2.1 (by decide)) ?_
  refine k_eqσ (σ' := (k_up (k_up (k_up (k_up (k_up (k_up (k_up (k_up σ A (k_u1 (σ A) 0 (σ B 0))) A (k_u1 ((k_up σ A (k_u1 (σ A) 0 (σ B 0))) A) 1 (σ B 1))) A (k_u1 ((k_up (k_up σ A (k_u1 (σ A) 0 (σ B 0))) A (k_u1 ((k_up σ A (k_u1 (σ A) 0 (σ B 0))) A) 1 (σ B 1))) A) 2 (σ B 2))) (A + 1) (σ (B + 1))) (A + 2) (σ (B + 2))) (A + 3) (σ (B + 3))) (A + 4) (σ (B + 4))) (A + 5) (σ (B + 5)))) (congrArg (k_up _ _) (by simp [k_up, hq, hq0])) ?_
  refine k_aload_n dX5_copyFrom_79 1 rfl rfl (by omega) ?_
  refine k_get (kf := 8) (v := .ref (B + 6)) dX5_copyFrom_80 kcX5 w_151 (by decide) (by omega) hB.1 rfl rfl ?_
  refine k_aload_n dX5_copyFrom_83 0 rfl rfl (by omega) ?_
  refine k_get (kf := 8) (v := .ref (A + 6)) dX5_copyFrom_84 kcX5 w_151 (by decide) (by omega) hA.1 rfl rfl ?_
  refine k_callSNr (st := []) (as := [.ref (B + 6), .ref (A + 6)]) dX5_copyFrom_87 oX7_copyRow w_429 w_430 rfl (by omega) rfl (Nat.le_of_ble_eq_true rfl) (c_copyRow (w := 12) (by omega) (by omega) hB.2.2.2.2.2.2.1 hA.2.2.2.2.2.2.1 (by decide)) ?_
  refine k_eqσ (σ' := (k_up (k_up (k_up (k_up (k_up (k_up (k_up (k_up (k_up σ A (k_u1 (σ A) 0 (σ B 0))) A (k_u1 ((k_up σ A (k_u1 (σ A) 0 (σ B 0))) A) 1 (σ B 1))) A (k_u1 ((k_up (k_up σ A (k_u1 (σ A) 0 (σ B 0))) A (k_u1 ((k_up σ A (k_u1 (σ A) 0 (σ B 0))) A) 1 (σ B 1))) A) 2 (σ B 2))) (A + 1) (σ (B + 1))) (A + 2) (σ (B + 2))) (A + 3) (σ (B + 3))) (A + 4) (σ (B + 4))) (A + 5) (σ (B + 5))) (A + 6) (σ (B + 6)))) (congrArg (k_up _ _) (by simp [k_up, hq, hq0])) ?_
  refine k_aload_n dX5_copyFrom_90 0 rfl rfl (by omega) ?_
  refine k_aload_n dX5_copyFrom_91 1 rfl rfl (by omega) ?_
  refine k_get (kf := 9) (v := .int (iI ((k_up (k_up (k_up (k_up (k_up (k_up (k_up (k_up (k_up σ A (k_u1 (σ A) 0 (σ B 0))) A (k_u1 ((k_up σ A (k_u1 (σ A) 0 (σ B 0))) A) 1 (σ B 1))) A (k_u1 ((k_up (k_up σ A (k_u1 (σ A) 0 (σ B 0))) A (k_u1 ((k_up σ A (k_u1 (σ A) 0 (σ B 0))) A) 1 (σ B 1))) A) 2 (σ B 2))) (A + 1) (σ (B + 1))) (A + 2) (σ (B + 2))) (A + 3) (σ (B + 3))) (A + 4) (σ (B + 4))) (A + 5) (σ (B + 5))) (A + 6) (σ (B + 6))) B 9))) dX5_copyFrom_92 kcX5 w_155 (by decide) (by omega) hB.1 rfl rfl ?_
  refine k_eqst (congrArg (fun z : Int => Value.int (iI z) :: [.ref A]) (show σ B 9 = (k_up (k_up (k_up (k_up (k_up (k_up (k_up (k_up (k_up σ A (k_u1 (σ A) 0 (σ B 0))) A (k_u1 ((k_up σ A (k_u1 (σ A) 0 (σ B 0))) A) 1 (σ B 1))) A (k_u1 ((k_up (k_up σ A (k_u1 (σ A) 0 (σ B 0))) A (k_u1 ((k_up σ A (k_u1 (σ A) 0 (σ B 0))) A) 1 (σ B 1))) A) 2 (σ B 2))) (A + 1) (σ (B + 1))) (A + 2) (σ (B + 2))) (A + 3) (σ (B + 3))) (A + 4) (σ (B + 4))) (A + 5) (σ (B + 5))) (A + 6) (σ (B + 6))) B 9 from by simp [k_up, hne, hne0])) ?_
  refine k_putf (kf := 9) dX5_copyFrom_95 kcX5 w_155 (by decide) (by omega) hA.1 rfl rfl rfl rfl ?_
  refine k_aload_n dX5_copyFrom_98 1 rfl rfl (by omega) ?_
  refine k_get (kf := 10) (v := .ref (B + 7)) dX5_copyFrom_99 kcX5 w_157 (by decide) (by omega) hB.1 rfl rfl ?_
  refine k_aload_n dX5_copyFrom_102 0 rfl rfl (by omega) ?_
  refine k_get (kf := 10) (v := .ref (A + 7)) dX5_copyFrom_103 kcX5 w_157 (by decide) (by omega) hA.1 rfl rfl ?_
  refine k_callSNr (st := []) (as := [.ref (B + 7), .ref (A + 7)]) dX5_copyFrom_106 oX7_copyRow w_429 w_430 rfl (by omega) rfl (Nat.le_of_ble_eq_true rfl) (c_copyRow (w := 4) (by omega) (by omega) hB.2.2.2.2.2.2.2.1 hA.2.2.2.2.2.2.2.1 (by decide)) ?_
  refine k_eqσ (σ' := (k_up (k_up (k_up (k_up (k_up (k_up (k_up (k_up (k_up (k_up (k_up σ A (k_u1 (σ A) 0 (σ B 0))) A (k_u1 ((k_up σ A (k_u1 (σ A) 0 (σ B 0))) A) 1 (σ B 1))) A (k_u1 ((k_up (k_up σ A (k_u1 (σ A) 0 (σ B 0))) A (k_u1 ((k_up σ A (k_u1 (σ A) 0 (σ B 0))) A) 1 (σ B 1))) A) 2 (σ B 2))) (A + 1) (σ (B + 1))) (A + 2) (σ (B + 2))) (A + 3) (σ (B + 3))) (A + 4) (σ (B + 4))) (A + 5) (σ (B + 5))) (A + 6) (σ (B + 6))) A (k_u1 ((k_up (k_up (k_up (k_up (k_up (k_up (k_up (k_up (k_up σ A (k_u1 (σ A) 0 (σ B 0))) A (k_u1 ((k_up σ A (k_u1 (σ A) 0 (σ B 0))) A) 1 (σ B 1))) A (k_u1 ((k_up (k_up σ A (k_u1 (σ A) 0 (σ B 0))) A (k_u1 ((k_up σ A (k_u1 (σ A) 0 (σ B 0))) A) 1 (σ B 1))) A) 2 (σ B 2))) (A + 1) (σ (B + 1))) (A + 2) (σ (B + 2))) (A + 3) (σ (B + 3))) (A + 4) (σ (B + 4))) (A + 5) (σ (B + 5))) (A + 6) (σ (B + 6))) A) 9 (σ B 9))) (A + 7) (σ (B + 7)))) (congrArg (k_up _ _) (by simp [k_up, hq, hq0])) ?_
  refine k_aload_n dX5_copyFrom_109 1 rfl rfl (by omega) ?_
  refine k_get (kf := 11) (v := .ref (B + 8)) dX5_copyFrom_110 kcX5 w_159 (by decide) (by omega) hB.1 rfl rfl ?_
  refine k_aload_n dX5_copyFrom_113 0 rfl rfl (by omega) ?_
  refine k_get (kf := 11) (v := .ref (A + 8)) dX5_copyFrom_114 kcX5 w_159 (by decide) (by omega) hA.1 rfl rfl ?_
  refine k_callSNr (st := []) (as := [.ref (B + 8), .ref (A + 8)]) dX5_copyFrom_117 oX7_copyRow w_429 w_430 rfl (by omega) rfl (Nat.le_of_ble_eq_true rfl) (c_copyRow (w := 4) (by omega) (by omega) hB.2.2.2.2.2.2.2.2 hA.2.2.2.2.2.2.2.2 (by decide)) ?_
  refine k_eqσ (σ' := (k_up (k_up (k_up (k_up (k_up (k_up (k_up (k_up (k_up (k_up (k_up (k_up σ A (k_u1 (σ A) 0 (σ B 0))) A (k_u1 ((k_up σ A (k_u1 (σ A) 0 (σ B 0))) A) 1 (σ B 1))) A (k_u1 ((k_up (k_up σ A (k_u1 (σ A) 0 (σ B 0))) A (k_u1 ((k_up σ A (k_u1 (σ A) 0 (σ B 0))) A) 1 (σ B 1))) A) 2 (σ B 2))) (A + 1) (σ (B + 1))) (A + 2) (σ (B + 2))) (A + 3) (σ (B + 3))) (A + 4) (σ (B + 4))) (A + 5) (σ (B + 5))) (A + 6) (σ (B + 6))) A (k_u1 ((k_up (k_up (k_up (k_up (k_up (k_up (k_up (k_up (k_up σ A (k_u1 (σ A) 0 (σ B 0))) A (k_u1 ((k_up σ A (k_u1 (σ A) 0 (σ B 0))) A) 1 (σ B 1))) A (k_u1 ((k_up (k_up σ A (k_u1 (σ A) 0 (σ B 0))) A (k_u1 ((k_up σ A (k_u1 (σ A) 0 (σ B 0))) A) 1 (σ B 1))) A) 2 (σ B 2))) (A + 1) (σ (B + 1))) (A + 2) (σ (B + 2))) (A + 3) (σ (B + 3))) (A + 4) (σ (B + 4))) (A + 5) (σ (B + 5))) (A + 6) (σ (B + 6))) A) 9 (σ B 9))) (A + 7) (σ (B + 7))) (A + 8) (σ (B + 8)))) (congrArg (k_up _ _) (by simp [k_up, hq, hq0])) ?_
  exact k_retv dX5_copyFrom_120 rfl (u_copy_eq rfl)
theorem k_retr {x x' : Nat} {rt : FieldType} (hd : decode M.2.1 pc = .ok (.areturn, 1)) (hr : M.2.2.2.1 = some rt) (hrt : (∃ n, rt = .object n) ∨ ∃ t, rt = .array t) (hσ : σ' = σ) (hx : x ≠ 1000001) (he : x = x') : k_V E M dp pc ls [.ref x] sh σ' k n (k_ret (some (.ref x')) sh σ) := by
  subst he hσ
  intro N0 ad0 p e R s m args below meth c H locs cells slots lsC ad mc ms C X hl
  have e1 : [Value.ref x].map (k_cv E ad) = [.ref (ad x)] := by simp [k_cv_ref hx]
  rw [e1]
  refine W.widen (Nat.le_trans (Nat.le_add_right _ _) X.2.1) (Nat.le_trans (Nat.le_add_right _ _) X.2.2.1) (vx_ret (W.aret C.1 C.2.1 (C.2.2.1.trans hr) hrt (Or.inr ⟨_, rfl⟩) (fun t ht hW => ⟨some (.ref x), sh, _, ad, by simp [k_cv_ref hx], ⟨rfl, rfl, rfl⟩, X.1, ht ▸ X.2.2.2.2.2.2, X.2.2.2.2.2.1.F ht⟩) X.2.2.2.2.2.1.2.2 hd C.2.2.2.2.2.2.1))
/-- the kept plans -/
def k_Hi (σ : Nat → Nat → Int) : Prop := (∀ j : Nat, j < 8 → σ 25 j = 27 + 9 * (j : Int)) ∧ (0 ≤ σ 24 1 ∧ σ 24 1 < 8) ∧ (0 ≤ σ 24 2 ∧ σ 24 2 ≤ 8)
theorem k_plat1 (h : k_Main sh) : k_PlAt sh 1 := ⟨s_1 h, s_2 h, s_3 h, s_4 h, s_5 h, s_6 h, s_7 h, s_8 h, s_9 h⟩
theorem k_plat98 (h : k_Main sh) : k_PlAt sh 98 := ⟨s_98 h, s_99 h, s_100 h, s_101 h, s_102 h, s_103 h, s_104 h, s_105 h, s_106 h⟩
theorem k_plat107 (h : k_Main sh) : k_PlAt sh 107 := ⟨s_107 h, s_108 h, s_109 h, s_110 h, s_111 h, s_112 h, s_113 h, s_114 h, s_115 h⟩
theorem k_platK (h : k_Main sh) {i : Nat} (hi : i < 8) : k_PlAt sh (26 + 9 * i) := by
  have : i = 0 ∨ i = 1 ∨ i = 2 ∨ i = 3 ∨ i = 4 ∨ i = 5 ∨ i = 6 ∨ i = 7 := by omega
  rcases this with rfl | rfl | rfl | rfl | rfl | rfl | rfl | rfl
  · exact ⟨s_26 h, s_27 h, s_28 h, s_29 h, s_30 h, s_31 h, s_32 h, s_33 h, s_34 h⟩
  · exact ⟨s_35 h, s_36 h, s_37 h, s_38 h, s_39 h, s_40 h, s_41 h, s_42 h, s_43 h⟩
  · exact ⟨s_44 h, s_45 h, s_46 h, s_47 h, s_48 h, s_49 h, s_50 h, s_51 h, s_52 h⟩
  · exact ⟨s_53 h, s_54 h, s_55 h, s_56 h, s_57 h, s_58 h, s_59 h, s_60 h, s_61 h⟩
  · exact ⟨s_62 h, s_63 h, s_64 h, s_65 h, s_66 h, s_67 h, s_68 h, s_69 h, s_70 h⟩
  · exact ⟨s_71 h, s_72 h, s_73 h, s_74 h, s_75 h, s_76 h, s_77 h, s_78 h, s_79 h⟩
  · exact ⟨s_80 h, s_81 h, s_82 h, s_83 h, s_84 h, s_85 h, s_86 h, s_87 h, s_88 h⟩
  · exact ⟨s_89 h, s_90 h, s_91 h, s_92 h, s_93 h, s_94 h, s_95 h, s_96 h, s_97 h⟩
/-- the plan at B kept in the next place -/
def u_keepB (σ : Nat → Nat → Int) (B : Nat) : Nat → Nat → Int := k_up (u_copy σ (26 + 9 * (σ 24 1).toNat) B) 24 (k_u1 (k_u1 (σ 24) 1 (if σ 24 1 + 1 < 8 then σ 24 1 + 1 else 0)) 2 (z_min (σ 24 2 + 1) 8))
def u_last (σ : Nat → Nat → Int) : Int := if 0 < σ 24 1 then σ 24 1 - 1 else 7
/-- the plan kept last brought back -/
def u_back (σ : Nat → Nat → Int) : Nat → Nat → Int := k_up (u_copy σ 1 (26 + 9 * (u_last σ).toNat)) 24 (k_u1 (k_u1 (σ 24) 1 (u_last σ)) 2 (σ 24 2 - 1))
theorem u_copy24 {B i : Nat} (hi : i < 8) : u_copy σ (26 + 9 * i) B 24 = σ 24 := u_copy_ne (by omega)
set_option maxHeartbeats 4000000 in
theorem c_planIn (hsh : k_Main sh) (hH : k_Hi σ) {i : Int} (hi : -2147483648 ≤ i ∧ i < 2147483648) (hi0 : 0 ≤ i ∧ i < 8) : k_C E mX3_planIn 1 [.ref 24, .int (iI (i))] sh σ 0 0 (k_ret (some (.ref (26 + 9 * i.toNat))) sh σ) := by
  refine k_C_of (ls0 := [(0, .ref 24), (1, .int (iI (i)))]) rfl pnX3 (fun v hv => k_cat1 rfl hv) (Nat.le_of_ble_eq_true rfl) rfl ?_
  obtain ⟨y0, y1, y2⟩ := id hH
  refine k_iload_n dX3_planIn_0 1 rfl rfl ?_
  refine k_if_lt (tgt := 22) dX3_planIn_1 rfl ⟨by omega, by omega⟩ (fun h_1 => absurd h_1 (by omega)) (fun h_1 => ?_)
  refine k_iload_n dX3_planIn_4 1 rfl rfl ?_
  refine k_aload_n dX3_planIn_5 0 rfl rfl (by decide) ?_
  refine k_get (kf := 0) (v := .ref 25) dX3_planIn_6 kcX3 w_288 (by decide) (by decide) (s_24 hsh) rfl rfl ?_
  refine k_alen dX3_planIn_9 (by decide) (s_25 hsh) (by decide) ?_
  refine k_icmp_ge (tgt := 22) dX3_planIn_10 rfl ⟨by omega, by omega⟩ ⟨by decide, by decide⟩ (fun h_2 => absurd h_2 (by omega)) (fun h_2 => ?_)
  refine k_aload_n dX3_planIn_13 0 rfl rfl (by decide) ?_
  refine k_get (kf := 0) (v := .ref 25) dX3_planIn_14 kcX3 w_288 (by decide) (by decide) (s_24 hsh) rfl rfl ?_
  refine k_iload_n dX3_planIn_17 1 rfl rfl ?_
  refine k_aald5 (r := 26 + 9 * (i).toNat) dX3_planIn_18 (by decide) (s_25 hsh) (by omega) (by omega) (by decide) (by omega) (by rw [y0 _ (by omega)]; omega) ?_
  refine k_goto (tgt := 23) dX3_planIn_19 rfl ?_
  exact k_retr dX3_planIn_23 (rt := _) rfl (Or.inl ⟨_, rfl⟩) rfl (by omega) rfl
set_option maxHeartbeats 4000000 in
theorem c_keep (hsh : k_Main sh) (hH : k_Hi σ) {B : Nat} (hB : k_PlAt sh B) (hBd : B < 1000 ∧ (B + 9 ≤ 26 ∨ 98 ≤ B))  : k_C E mX3_keep 4 [.ref 24, .ref B] sh σ 0 0 (k_ret none sh (u_keepB σ B)) := by
  refine k_C_of (ls0 := [(0, .ref 24), (1, .ref B)]) rfl pnX3 (fun v hv => k_cat1 rfl hv) (Nat.le_of_ble_eq_true rfl) rfl ?_
  obtain ⟨y0, y1, y2⟩ := id hH
  have k24 : u_copy σ (26 + 9 * (σ 24 1).toNat) B 24 = σ 24 := u_copy24 (by omega)
  refine k_aload_n dX3_keep_0 0 rfl rfl (by decide) ?_
  refine k_aload_n dX3_keep_1 0 rfl rfl (by decide) ?_
  refine k_get (kf := 1) (v := .int (iI (σ 24 1))) dX3_keep_2 kcX3 w_289 (by decide) (by decide) (s_24 hsh) rfl rfl ?_
  refine k_callVr (st := []) (as := [.int (iI (σ 24 1))]) dX3_keep_5 oX3_planIn w_421 w_423 w_0 rfl (by omega) rfl (Nat.le_of_ble_eq_true rfl) (by decide) (s_24 hsh) rfl (c_planIn hsh hH ⟨by omega, by omega⟩ ⟨by omega, by omega⟩) ?_
  refine k_astore_n (ls' := [(0, .ref 24), (1, .ref B), (2, .ref (26 + 9 * (σ 24 1).toNat))]) dX3_keep_8 rfl (by omega) (by decide) rfl rfl ?_
  refine k_aload_n dX3_keep_9 2 rfl rfl (by omega) ?_
  refine k_ifnull dX3_keep_10 (by omega) ?_
  refine k_aload_n dX3_keep_13 2 rfl rfl (by omega) ?_
  refine k_aload_n dX3_keep_14 1 rfl rfl (by omega) ?_
  refine k_callVr (st := []) (as := [.ref B]) dX3_keep_15 oX5_copyFrom w_425 w_426 w_427 rfl (by omega) rfl (Nat.le_of_ble_eq_true rfl) (by omega) (k_platK hsh (by omega)).1 rfl (c_copyFrom (k_platK hsh (by omega)) hB ⟨by omega, by omega⟩ (by omega)) ?_
  refine k_aload_n dX3_keep_18 0 rfl rfl (by decide) ?_
  refine k_aload_n dX3_keep_19 0 rfl rfl (by decide) ?_
  refine k_get (kf := 1) (v := .int (iI ((u_copy σ (26 + 9 * (σ 24 1).toNat) B) 24 1))) dX3_keep_20 kcX3 w_289 (by decide) (by decide) (s_24 hsh) rfl rfl ?_
  refine k_eqst (congrArg (fun z : Int => Value.int (iI z) :: [.ref 24]) (show σ 24 1 = (u_copy σ (26 + 9 * (σ 24 1).toNat) B) 24 1 from by first | exact (congrFun k24 _).symm | (simp [k_up, k_u1, k24]))) ?_
  refine k_iconst (v := 1) dX3_keep_23 rfl ?_
  refine k_iadd dX3_keep_24 ?_
  refine k_bipush (v := 8) dX3_keep_25 (by decide) ?_
  refine k_icmp_ge (tgt := 39) dX3_keep_27 rfl ⟨by omega, by omega⟩ ⟨by decide, by decide⟩ (fun h_1 => ?_) (fun h_1 => ?_)
  · refine k_iconst (v := 0) dX3_keep_39 rfl ?_
    refine k_putf (kf := 1) dX3_keep_40 kcX3 w_289 (by decide) (by decide) (s_24 hsh) rfl rfl rfl rfl ?_
    refine k_aload_n dX3_keep_43 0 rfl rfl (by decide) ?_
    refine k_aload_n dX3_keep_44 0 rfl rfl (by decide) ?_
    refine k_get (kf := 2) (v := .int (iI ((u_copy σ (26 + 9 * (σ 24 1).toNat) B) 24 2))) dX3_keep_45 kcX3 w_290 (by decide) (by decide) (s_24 hsh) rfl rfl ?_
    refine k_eqst (congrArg (fun z : Int => Value.int (iI z) :: [.ref 24]) (show σ 24 2 = (u_copy σ (26 + 9 * (σ 24 1).toNat) B) 24 2 from by first | exact (congrFun k24 _).symm | (simp [k_up, k_u1, k24]))) ?_
    refine k_iconst (v := 1) dX3_keep_48 rfl ?_
    refine k_iadd dX3_keep_49 ?_
    refine k_bipush (v := 8) dX3_keep_50 (by decide) ?_
    refine k_mmin (st := [.ref 24]) dX3_keep_52 w_438 w_433 (by omega) (Nat.le_of_ble_eq_true rfl) ⟨by omega, by omega⟩ ⟨by omega, by omega⟩ ?_
    refine k_putf (kf := 2) dX3_keep_55 kcX3 w_290 (by decide) (by decide) (s_24 hsh) rfl rfl rfl rfl ?_
    exact k_retv dX3_keep_58 rfl (by funext i; by_cases e24 : i = 24; (· subst e24; show k_u1 (k_u1 (u_copy _ _ _ 24) 1 _) 2 _ = k_u1 (k_u1 (σ 24) 1 (if σ 24 1 + 1 < 8 then σ 24 1 + 1 else 0)) 2 _; rw [k24]; first | rw [if_pos (show σ 24 1 + 1 < 8 by omega)] | rw [if_neg (show ¬ σ 24 1 + 1 < 8 by omega)]); simp [k_up, u_keepB, e24])
  · refine k_aload_n dX3_keep_30 0 rfl rfl (by decide) ?_
    refine k_get (kf := 1) (v := .int (iI ((u_copy σ (26 + 9 * (σ 24 1).toNat) B) 24 1))) dX3_keep_31 kcX3 w_289 (by decide) (by decide) (s_24 hsh) rfl rfl ?_
    refine k_eqst (congrArg (fun z : Int => Value.int (iI z) :: [.ref 24]) (show σ 24 1 = (u_copy σ (26 + 9 * (σ 24 1).toNat) B) 24 1 from by first | exact (congrFun k24 _).symm | (simp [k_up, k_u1, k24]))) ?_
    refine k_iconst (v := 1) dX3_keep_34 rfl ?_
    refine k_iadd dX3_keep_35 ?_
    refine k_goto (tgt := 40) dX3_keep_36 rfl ?_
    refine k_putf (kf := 1) dX3_keep_40 kcX3 w_289 (by decide) (by decide) (s_24 hsh) rfl rfl rfl rfl ?_
    refine k_aload_n dX3_keep_43 0 rfl rfl (by decide) ?_
    refine k_aload_n dX3_keep_44 0 rfl rfl (by decide) ?_
    refine k_get (kf := 2) (v := .int (iI ((u_copy σ (26 + 9 * (σ 24 1).toNat) B) 24 2))) dX3_keep_45 kcX3 w_290 (by decide) (by decide) (s_24 hsh) rfl rfl ?_
    refine k_eqst (congrArg (fun z : Int => Value.int (iI z) :: [.ref 24]) (show σ 24 2 = (u_copy σ (26 + 9 * (σ 24 1).toNat) B) 24 2 from by first | exact (congrFun k24 _).symm | (simp [k_up, k_u1, k24]))) ?_
    refine k_iconst (v := 1) dX3_keep_48 rfl ?_
    refine k_iadd dX3_keep_49 ?_
    refine k_bipush (v := 8) dX3_keep_50 (by decide) ?_
    refine k_mmin (st := [.ref 24]) dX3_keep_52 w_438 w_433 (by omega) (Nat.le_of_ble_eq_true rfl) ⟨by omega, by omega⟩ ⟨by omega, by omega⟩ ?_
    refine k_putf (kf := 2) dX3_keep_55 kcX3 w_290 (by decide) (by decide) (s_24 hsh) rfl rfl rfl rfl ?_
    exact k_retv dX3_keep_58 rfl (by funext i; by_cases e24 : i = 24; (· subst e24; show k_u1 (k_u1 (u_copy _ _ _ 24) 1 _) 2 _ = k_u1 (k_u1 (σ 24) 1 (if σ 24 1 + 1 < 8 then σ 24 1 + 1 else 0)) 2 _; rw [k24]; first | rw [if_pos (show σ 24 1 + 1 < 8 by omega)] | rw [if_neg (show ¬ σ 24 1 + 1 < 8 by omega)]); simp [k_up, u_keepB, e24])
set_option maxHeartbeats 4000000 in
theorem c_bringBack (hsh : k_Main sh) (hH : k_Hi σ)  : k_C E mX3_bringBack 4 [.ref 24, .ref 1] sh σ 0 0 (k_ret none sh (u_back σ)) := by
  refine k_C_of (ls0 := [(0, .ref 24), (1, .ref 1)]) rfl pnX3 (fun v hv => k_cat1 rfl hv) (Nat.le_of_ble_eq_true rfl) rfl ?_
  obtain ⟨y0, y1, y2⟩ := id hH
  have hl : 0 ≤ u_last σ ∧ u_last σ < 8 := by unfold u_last; split <;> omega
  have k24 : u_copy σ 1 (26 + 9 * (u_last σ).toNat) 24 = σ 24 := u_copy_ne (by omega)
  refine k_aload_n dX3_bringBack_0 0 rfl rfl (by decide) ?_
  refine k_get (kf := 1) (v := .int (iI (σ 24 1))) dX3_bringBack_1 kcX3 w_289 (by decide) (by decide) (s_24 hsh) rfl rfl ?_
  refine k_if_le (tgt := 16) dX3_bringBack_4 rfl ⟨by omega, by omega⟩ (fun h_1 => ?_) (fun h_1 => ?_)
  · refine k_bipush (v := 7) dX3_bringBack_16 (by decide) ?_
    refine k_eqst (congrArg (fun z : Int => Value.int (iI z) :: []) (show u_last σ = 7 from by unfold u_last; first | exact if_pos (by omega) | exact if_neg (by omega))) ?_
    refine k_istore_n (ls' := [(0, .ref 24), (1, .ref 1), (2, .int (iI (u_last σ)))]) dX3_bringBack_18 rfl (by decide) rfl rfl ?_
    refine k_aload_n dX3_bringBack_19 0 rfl rfl (by decide) ?_
    refine k_iload_n dX3_bringBack_20 2 rfl rfl ?_
    refine k_callVr (st := []) (as := [.int (iI (u_last σ))]) dX3_bringBack_21 oX3_planIn w_421 w_423 w_0 rfl (by omega) rfl (Nat.le_of_ble_eq_true rfl) (by decide) (s_24 hsh) rfl (c_planIn hsh hH ⟨by omega, by omega⟩ ⟨by omega, by omega⟩) ?_
    refine k_astore_n (ls' := [(0, .ref 24), (1, .ref 1), (2, .int (iI (u_last σ))), (3, .ref (26 + 9 * (u_last σ).toNat))]) dX3_bringBack_24 rfl (by omega) (by decide) rfl rfl ?_
    refine k_aload_n dX3_bringBack_25 3 rfl rfl (by omega) ?_
    refine k_ifnull dX3_bringBack_26 (by omega) ?_
    refine k_aload_n dX3_bringBack_29 1 rfl rfl (by decide) ?_
    refine k_aload_n dX3_bringBack_30 3 rfl rfl (by omega) ?_
    refine k_callVr (st := []) (as := [.ref (26 + 9 * (u_last σ).toNat)]) dX3_bringBack_31 oX5_copyFrom w_425 w_426 w_427 rfl (by omega) rfl (Nat.le_of_ble_eq_true rfl) (by decide) (s_1 hsh) rfl (c_copyFrom (k_plat1 hsh) (k_platK hsh (by omega)) ⟨by omega, by omega⟩ (by omega)) ?_
    refine k_aload_n dX3_bringBack_34 0 rfl rfl (by decide) ?_
    refine k_iload_n dX3_bringBack_35 2 rfl rfl ?_
    refine k_putf (kf := 1) dX3_bringBack_36 kcX3 w_289 (by decide) (by decide) (s_24 hsh) rfl rfl rfl rfl ?_
    refine k_aload_n dX3_bringBack_39 0 rfl rfl (by decide) ?_
    refine k_dup dX3_bringBack_40 rfl ?_
    refine k_get (kf := 2) (v := .int (iI ((u_copy σ 1 (26 + 9 * (u_last σ).toNat)) 24 2))) dX3_bringBack_41 kcX3 w_290 (by decide) (by decide) (s_24 hsh) rfl rfl ?_
    refine k_eqst (congrArg (fun z : Int => Value.int (iI z) :: [.ref 24]) (show σ 24 2 = (u_copy σ 1 (26 + 9 * (u_last σ).toNat)) 24 2 from by first | exact (congrFun k24 _).symm | (simp [k_up, k_u1, k24]))) ?_
    refine k_iconst (v := 1) dX3_bringBack_44 rfl ?_
    refine k_isub dX3_bringBack_45 ?_
    refine k_putf (kf := 2) dX3_bringBack_46 kcX3 w_290 (by decide) (by decide) (s_24 hsh) rfl rfl rfl rfl ?_
    exact k_retv dX3_bringBack_49 rfl (by funext i; by_cases e24 : i = 24; (· subst e24; show k_u1 (k_u1 (u_copy _ _ _ 24) 1 _) 2 _ = k_u1 (k_u1 (σ 24) 1 (u_last σ)) 2 _; rw [k24]); simp [k_up, u_back, e24])
  · refine k_aload_n dX3_bringBack_7 0 rfl rfl (by decide) ?_
    refine k_get (kf := 1) (v := .int (iI (σ 24 1))) dX3_bringBack_8 kcX3 w_289 (by decide) (by decide) (s_24 hsh) rfl rfl ?_
    refine k_iconst (v := 1) dX3_bringBack_11 rfl ?_
    refine k_isub dX3_bringBack_12 ?_
    refine k_goto (tgt := 18) dX3_bringBack_13 rfl ?_
    refine k_eqst (congrArg (fun z : Int => Value.int (iI z) :: []) (show u_last σ = (σ 24 1) - 1 from by unfold u_last; first | exact if_pos (by omega) | exact if_neg (by omega))) ?_
    refine k_istore_n (ls' := [(0, .ref 24), (1, .ref 1), (2, .int (iI (u_last σ)))]) dX3_bringBack_18 rfl (by decide) rfl rfl ?_
    refine k_aload_n dX3_bringBack_19 0 rfl rfl (by decide) ?_
    refine k_iload_n dX3_bringBack_20 2 rfl rfl ?_
    refine k_callVr (st := []) (as := [.int (iI (u_last σ))]) dX3_bringBack_21 oX3_planIn w_421 w_423 w_0 rfl (by omega) rfl (Nat.le_of_ble_eq_true rfl) (by decide) (s_24 hsh) rfl (c_planIn hsh hH ⟨by omega, by omega⟩ ⟨by omega, by omega⟩) ?_
    refine k_astore_n (ls' := [(0, .ref 24), (1, .ref 1), (2, .int (iI (u_last σ))), (3, .ref (26 + 9 * (u_last σ).toNat))]) dX3_bringBack_24 rfl (by omega) (by decide) rfl rfl ?_
    refine k_aload_n dX3_bringBack_25 3 rfl rfl (by omega) ?_
    refine k_ifnull dX3_bringBack_26 (by omega) ?_
    refine k_aload_n dX3_bringBack_29 1 rfl rfl (by decide) ?_
    refine k_aload_n dX3_bringBack_30 3 rfl rfl (by omega) ?_
    refine k_callVr (st := []) (as := [.ref (26 + 9 * (u_last σ).toNat)]) dX3_bringBack_31 oX5_copyFrom w_425 w_426 w_427 rfl (by omega) rfl (Nat.le_of_ble_eq_true rfl) (by decide) (s_1 hsh) rfl (c_copyFrom (k_plat1 hsh) (k_platK hsh (by omega)) ⟨by omega, by omega⟩ (by omega)) ?_
    refine k_aload_n dX3_bringBack_34 0 rfl rfl (by decide) ?_
    refine k_iload_n dX3_bringBack_35 2 rfl rfl ?_
    refine k_putf (kf := 1) dX3_bringBack_36 kcX3 w_289 (by decide) (by decide) (s_24 hsh) rfl rfl rfl rfl ?_
    refine k_aload_n dX3_bringBack_39 0 rfl rfl (by decide) ?_
    refine k_dup dX3_bringBack_40 rfl ?_
    refine k_get (kf := 2) (v := .int (iI ((u_copy σ 1 (26 + 9 * (u_last σ).toNat)) 24 2))) dX3_bringBack_41 kcX3 w_290 (by decide) (by decide) (s_24 hsh) rfl rfl ?_
    refine k_eqst (congrArg (fun z : Int => Value.int (iI z) :: [.ref 24]) (show σ 24 2 = (u_copy σ 1 (26 + 9 * (u_last σ).toNat)) 24 2 from by first | exact (congrFun k24 _).symm | (simp [k_up, k_u1, k24]))) ?_
    refine k_iconst (v := 1) dX3_bringBack_44 rfl ?_
    refine k_isub dX3_bringBack_45 ?_
    refine k_putf (kf := 2) dX3_bringBack_46 kcX3 w_290 (by decide) (by decide) (s_24 hsh) rfl rfl rfl rfl ?_
    exact k_retv dX3_bringBack_49 rfl (by funext i; by_cases e24 : i = 24; (· subst e24; show k_u1 (k_u1 (u_copy _ _ _ 24) 1 _) 2 _ = k_u1 (k_u1 (σ 24) 1 (u_last σ)) 2 _; rw [k24]); simp [k_up, u_back, e24])
end K_W
