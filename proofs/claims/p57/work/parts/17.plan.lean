/-! ===== THE PLAN: what its methods answer, in words of the numbers in its cells ===== -/
section K_M1
/-- what kinds of numbers the plan's cells hold -/
def k_Ty (σ : Nat → Nat → Int) : Prop := (0 ≤ σ 1 0 ∧ σ 1 0 ≤ 7) ∧ (1 ≤ σ 1 1 ∧ σ 1 1 ≤ 4) ∧ (0 ≤ σ 1 2 ∧ σ 1 2 ≤ 12) ∧ (∀ j, 0 ≤ σ 2 j ∧ σ 2 j ≤ 9) ∧ (∀ j, 0 ≤ σ 3 j ∧ σ 3 j < 16) ∧ (∀ j, 0 ≤ σ 4 j ∧ σ 4 j < 4096) ∧ (∀ j, 0 ≤ σ 5 j ∧ σ 5 j ≤ 3) ∧ (∀ j, 0 ≤ σ 6 j ∧ σ 6 j < 7) ∧ (∀ j, -1 ≤ σ 7 j ∧ σ 7 j < 7) ∧ (-1 ≤ σ 1 9 ∧ σ 1 9 ≤ 3) ∧ (∀ j, 0 ≤ σ 8 j ∧ σ 8 j < 12) ∧ (∀ j, 0 ≤ σ 9 j ∧ σ 9 j < 4)
theorem k_fold_inv {α : Type} {P : α → Prop} {f : Nat → α → α} {a : α} (h0 : P a) (hs : ∀ i x, P x → P (f i x)) : ∀ n, P (k_fold n f a)
  | 0 => h0
  | n + 1 => hs n _ (k_fold_inv h0 hs n)
variable {E : k_E} {sh : List k_Sh} {σ : Nat → Nat → Int}
def f_roster (σ : Nat → Nat → Int) (s b : Int) : Int := if (0 ≤ s ∧ s < 7) ∧ (0 ≤ b ∧ b < 4) then σ 4 (s * 4 + b).toNat else 0
def f_open (σ : Nat → Nat → Int) (s : Int) : Int := if 0 ≤ s ∧ s < σ 1 0 then σ 3 s.toNat else 0
theorem f_roster_r (hI : k_Ty σ) (s b : Int) : 0 ≤ f_roster σ s b ∧ f_roster σ s b < 4096 := by
  unfold f_roster
  split
  · exact hI.2.2.2.2.2.1 _
  · decide
theorem f_open_r (hI : k_Ty σ) (s : Int) : 0 ≤ f_open σ s ∧ f_open σ s < 16 := by
  unfold f_open
  split
  · exact hI.2.2.2.2.1 _
  · decide
def f_busyN (σ : Nat → Nat → Int) (b : Int) (n : Nat) : Int := k_fold n (fun s a => z_or a (f_roster σ (s : Int) b)) 0
def f_busy (σ : Nat → Nat → Int) (b : Int) : Int := f_busyN σ b (σ 1 0).toNat
theorem f_busyN_r (hI : k_Ty σ) (b : Int) (n : Nat) : 0 ≤ f_busyN σ b n ∧ f_busyN σ b n < 4096 :=
  k_fold_inv (P := fun x => 0 ≤ x ∧ x < 4096) (by decide) (fun i x h => ⟨z_or_nn _ _, z_or_lt 12 h.2 (f_roster_r hI _ _).2⟩) n
def f_freeN (σ : Nat → Nat → Int) (p : Int) (n : Nat) : Int := k_fold n (fun b a => z_or a (if z_bit (f_busy σ (b : Int)) p = true then 0 else z_one (b : Int))) 0
def f_free (σ : Nat → Nat → Int) (p : Int) : Int := f_freeN σ p (σ 1 1).toNat
def f_lessonsN (σ : Nat → Nat → Int) (p : Int) (n : Nat) : Int := k_fold n (fun b a => a + zb (z_bit (f_busy σ (b : Int)) p = true)) 0
def f_lessons (σ : Nat → Nat → Int) (p : Int) : Int := f_lessonsN σ p (σ 1 1).toNat
def f_lesson (σ : Nat → Nat → Int) (p b : Int) : Int := z_first (σ 1 0).toNat (fun s => z_bit (f_roster σ (s : Int) b) p)
def f_taken (σ : Nat → Nat → Int) (p s : Int) : Int := z_first (σ 1 1).toNat (fun b => z_bit (f_roster σ s (b : Int)) p)
theorem f_free_r (σ : Nat → Nat → Int) (p : Int) : ∀ n : Nat, n ≤ 4 → 0 ≤ f_freeN σ p n ∧ f_freeN σ p n < 16
  | 0, _ => ⟨Int.le_refl 0, show (0 : Int) < 16 by decide⟩
  | n + 1, h => by
    have ih := f_free_r σ p n (by omega)
    have e : f_freeN σ p (n + 1) = z_or (f_freeN σ p n) (if z_bit (f_busy σ (n : Int)) p = true then 0 else z_one (n : Int)) := rfl
    rw [e]
    refine ⟨z_or_nn _ _, z_or_lt 4 ih.2 ?_⟩
    split
    · decide
    · exact z_one_lt 4 (by omega) (by omega)
theorem f_lessonsN_r (σ : Nat → Nat → Int) (p : Int) : ∀ n : Nat, 0 ≤ f_lessonsN σ p n ∧ f_lessonsN σ p n ≤ n
  | 0 => ⟨Int.le_refl 0, Int.le_refl 0⟩
  | n + 1 => by
    have ih := f_lessonsN_r σ p n
    have h2 := zb_r (z_bit (f_busy σ (n : Int)) p = true)
    have e : f_lessonsN σ p (n + 1) = f_lessonsN σ p n + zb (z_bit (f_busy σ (n : Int)) p = true) := rfl
    rw [e]
    omega

set_option maxHeartbeats 4000000 in
theorem c_hasSubject (hsh : k_Main sh) (hI : k_Ty σ) {x : Int} (hx : -2147483648 ≤ x ∧ x < 2147483648) : k_C E mX5_hasSubject 1 [.ref 1, .int (iI (x))] sh σ 0 0 (k_ret (some (.int (iI (zb (0 ≤ x ∧ x < σ 1 0))))) sh σ) := by
  refine k_C_of (ls0 := [(0, .ref 1), (1, .int (iI (x)))]) rfl pnX5 (fun v hv => k_cat1 rfl hv) (Nat.le_of_ble_eq_true rfl) rfl ?_
  obtain ⟨t0, t1, t2, t3, t4, t5, t6, t7, t8, t9, t10, t11⟩ := id hI
  refine k_iload_n dX5_hasSubject_0 1 rfl rfl ?_
  refine k_if_lt (tgt := 16) dX5_hasSubject_1 rfl ⟨by omega, by omega⟩ (fun h_1 => ?_) (fun h_1 => ?_)
  · refine k_iconst (v := 0) dX5_hasSubject_16 rfl ?_
    exact k_retz dX5_hasSubject_17 rfl (Or.inl rfl) rfl (by first | exact (zb_f (by omega)).symm | exact (zb_t (by omega)).symm)
  · refine k_iload_n dX5_hasSubject_4 1 rfl rfl ?_
    refine k_aload_n dX5_hasSubject_5 0 rfl rfl (by decide) ?_
    refine k_get (kf := 0) (v := .int (iI (σ 1 0))) dX5_hasSubject_6 kcX5 w_131 (by decide) (by decide) (s_1 hsh) rfl rfl ?_
    refine k_icmp_ge (tgt := 16) dX5_hasSubject_9 rfl ⟨by omega, by omega⟩ ⟨by omega, by omega⟩ (fun h_2 => ?_) (fun h_2 => ?_)
    · refine k_iconst (v := 0) dX5_hasSubject_16 rfl ?_
      exact k_retz dX5_hasSubject_17 rfl (Or.inl rfl) rfl (by first | exact (zb_f (by omega)).symm | exact (zb_t (by omega)).symm)
    · refine k_iconst (v := 1) dX5_hasSubject_12 rfl ?_
      refine k_goto (tgt := 17) dX5_hasSubject_13 rfl ?_
      exact k_retz dX5_hasSubject_17 rfl (Or.inr rfl) rfl (by first | exact (zb_f (by omega)).symm | exact (zb_t (by omega)).symm)
set_option maxHeartbeats 4000000 in
theorem c_hasBlock (hsh : k_Main sh) (hI : k_Ty σ) {x : Int} (hx : -2147483648 ≤ x ∧ x < 2147483648) : k_C E mX5_hasBlock 1 [.ref 1, .int (iI (x))] sh σ 0 0 (k_ret (some (.int (iI (zb (0 ≤ x ∧ x < σ 1 1))))) sh σ) := by
  refine k_C_of (ls0 := [(0, .ref 1), (1, .int (iI (x)))]) rfl pnX5 (fun v hv => k_cat1 rfl hv) (Nat.le_of_ble_eq_true rfl) rfl ?_
  obtain ⟨t0, t1, t2, t3, t4, t5, t6, t7, t8, t9, t10, t11⟩ := id hI
  refine k_iload_n dX5_hasBlock_0 1 rfl rfl ?_
  refine k_if_lt (tgt := 16) dX5_hasBlock_1 rfl ⟨by omega, by omega⟩ (fun h_1 => ?_) (fun h_1 => ?_)
  · refine k_iconst (v := 0) dX5_hasBlock_16 rfl ?_
    exact k_retz dX5_hasBlock_17 rfl (Or.inl rfl) rfl (by first | exact (zb_f (by omega)).symm | exact (zb_t (by omega)).symm)
  · refine k_iload_n dX5_hasBlock_4 1 rfl rfl ?_
    refine k_aload_n dX5_hasBlock_5 0 rfl rfl (by decide) ?_
    refine k_get (kf := 1) (v := .int (iI (σ 1 1))) dX5_hasBlock_6 kcX5 w_135 (by decide) (by decide) (s_1 hsh) rfl rfl ?_
    refine k_icmp_ge (tgt := 16) dX5_hasBlock_9 rfl ⟨by omega, by omega⟩ ⟨by omega, by omega⟩ (fun h_2 => ?_) (fun h_2 => ?_)
    · refine k_iconst (v := 0) dX5_hasBlock_16 rfl ?_
      exact k_retz dX5_hasBlock_17 rfl (Or.inl rfl) rfl (by first | exact (zb_f (by omega)).symm | exact (zb_t (by omega)).symm)
    · refine k_iconst (v := 1) dX5_hasBlock_12 rfl ?_
      refine k_goto (tgt := 17) dX5_hasBlock_13 rfl ?_
      exact k_retz dX5_hasBlock_17 rfl (Or.inr rfl) rfl (by first | exact (zb_f (by omega)).symm | exact (zb_t (by omega)).symm)
set_option maxHeartbeats 4000000 in
theorem c_hasPupil (hsh : k_Main sh) (hI : k_Ty σ) {x : Int} (hx : -2147483648 ≤ x ∧ x < 2147483648) : k_C E mX5_hasPupil 1 [.ref 1, .int (iI (x))] sh σ 0 0 (k_ret (some (.int (iI (zb (0 ≤ x ∧ x < σ 1 2))))) sh σ) := by
  refine k_C_of (ls0 := [(0, .ref 1), (1, .int (iI (x)))]) rfl pnX5 (fun v hv => k_cat1 rfl hv) (Nat.le_of_ble_eq_true rfl) rfl ?_
  obtain ⟨t0, t1, t2, t3, t4, t5, t6, t7, t8, t9, t10, t11⟩ := id hI
  refine k_iload_n dX5_hasPupil_0 1 rfl rfl ?_
  refine k_if_lt (tgt := 16) dX5_hasPupil_1 rfl ⟨by omega, by omega⟩ (fun h_1 => ?_) (fun h_1 => ?_)
  · refine k_iconst (v := 0) dX5_hasPupil_16 rfl ?_
    exact k_retz dX5_hasPupil_17 rfl (Or.inl rfl) rfl (by first | exact (zb_f (by omega)).symm | exact (zb_t (by omega)).symm)
  · refine k_iload_n dX5_hasPupil_4 1 rfl rfl ?_
    refine k_aload_n dX5_hasPupil_5 0 rfl rfl (by decide) ?_
    refine k_get (kf := 2) (v := .int (iI (σ 1 2))) dX5_hasPupil_6 kcX5 w_138 (by decide) (by decide) (s_1 hsh) rfl rfl ?_
    refine k_icmp_ge (tgt := 16) dX5_hasPupil_9 rfl ⟨by omega, by omega⟩ ⟨by omega, by omega⟩ (fun h_2 => ?_) (fun h_2 => ?_)
    · refine k_iconst (v := 0) dX5_hasPupil_16 rfl ?_
      exact k_retz dX5_hasPupil_17 rfl (Or.inl rfl) rfl (by first | exact (zb_f (by omega)).symm | exact (zb_t (by omega)).symm)
    · refine k_iconst (v := 1) dX5_hasPupil_12 rfl ?_
      refine k_goto (tgt := 17) dX5_hasPupil_13 rfl ?_
      exact k_retz dX5_hasPupil_17 rfl (Or.inr rfl) rfl (by first | exact (zb_f (by omega)).symm | exact (zb_t (by omega)).symm)
set_option maxHeartbeats 4000000 in
theorem c_hasClass (hsh : k_Main sh) (hI : k_Ty σ) {s b : Int} (hs : -2147483648 ≤ s ∧ s < 2147483648) (hb : -2147483648 ≤ b ∧ b < 2147483648) : k_C E mX5_hasClass 2 [.ref 1, .int (iI (s)), .int (iI (b))] sh σ 0 0 (k_ret (some (.int (iI (zb ((0 ≤ s ∧ s < σ 1 0) ∧ (0 ≤ b ∧ b < σ 1 1)))))) sh σ) := by
  refine k_C_of (ls0 := [(0, .ref 1), (1, .int (iI (s))), (2, .int (iI (b)))]) rfl pnX5 (fun v hv => k_cat1 rfl hv) (Nat.le_of_ble_eq_true rfl) rfl ?_
  obtain ⟨t0, t1, t2, t3, t4, t5, t6, t7, t8, t9, t10, t11⟩ := id hI
  refine k_aload_n dX5_hasClass_0 0 rfl rfl (by decide) ?_
  refine k_iload_n dX5_hasClass_1 1 rfl rfl ?_
  refine k_callVr (st := []) (as := [.int (iI (s))]) dX5_hasClass_2 oX5_hasSubject w_487 w_488 w_489 rfl (by omega) rfl (Nat.le_of_ble_eq_true rfl) (by decide) (s_1 hsh) rfl (c_hasSubject hsh hI ⟨by omega, by omega⟩) ?_
  refine k_if_eq (tgt := 20) dX5_hasClass_5 rfl (zb_kr _) (fun h_1 => ?_) (fun h_1 => ?_)
  · have h_1 := zb_0.mp h_1
    refine k_iconst (v := 0) dX5_hasClass_20 rfl ?_
    exact k_retz dX5_hasClass_21 rfl (Or.inl rfl) rfl (by first | exact (zb_f (by omega)).symm | exact (zb_t (by omega)).symm)
  · have h_1 := zb_n0.mp h_1
    refine k_aload_n dX5_hasClass_8 0 rfl rfl (by decide) ?_
    refine k_iload_n dX5_hasClass_9 2 rfl rfl ?_
    refine k_callVr (st := []) (as := [.int (iI (b))]) dX5_hasClass_10 oX5_hasBlock w_524 w_525 w_526 rfl (by omega) rfl (Nat.le_of_ble_eq_true rfl) (by decide) (s_1 hsh) rfl (c_hasBlock hsh hI ⟨by omega, by omega⟩) ?_
    refine k_if_eq (tgt := 20) dX5_hasClass_13 rfl (zb_kr _) (fun h_2 => ?_) (fun h_2 => ?_)
    · have h_2 := zb_0.mp h_2
      refine k_iconst (v := 0) dX5_hasClass_20 rfl ?_
      exact k_retz dX5_hasClass_21 rfl (Or.inl rfl) rfl (by first | exact (zb_f (by omega)).symm | exact (zb_t (by omega)).symm)
    · have h_2 := zb_n0.mp h_2
      refine k_iconst (v := 1) dX5_hasClass_16 rfl ?_
      refine k_goto (tgt := 21) dX5_hasClass_17 rfl ?_
      exact k_retz dX5_hasClass_21 rfl (Or.inr rfl) rfl (by first | exact (zb_f (by omega)).symm | exact (zb_t (by omega)).symm)
set_option maxHeartbeats 4000000 in
theorem c_openBlocks (hsh : k_Main sh) (hI : k_Ty σ) {s : Int} (hs : -2147483648 ≤ s ∧ s < 2147483648) : k_C E mX5_openBlocks 2 [.ref 1, .int (iI (s))] sh σ 0 0 (k_ret (some (.int (iI (f_open σ s)))) sh σ) := by
  refine k_C_of (ls0 := [(0, .ref 1), (1, .int (iI (s)))]) rfl pnX5 (fun v hv => k_cat1 rfl hv) (Nat.le_of_ble_eq_true rfl) rfl ?_
  obtain ⟨t0, t1, t2, t3, t4, t5, t6, t7, t8, t9, t10, t11⟩ := id hI
  refine k_aload_n dX5_openBlocks_0 0 rfl rfl (by decide) ?_
  refine k_iload_n dX5_openBlocks_1 1 rfl rfl ?_
  refine k_callVr (st := []) (as := [.int (iI (s))]) dX5_openBlocks_2 oX5_hasSubject w_487 w_488 w_489 rfl (by omega) rfl (Nat.le_of_ble_eq_true rfl) (by decide) (s_1 hsh) rfl (c_hasSubject hsh hI ⟨by omega, by omega⟩) ?_
  refine k_if_eq (tgt := 19) dX5_openBlocks_5 rfl (zb_kr _) (fun h_1 => ?_) (fun h_1 => ?_)
  · have h_1 := zb_0.mp h_1
    refine k_iconst (v := 0) dX5_openBlocks_19 rfl ?_
    exact k_reti dX5_openBlocks_20 rfl rfl (by first | exact (if_pos (by omega)).symm | exact (if_neg (by omega)).symm)
  · have h_1 := zb_n0.mp h_1
    refine k_aload_n dX5_openBlocks_8 0 rfl rfl (by decide) ?_
    refine k_get (kf := 4) (v := .ref 3) dX5_openBlocks_9 kcX5 w_144 (by decide) (by decide) (s_1 hsh) rfl rfl ?_
    refine k_iload_n dX5_openBlocks_12 1 rfl rfl ?_
    refine k_callSNr (st := []) (as := [.ref 3, .int (iI (s))]) dX5_openBlocks_13 oX7_read w_459 w_460 rfl (by omega) rfl (Nat.le_of_ble_eq_true rfl) (c_readIn (by decide) (s_3 hsh) (by decide) (by omega) (by omega)) ?_
    refine k_goto (tgt := 20) dX5_openBlocks_16 rfl ?_
    exact k_reti dX5_openBlocks_20 rfl rfl (by first | exact (if_pos (by omega)).symm | exact (if_neg (by omega)).symm)
set_option maxHeartbeats 4000000 in
theorem c_roster (hsh : k_Main sh) (hI : k_Ty σ) {s b : Int} (hs : -2147483648 ≤ s ∧ s < 2147483648) (hb : -2147483648 ≤ b ∧ b < 2147483648) : k_C E mX5_roster 2 [.ref 1, .int (iI (s)), .int (iI (b))] sh σ 0 0 (k_ret (some (.int (iI (f_roster σ s b)))) sh σ) := by
  refine k_C_of (ls0 := [(0, .ref 1), (1, .int (iI (s))), (2, .int (iI (b)))]) rfl pnX5 (fun v hv => k_cat1 rfl hv) (Nat.le_of_ble_eq_true rfl) rfl ?_
  obtain ⟨t0, t1, t2, t3, t4, t5, t6, t7, t8, t9, t10, t11⟩ := id hI
  refine k_iload_n dX5_roster_0 1 rfl rfl ?_
  refine k_if_lt (tgt := 23) dX5_roster_1 rfl ⟨by omega, by omega⟩ (fun h_1 => ?_) (fun h_1 => ?_)
  · refine k_iconst (v := 0) dX5_roster_23 rfl ?_
    refine k_istore_n (ls' := [(0, .ref 1), (1, .int (iI (s))), (2, .int (iI (b))), (3, .int (iI (0)))]) dX5_roster_24 rfl (by decide) rfl rfl ?_
    refine k_iload_n dX5_roster_25 3 rfl rfl ?_
    refine k_if_eq (tgt := 44) dX5_roster_26 rfl ⟨by decide, by decide⟩ (fun h_2 => ?_) (fun h_2 => absurd h_2 (by decide))
    refine k_iconst (v := 0) dX5_roster_44 rfl ?_
    exact k_reti dX5_roster_45 rfl rfl (by first | exact (if_pos (by omega)).symm | exact (if_neg (by omega)).symm)
  · refine k_iload_n dX5_roster_4 1 rfl rfl ?_
    refine k_bipush (v := 7) dX5_roster_5 (by decide) ?_
    refine k_icmp_ge (tgt := 23) dX5_roster_7 rfl ⟨by omega, by omega⟩ ⟨by decide, by decide⟩ (fun h_3 => ?_) (fun h_3 => ?_)
    · refine k_iconst (v := 0) dX5_roster_23 rfl ?_
      refine k_istore_n (ls' := [(0, .ref 1), (1, .int (iI (s))), (2, .int (iI (b))), (3, .int (iI (0)))]) dX5_roster_24 rfl (by decide) rfl rfl ?_
      refine k_iload_n dX5_roster_25 3 rfl rfl ?_
      refine k_if_eq (tgt := 44) dX5_roster_26 rfl ⟨by decide, by decide⟩ (fun h_4 => ?_) (fun h_4 => absurd h_4 (by decide))
      refine k_iconst (v := 0) dX5_roster_44 rfl ?_
      exact k_reti dX5_roster_45 rfl rfl (by first | exact (if_pos (by omega)).symm | exact (if_neg (by omega)).symm)
    · refine k_iload_n dX5_roster_10 2 rfl rfl ?_
      refine k_if_lt (tgt := 23) dX5_roster_11 rfl ⟨by omega, by omega⟩ (fun h_5 => ?_) (fun h_5 => ?_)
      · refine k_iconst (v := 0) dX5_roster_23 rfl ?_
        refine k_istore_n (ls' := [(0, .ref 1), (1, .int (iI (s))), (2, .int (iI (b))), (3, .int (iI (0)))]) dX5_roster_24 rfl (by decide) rfl rfl ?_
        refine k_iload_n dX5_roster_25 3 rfl rfl ?_
        refine k_if_eq (tgt := 44) dX5_roster_26 rfl ⟨by decide, by decide⟩ (fun h_6 => ?_) (fun h_6 => absurd h_6 (by decide))
        refine k_iconst (v := 0) dX5_roster_44 rfl ?_
        exact k_reti dX5_roster_45 rfl rfl (by first | exact (if_pos (by omega)).symm | exact (if_neg (by omega)).symm)
      · refine k_iload_n dX5_roster_14 2 rfl rfl ?_
        refine k_iconst (v := 4) dX5_roster_15 rfl ?_
        refine k_icmp_ge (tgt := 23) dX5_roster_16 rfl ⟨by omega, by omega⟩ ⟨by decide, by decide⟩ (fun h_7 => ?_) (fun h_7 => ?_)
        · refine k_iconst (v := 0) dX5_roster_23 rfl ?_
          refine k_istore_n (ls' := [(0, .ref 1), (1, .int (iI (s))), (2, .int (iI (b))), (3, .int (iI (0)))]) dX5_roster_24 rfl (by decide) rfl rfl ?_
          refine k_iload_n dX5_roster_25 3 rfl rfl ?_
          refine k_if_eq (tgt := 44) dX5_roster_26 rfl ⟨by decide, by decide⟩ (fun h_8 => ?_) (fun h_8 => absurd h_8 (by decide))
          refine k_iconst (v := 0) dX5_roster_44 rfl ?_
          exact k_reti dX5_roster_45 rfl rfl (by first | exact (if_pos (by omega)).symm | exact (if_neg (by omega)).symm)
        · refine k_iconst (v := 1) dX5_roster_19 rfl ?_
          refine k_goto (tgt := 24) dX5_roster_20 rfl ?_
          refine k_istore_n (ls' := [(0, .ref 1), (1, .int (iI (s))), (2, .int (iI (b))), (3, .int (iI (1)))]) dX5_roster_24 rfl (by decide) rfl rfl ?_
          refine k_iload_n dX5_roster_25 3 rfl rfl ?_
          refine k_if_eq (tgt := 44) dX5_roster_26 rfl ⟨by decide, by decide⟩ (fun h_9 => absurd h_9 (by decide)) (fun h_9 => ?_)
          refine k_aload_n dX5_roster_29 0 rfl rfl (by decide) ?_
          refine k_get (kf := 5) (v := .ref 4) dX5_roster_30 kcX5 w_145 (by decide) (by decide) (s_1 hsh) rfl rfl ?_
          refine k_iload_n dX5_roster_33 1 rfl rfl ?_
          refine k_iconst (v := 4) dX5_roster_34 rfl ?_
          refine k_imul dX5_roster_35 ?_
          refine k_iload_n dX5_roster_36 2 rfl rfl ?_
          refine k_iadd dX5_roster_37 ?_
          refine k_callSNr (st := []) (as := [.ref 4, .int (iI ((s * 4) + b))]) dX5_roster_38 oX7_read w_459 w_460 rfl (by omega) rfl (Nat.le_of_ble_eq_true rfl) (c_readIn (by decide) (s_4 hsh) (by decide) (by omega) (by omega)) ?_
          refine k_goto (tgt := 45) dX5_roster_41 rfl ?_
          exact k_reti dX5_roster_45 rfl rfl (by first | exact (if_pos (by omega)).symm | exact (if_neg (by omega)).symm)
set_option maxHeartbeats 4000000 in
theorem c_busyPupils (hsh : k_Main sh) (hI : k_Ty σ) {b : Int} (hb : -2147483648 ≤ b ∧ b < 2147483648) : k_C E mX5_busyPupils 3 [.ref 1, .int (iI (b))] sh σ 0 0 (k_ret (some (.int (iI (f_busy σ b)))) sh σ) := by
  refine k_C_of (ls0 := [(0, .ref 1), (1, .int (iI (b)))]) rfl pnX5 (fun v hv => k_cat1 rfl hv) (Nat.le_of_ble_eq_true rfl) rfl ?_
  obtain ⟨t0, t1, t2, t3, t4, t5, t6, t7, t8, t9, t10, t11⟩ := id hI
  refine k_iconst (v := 0) dX5_busyPupils_0 rfl ?_
  refine k_istore_n (ls' := [(0, .ref 1), (1, .int (iI (b))), (2, .int (iI (0)))]) dX5_busyPupils_1 rfl (by decide) rfl rfl ?_
  refine k_iconst (v := 0) dX5_busyPupils_2 rfl ?_
  refine k_istore_n (ls' := [(0, .ref 1), (1, .int (iI (b))), (2, .int (iI (0))), (3, .int (iI (0)))]) dX5_busyPupils_3 rfl (by decide) rfl rfl ?_
  refine k_down (P := fun i4 : Nat => k_V E mX5_busyPupils _ 4 [(0, .ref 1), (1, .int (iI (b))), (2, .int (iI (f_busyN σ b i4))), (3, .int (iI ((i4 : Int))))] [] sh σ _ _ _) ((σ 1 0).toNat) ?_ ?_
  · skip
    have q0 := f_busyN_r hI b ((σ 1 0).toNat)
    have q1 := f_roster_r hI (((σ 1 0).toNat) : Int) b
    refine k_iload_n dX5_busyPupils_4 3 rfl rfl ?_
    refine k_aload_n dX5_busyPupils_5 0 rfl rfl (by decide) ?_
    refine k_get (kf := 0) (v := .int (iI (σ 1 0))) dX5_busyPupils_6 kcX5 w_131 (by decide) (by decide) (s_1 hsh) rfl rfl ?_
    refine k_icmp_ge (tgt := 27) dX5_busyPupils_9 rfl ⟨by omega, by omega⟩ ⟨by omega, by omega⟩ (fun h_1 => ?_) (fun h_1 => absurd h_1 (by omega))
    refine k_iload_n dX5_busyPupils_27 2 rfl rfl ?_
    exact k_reti dX5_busyPupils_28 rfl rfl (by rfl)
  · intro i4 hi4 ih4
    have q0 := f_busyN_r hI b i4
    have q1 := f_roster_r hI (i4 : Int) b
    refine k_iload_n dX5_busyPupils_4 3 rfl rfl ?_
    refine k_aload_n dX5_busyPupils_5 0 rfl rfl (by decide) ?_
    refine k_get (kf := 0) (v := .int (iI (σ 1 0))) dX5_busyPupils_6 kcX5 w_131 (by decide) (by decide) (s_1 hsh) rfl rfl ?_
    refine k_icmp_ge (tgt := 27) dX5_busyPupils_9 rfl ⟨by omega, by omega⟩ ⟨by omega, by omega⟩ (fun h_2 => absurd h_2 (by omega)) (fun h_2 => ?_)
    refine k_iload_n dX5_busyPupils_12 2 rfl rfl ?_
    refine k_aload_n dX5_busyPupils_13 0 rfl rfl (by decide) ?_
    refine k_iload_n dX5_busyPupils_14 3 rfl rfl ?_
    refine k_iload_n dX5_busyPupils_15 1 rfl rfl ?_
    refine k_callVr (st := [.int (iI (f_busyN σ b i4))]) (as := [.int (iI ((i4 : Int))), .int (iI (b))]) dX5_busyPupils_16 oX5_roster w_455 w_456 w_457 rfl (by omega) rfl (Nat.le_of_ble_eq_true rfl) (by decide) (s_1 hsh) rfl (c_roster hsh hI ⟨by omega, by omega⟩ ⟨by omega, by omega⟩) ?_
    refine k_ior (v := (iI (z_or (f_busyN σ b i4) (f_roster σ ((i4 : Int)) (b))))) dX5_busyPupils_19 (z_orI (by omega) (by omega)) ?_
    refine k_istore_n (ls' := [(0, .ref 1), (1, .int (iI (b))), (2, .int (iI (z_or (f_busyN σ b i4) (f_roster σ ((i4 : Int)) (b))))), (3, .int (iI ((i4 : Int))))]) dX5_busyPupils_20 rfl (by decide) rfl rfl ?_
    refine k_iinc (ls' := [(0, .ref 1), (1, .int (iI (b))), (2, .int (iI (z_or (f_busyN σ b i4) (f_roster σ ((i4 : Int)) (b))))), (3, .int (iI ((i4 : Int) + 1)))]) dX5_busyPupils_21 3 rfl (by decide) rfl rfl ?_
    refine k_goto (tgt := 4) dX5_busyPupils_24 rfl ?_
    exact ih4
theorem f_busy_r (hI : k_Ty σ) (b : Int) : 0 ≤ f_busy σ b ∧ f_busy σ b < 4096 := f_busyN_r hI b _
theorem f_holds {x i : Int} (h0 : 0 ≤ i) (h1 : i < 16) : zb (0 ≤ i ∧ i < 16 ∧ z_bit x i = true) = zb (z_bit x i = true) := by
  by_cases h : z_bit x i = true
  · rw [zb_t h, zb_t ⟨h0, h1, h⟩]
  · rw [zb_f h, zb_f (fun q => h q.2.2)]
set_option maxHeartbeats 4000000 in
theorem c_freeBlocks (hsh : k_Main sh) (hI : k_Ty σ) {p : Int} (hp : -2147483648 ≤ p ∧ p < 2147483648) (hp0 : 0 ≤ p ∧ p < 12) : k_C E mX5_freeBlocks 4 [.ref 1, .int (iI (p))] sh σ 0 0 (k_ret (some (.int (iI (f_free σ p)))) sh σ) := by
  refine k_C_of (ls0 := [(0, .ref 1), (1, .int (iI (p)))]) rfl pnX5 (fun v hv => k_cat1 rfl hv) (Nat.le_of_ble_eq_true rfl) rfl ?_
  obtain ⟨t0, t1, t2, t3, t4, t5, t6, t7, t8, t9, t10, t11⟩ := id hI
  refine k_iconst (v := 0) dX5_freeBlocks_0 rfl ?_
  refine k_istore_n (ls' := [(0, .ref 1), (1, .int (iI (p))), (2, .int (iI (0)))]) dX5_freeBlocks_1 rfl (by decide) rfl rfl ?_
  refine k_iconst (v := 0) dX5_freeBlocks_2 rfl ?_
  refine k_istore_n (ls' := [(0, .ref 1), (1, .int (iI (p))), (2, .int (iI (0))), (3, .int (iI (0)))]) dX5_freeBlocks_3 rfl (by decide) rfl rfl ?_
  refine k_down (P := fun i4 : Nat => k_V E mX5_freeBlocks _ 4 [(0, .ref 1), (1, .int (iI (p))), (2, .int (iI (f_freeN σ p i4))), (3, .int (iI ((i4 : Int))))] [] sh σ _ _ _) ((σ 1 1).toNat) ?_ ?_
  · skip
    have q0 := f_free_r σ p ((σ 1 1).toNat) (by omega)
    have q1 := f_busy_r hI (((σ 1 1).toNat) : Int)
    refine k_iload_n dX5_freeBlocks_4 3 rfl rfl ?_
    refine k_aload_n dX5_freeBlocks_5 0 rfl rfl (by decide) ?_
    refine k_get (kf := 1) (v := .int (iI (σ 1 1))) dX5_freeBlocks_6 kcX5 w_135 (by decide) (by decide) (s_1 hsh) rfl rfl ?_
    refine k_icmp_ge (tgt := 40) dX5_freeBlocks_9 rfl ⟨by omega, by omega⟩ ⟨by omega, by omega⟩ (fun h_1 => ?_) (fun h_1 => absurd h_1 (by omega))
    refine k_iload_n dX5_freeBlocks_40 2 rfl rfl ?_
    exact k_reti dX5_freeBlocks_41 rfl rfl (by rfl)
  · intro i4 hi4 ih4
    have q0 := f_free_r σ p i4 (by omega)
    have q1 := f_busy_r hI (i4 : Int)
    refine k_iload_n dX5_freeBlocks_4 3 rfl rfl ?_
    refine k_aload_n dX5_freeBlocks_5 0 rfl rfl (by decide) ?_
    refine k_get (kf := 1) (v := .int (iI (σ 1 1))) dX5_freeBlocks_6 kcX5 w_135 (by decide) (by decide) (s_1 hsh) rfl rfl ?_
    refine k_icmp_ge (tgt := 40) dX5_freeBlocks_9 rfl ⟨by omega, by omega⟩ ⟨by omega, by omega⟩ (fun h_2 => absurd h_2 (by omega)) (fun h_2 => ?_)
    refine k_iload_n dX5_freeBlocks_12 2 rfl rfl ?_
    refine k_aload_n dX5_freeBlocks_13 0 rfl rfl (by decide) ?_
    refine k_iload_n dX5_freeBlocks_14 3 rfl rfl ?_
    refine k_callVr (st := [.int (iI (f_freeN σ p i4))]) (as := [.int (iI ((i4 : Int)))]) dX5_freeBlocks_15 oX5_busyPupils w_451 w_452 w_453 rfl (by omega) rfl (Nat.le_of_ble_eq_true rfl) (by decide) (s_1 hsh) rfl (c_busyPupils hsh hI ⟨by omega, by omega⟩) ?_
    refine k_iload_n dX5_freeBlocks_18 1 rfl rfl ?_
    refine k_callSNr (st := [.int (iI (f_freeN σ p i4))]) (as := [.int (iI (f_busy σ ((i4 : Int)))), .int (iI (p))]) dX5_freeBlocks_19 oX7_holds w_462 w_463 rfl (by omega) rfl (Nat.le_of_ble_eq_true rfl) (c_holds (by omega) (by omega)) ?_
    refine k_eqst (congrArg (fun z : Int => Value.int (iI z) :: [.int (iI (f_freeN σ p i4))]) (show zb (z_bit (f_busy σ (i4 : Int)) (p) = true) = zb (0 ≤ p ∧ p < 16 ∧ z_bit (f_busy σ ((i4 : Int))) (p) = true) from (f_holds (by omega) (by omega)).symm)) ?_
    refine k_if_eq (tgt := 29) dX5_freeBlocks_22 rfl (zb_kr _) (fun h_3 => ?_) (fun h_3 => ?_)
    · have h_3 := zb_0.mp h_3
      refine k_iconst (v := 1) dX5_freeBlocks_29 rfl ?_
      refine k_iload_n dX5_freeBlocks_30 3 rfl rfl ?_
      refine k_ishl (v := (iI (z_one ((i4 : Int))))) dX5_freeBlocks_31 (z_oneI (by omega) (by omega)) ?_
      refine k_ior (v := (iI (z_or (f_freeN σ p i4) (z_one ((i4 : Int)))))) dX5_freeBlocks_32 (z_orI (by omega) (Int.le_of_lt (z_one_pos _))) ?_
      refine k_istore_n (ls' := [(0, .ref 1), (1, .int (iI (p))), (2, .int (iI (z_or (f_freeN σ p i4) (z_one ((i4 : Int)))))), (3, .int (iI ((i4 : Int))))]) dX5_freeBlocks_33 rfl (by decide) rfl rfl ?_
      refine k_iinc (ls' := [(0, .ref 1), (1, .int (iI (p))), (2, .int (iI (z_or (f_freeN σ p i4) (z_one ((i4 : Int)))))), (3, .int (iI ((i4 : Int) + 1)))]) dX5_freeBlocks_34 3 rfl (by decide) rfl rfl ?_
      refine k_goto (tgt := 4) dX5_freeBlocks_37 rfl ?_
      refine k_lrw (q := 2) (j := 2) (a' := f_freeN σ p (i4 + 1)) (ls' := [(0, .ref 1), (1, .int (iI (p))), (2, .int (iI (f_freeN σ p (i4 + 1)))), (3, .int (iI ((i4 : Int) + 1)))]) rfl (by show z_or (f_freeN σ p i4) _ = z_or (f_freeN σ p i4) _; rw [if_neg h_3]) rfl ?_
      exact ih4
    · have h_3 := zb_n0.mp h_3
      refine k_iconst (v := 0) dX5_freeBlocks_25 rfl ?_
      refine k_goto (tgt := 32) dX5_freeBlocks_26 rfl ?_
      refine k_ior (v := (iI (z_or (f_freeN σ p i4) (0)))) dX5_freeBlocks_32 (z_orI (by omega) (by omega)) ?_
      refine k_istore_n (ls' := [(0, .ref 1), (1, .int (iI (p))), (2, .int (iI (z_or (f_freeN σ p i4) (0)))), (3, .int (iI ((i4 : Int))))]) dX5_freeBlocks_33 rfl (by decide) rfl rfl ?_
      refine k_iinc (ls' := [(0, .ref 1), (1, .int (iI (p))), (2, .int (iI (z_or (f_freeN σ p i4) (0)))), (3, .int (iI ((i4 : Int) + 1)))]) dX5_freeBlocks_34 3 rfl (by decide) rfl rfl ?_
      refine k_goto (tgt := 4) dX5_freeBlocks_37 rfl ?_
      refine k_lrw (q := 2) (j := 2) (a' := f_freeN σ p (i4 + 1)) (ls' := [(0, .ref 1), (1, .int (iI (p))), (2, .int (iI (f_freeN σ p (i4 + 1)))), (3, .int (iI ((i4 : Int) + 1)))]) rfl (by show z_or (f_freeN σ p i4) _ = z_or (f_freeN σ p i4) _; rw [if_pos h_3]) rfl ?_
      exact ih4
set_option maxHeartbeats 4000000 in
theorem c_lessonsOf (hsh : k_Main sh) (hI : k_Ty σ) {p : Int} (hp : -2147483648 ≤ p ∧ p < 2147483648) (hp0 : 0 ≤ p ∧ p < 12) : k_C E mX5_lessonsOf 4 [.ref 1, .int (iI (p))] sh σ 0 0 (k_ret (some (.int (iI (f_lessons σ p)))) sh σ) := by
  refine k_C_of (ls0 := [(0, .ref 1), (1, .int (iI (p)))]) rfl pnX5 (fun v hv => k_cat1 rfl hv) (Nat.le_of_ble_eq_true rfl) rfl ?_
  obtain ⟨t0, t1, t2, t3, t4, t5, t6, t7, t8, t9, t10, t11⟩ := id hI
  refine k_iconst (v := 0) dX5_lessonsOf_0 rfl ?_
  refine k_istore_n (ls' := [(0, .ref 1), (1, .int (iI (p))), (2, .int (iI (0)))]) dX5_lessonsOf_1 rfl (by decide) rfl rfl ?_
  refine k_iconst (v := 0) dX5_lessonsOf_2 rfl ?_
  refine k_istore_n (ls' := [(0, .ref 1), (1, .int (iI (p))), (2, .int (iI (0))), (3, .int (iI (0)))]) dX5_lessonsOf_3 rfl (by decide) rfl rfl ?_
  refine k_down (P := fun i4 : Nat => k_V E mX5_lessonsOf _ 4 [(0, .ref 1), (1, .int (iI (p))), (2, .int (iI (f_lessonsN σ p i4))), (3, .int (iI ((i4 : Int))))] [] sh σ _ _ _) ((σ 1 1).toNat) ?_ ?_
  · skip
    have q0 := f_lessonsN_r σ p ((σ 1 1).toNat)
    have q1 := f_busy_r hI (((σ 1 1).toNat) : Int)
    refine k_iload_n dX5_lessonsOf_4 3 rfl rfl ?_
    refine k_aload_n dX5_lessonsOf_5 0 rfl rfl (by decide) ?_
    refine k_get (kf := 1) (v := .int (iI (σ 1 1))) dX5_lessonsOf_6 kcX5 w_135 (by decide) (by decide) (s_1 hsh) rfl rfl ?_
    refine k_icmp_ge (tgt := 38) dX5_lessonsOf_9 rfl ⟨by omega, by omega⟩ ⟨by omega, by omega⟩ (fun h_1 => ?_) (fun h_1 => absurd h_1 (by omega))
    refine k_iload_n dX5_lessonsOf_38 2 rfl rfl ?_
    exact k_reti dX5_lessonsOf_39 rfl rfl (by rfl)
  · intro i4 hi4 ih4
    have q0 := f_lessonsN_r σ p i4
    have q1 := f_busy_r hI (i4 : Int)
    refine k_iload_n dX5_lessonsOf_4 3 rfl rfl ?_
    refine k_aload_n dX5_lessonsOf_5 0 rfl rfl (by decide) ?_
    refine k_get (kf := 1) (v := .int (iI (σ 1 1))) dX5_lessonsOf_6 kcX5 w_135 (by decide) (by decide) (s_1 hsh) rfl rfl ?_
    refine k_icmp_ge (tgt := 38) dX5_lessonsOf_9 rfl ⟨by omega, by omega⟩ ⟨by omega, by omega⟩ (fun h_2 => absurd h_2 (by omega)) (fun h_2 => ?_)
    refine k_iload_n dX5_lessonsOf_12 2 rfl rfl ?_
    refine k_aload_n dX5_lessonsOf_13 0 rfl rfl (by decide) ?_
    refine k_iload_n dX5_lessonsOf_14 3 rfl rfl ?_
    refine k_callVr (st := [.int (iI (f_lessonsN σ p i4))]) (as := [.int (iI ((i4 : Int)))]) dX5_lessonsOf_15 oX5_busyPupils w_451 w_452 w_453 rfl (by omega) rfl (Nat.le_of_ble_eq_true rfl) (by decide) (s_1 hsh) rfl (c_busyPupils hsh hI ⟨by omega, by omega⟩) ?_
    refine k_iload_n dX5_lessonsOf_18 1 rfl rfl ?_
    refine k_callSNr (st := [.int (iI (f_lessonsN σ p i4))]) (as := [.int (iI (f_busy σ ((i4 : Int)))), .int (iI (p))]) dX5_lessonsOf_19 oX7_holds w_462 w_463 rfl (by omega) rfl (Nat.le_of_ble_eq_true rfl) (c_holds (by omega) (by omega)) ?_
    refine k_eqst (congrArg (fun z : Int => Value.int (iI z) :: [.int (iI (f_lessonsN σ p i4))]) (show zb (z_bit (f_busy σ (i4 : Int)) (p) = true) = zb (0 ≤ p ∧ p < 16 ∧ z_bit (f_busy σ ((i4 : Int))) (p) = true) from (f_holds (by omega) (by omega)).symm)) ?_
    refine k_if_eq (tgt := 29) dX5_lessonsOf_22 rfl (zb_kr _) (fun h_3 => ?_) (fun h_3 => ?_)
    · have h_3 := zb_0.mp h_3
      refine k_iconst (v := 0) dX5_lessonsOf_29 rfl ?_
      refine k_iadd dX5_lessonsOf_30 ?_
      refine k_istore_n (ls' := [(0, .ref 1), (1, .int (iI (p))), (2, .int (iI ((f_lessonsN σ p i4) + 0))), (3, .int (iI ((i4 : Int))))]) dX5_lessonsOf_31 rfl (by decide) rfl rfl ?_
      refine k_iinc (ls' := [(0, .ref 1), (1, .int (iI (p))), (2, .int (iI ((f_lessonsN σ p i4) + 0))), (3, .int (iI ((i4 : Int) + 1)))]) dX5_lessonsOf_32 3 rfl (by decide) rfl rfl ?_
      refine k_goto (tgt := 4) dX5_lessonsOf_35 rfl ?_
      refine k_lrw (q := 2) (j := 2) (a' := f_lessonsN σ p (i4 + 1)) (ls' := [(0, .ref 1), (1, .int (iI (p))), (2, .int (iI (f_lessonsN σ p (i4 + 1)))), (3, .int (iI ((i4 : Int) + 1)))]) rfl (by show f_lessonsN σ p i4 + _ = f_lessonsN σ p i4 + zb _; rw [zb_f h_3]) rfl ?_
      exact ih4
    · have h_3 := zb_n0.mp h_3
      refine k_iconst (v := 1) dX5_lessonsOf_25 rfl ?_
      refine k_goto (tgt := 30) dX5_lessonsOf_26 rfl ?_
      refine k_iadd dX5_lessonsOf_30 ?_
      refine k_istore_n (ls' := [(0, .ref 1), (1, .int (iI (p))), (2, .int (iI ((f_lessonsN σ p i4) + 1))), (3, .int (iI ((i4 : Int))))]) dX5_lessonsOf_31 rfl (by decide) rfl rfl ?_
      refine k_iinc (ls' := [(0, .ref 1), (1, .int (iI (p))), (2, .int (iI ((f_lessonsN σ p i4) + 1))), (3, .int (iI ((i4 : Int) + 1)))]) dX5_lessonsOf_32 3 rfl (by decide) rfl rfl ?_
      refine k_goto (tgt := 4) dX5_lessonsOf_35 rfl ?_
      refine k_lrw (q := 2) (j := 2) (a' := f_lessonsN σ p (i4 + 1)) (ls' := [(0, .ref 1), (1, .int (iI (p))), (2, .int (iI (f_lessonsN σ p (i4 + 1)))), (3, .int (iI ((i4 : Int) + 1)))]) rfl (by show f_lessonsN σ p i4 + _ = f_lessonsN σ p i4 + zb _; rw [zb_t h_3]) rfl ?_
      exact ih4
def f_lessAllN (σ : Nat → Nat → Int) (n : Nat) : Int := k_fold n (fun b a => a + z_cnt (f_busy σ (b : Int))) 0
def f_lessAll (σ : Nat → Nat → Int) : Int := f_lessAllN σ (σ 1 1).toNat
theorem f_lessAllN_r (σ : Nat → Nat → Int) : ∀ n : Nat, 0 ≤ f_lessAllN σ n ∧ f_lessAllN σ n ≤ 16 * n
  | 0 => ⟨Int.le_refl 0, Int.le_refl 0⟩
  | n + 1 => by
    have ih := f_lessAllN_r σ n
    have h2 := z_cnt_r (f_busy σ (n : Int))
    have e : f_lessAllN σ (n + 1) = f_lessAllN σ n + z_cnt (f_busy σ (n : Int)) := rfl
    rw [e]
    omega
def f_openClN (σ : Nat → Nat → Int) (n : Nat) : Int := k_fold n (fun b a => a + z_cnt (f_open σ (b : Int))) 0
def f_openCl (σ : Nat → Nat → Int) : Int := f_openClN σ (σ 1 0).toNat
def f_largestN (σ : Nat → Nat → Int) (s : Int) (n : Nat) : Int := k_fold n (fun b a => z_max a (z_cnt (f_roster σ s (b : Int)))) 0
def f_largest (σ : Nat → Nat → Int) (s : Int) : Int := f_largestN σ s (σ 1 1).toNat
theorem f_largestN_r (σ : Nat → Nat → Int) (s : Int) : ∀ n : Nat, 0 ≤ f_largestN σ s n ∧ f_largestN σ s n ≤ 16
  | 0 => ⟨Int.le_refl 0, show (0 : Int) ≤ 16 by decide⟩
  | n + 1 => by
    have ih := f_largestN_r σ s n
    have h2 := z_cnt_r (f_roster σ s (n : Int))
    have e : f_largestN σ s (n + 1) = z_max (f_largestN σ s n) (z_cnt (f_roster σ s (n : Int))) := rfl
    rw [e]
    unfold z_max
    split <;> omega
def f_roomyN (σ : Nat → Nat → Int) (s x : Int) (n : Nat) : Int := k_fold n (fun b a => if z_bit (f_open σ s) (b : Int) = true ∧ z_cnt (z_diff (f_roster σ s (b : Int)) x) < f_read (σ 2) 7 s then z_or a (z_one (b : Int)) else a) 0
def f_roomy (σ : Nat → Nat → Int) (s x : Int) : Int := f_roomyN σ s x (σ 1 1).toNat
theorem f_roomyN_r (σ : Nat → Nat → Int) (s x : Int) : ∀ n : Nat, n ≤ 4 → 0 ≤ f_roomyN σ s x n ∧ f_roomyN σ s x n < 16
  | 0, _ => ⟨Int.le_refl 0, show (0 : Int) < 16 by decide⟩
  | n + 1, h => by
    have ih := f_roomyN_r σ s x n (by omega)
    have e : f_roomyN σ s x (n + 1) = if z_bit (f_open σ s) (n : Int) = true ∧ z_cnt (z_diff (f_roster σ s (n : Int)) x) < f_read (σ 2) 7 s then z_or (f_roomyN σ s x n) (z_one (n : Int)) else f_roomyN σ s x n := rfl
    rw [e]
    split
    · exact ⟨z_or_nn _ _, z_or_lt 4 ih.2 (z_one_lt 4 (by omega) (by omega))⟩
    · exact ih
theorem f_read_r {f : Nat → Int} {w : Nat} {lo hi i : Int} (h : ∀ j, lo ≤ f j ∧ f j ≤ hi) (hl : lo ≤ 0) (hh : 0 ≤ hi) : (lo ≤ f_read f w i ∨ f_read f w i = -1) ∧ f_read f w i ≤ hi := by
  unfold f_read
  split
  · exact ⟨Or.inl (h _).1, (h _).2⟩
  · exact ⟨Or.inr rfl, by omega⟩
abbrev f_clash (σ : Nat → Nat → Int) (s o : Int) : Prop := ∀ b : Nat, b < (σ 1 1).toNat → ¬ (z_bit (f_open σ s) (b : Int) = true ∧ z_diff (f_open σ o) (z_one (b : Int)) ≠ 0)
set_option maxHeartbeats 4000000 in
theorem c_lessonsOfAll (hsh : k_Main sh) (hI : k_Ty σ)  : k_C E mX5_lessonsOfAll 4 [.ref 1] sh σ 0 0 (k_ret (some (.int (iI (f_lessAll σ)))) sh σ) := by
  refine k_C_of (ls0 := [(0, .ref 1)]) rfl pnX5 (fun v hv => k_cat1 rfl hv) (Nat.le_of_ble_eq_true rfl) rfl ?_
  obtain ⟨t0, t1, t2, t3, t4, t5, t6, t7, t8, t9, t10, t11⟩ := id hI
  refine k_iconst (v := 0) dX5_lessonsOfAll_0 rfl ?_
  refine k_istore_n (ls' := [(0, .ref 1), (1, .int (iI (0)))]) dX5_lessonsOfAll_1 rfl (by decide) rfl rfl ?_
  refine k_iconst (v := 0) dX5_lessonsOfAll_2 rfl ?_
  refine k_istore_n (ls' := [(0, .ref 1), (1, .int (iI (0))), (2, .int (iI (0)))]) dX5_lessonsOfAll_3 rfl (by decide) rfl rfl ?_
  refine k_down (P := fun i4 : Nat => k_V E mX5_lessonsOfAll _ 4 [(0, .ref 1), (1, .int (iI (f_lessAllN σ i4))), (2, .int (iI ((i4 : Int))))] [] sh σ _ _ _) ((σ 1 1).toNat) ?_ ?_
  · skip
    have q0 := f_lessAllN_r σ ((σ 1 1).toNat)
    have q1 := f_busy_r hI (((σ 1 1).toNat) : Int)
    have q2 := z_cnt_r (f_busy σ (((σ 1 1).toNat) : Int))
    refine k_iload_n dX5_lessonsOfAll_4 2 rfl rfl ?_
    refine k_aload_n dX5_lessonsOfAll_5 0 rfl rfl (by decide) ?_
    refine k_get (kf := 1) (v := .int (iI (σ 1 1))) dX5_lessonsOfAll_6 kcX5 w_135 (by decide) (by decide) (s_1 hsh) rfl rfl ?_
    refine k_icmp_ge (tgt := 29) dX5_lessonsOfAll_9 rfl ⟨by omega, by omega⟩ ⟨by omega, by omega⟩ (fun h_1 => ?_) (fun h_1 => absurd h_1 (by omega))
    refine k_iload_n dX5_lessonsOfAll_29 1 rfl rfl ?_
    exact k_reti dX5_lessonsOfAll_30 rfl rfl (by rfl)
  · intro i4 hi4 ih4
    have q0 := f_lessAllN_r σ i4
    have q1 := f_busy_r hI (i4 : Int)
    have q2 := z_cnt_r (f_busy σ (i4 : Int))
    refine k_iload_n dX5_lessonsOfAll_4 2 rfl rfl ?_
    refine k_aload_n dX5_lessonsOfAll_5 0 rfl rfl (by decide) ?_
    refine k_get (kf := 1) (v := .int (iI (σ 1 1))) dX5_lessonsOfAll_6 kcX5 w_135 (by decide) (by decide) (s_1 hsh) rfl rfl ?_
    refine k_icmp_ge (tgt := 29) dX5_lessonsOfAll_9 rfl ⟨by omega, by omega⟩ ⟨by omega, by omega⟩ (fun h_2 => absurd h_2 (by omega)) (fun h_2 => ?_)
    refine k_iload_n dX5_lessonsOfAll_12 1 rfl rfl ?_
    refine k_aload_n dX5_lessonsOfAll_13 0 rfl rfl (by decide) ?_
    refine k_iload_n dX5_lessonsOfAll_14 2 rfl rfl ?_
    refine k_callVr (st := [.int (iI (f_lessAllN σ i4))]) (as := [.int (iI ((i4 : Int)))]) dX5_lessonsOfAll_15 oX5_busyPupils w_451 w_452 w_453 rfl (by omega) rfl (Nat.le_of_ble_eq_true rfl) (by decide) (s_1 hsh) rfl (c_busyPupils hsh hI ⟨by omega, by omega⟩) ?_
    refine k_callSr (st := [.int (iI (f_lessAllN σ i4))]) (as := [.int (iI (f_busy σ ((i4 : Int))))]) dX5_lessonsOfAll_18 oJ6_bitCount_0f7a4 w_491 w_492 rfl (by omega) rfl (Nat.le_of_ble_eq_true rfl) (c_bitCount ⟨by omega, by omega⟩) ?_
    refine k_iadd dX5_lessonsOfAll_21 ?_
    refine k_istore_n (ls' := [(0, .ref 1), (1, .int (iI ((f_lessAllN σ i4) + (z_cnt (f_busy σ ((i4 : Int))))))), (2, .int (iI ((i4 : Int))))]) dX5_lessonsOfAll_22 rfl (by decide) rfl rfl ?_
    refine k_iinc (ls' := [(0, .ref 1), (1, .int (iI ((f_lessAllN σ i4) + (z_cnt (f_busy σ ((i4 : Int))))))), (2, .int (iI ((i4 : Int) + 1)))]) dX5_lessonsOfAll_23 2 rfl (by decide) rfl rfl ?_
    refine k_goto (tgt := 4) dX5_lessonsOfAll_26 rfl ?_
    exact ih4
set_option maxHeartbeats 4000000 in
theorem c_roomyBlocks (hsh : k_Main sh) (hI : k_Ty σ) {s x : Int} (hs : -2147483648 ≤ s ∧ s < 2147483648) (hx : -2147483648 ≤ x ∧ x < 2147483648) (hx0 : 0 ≤ x) : k_C E mX5_roomyBlocks 4 [.ref 1, .int (iI (s)), .int (iI (x))] sh σ 0 0 (k_ret (some (.int (iI (f_roomy σ s x)))) sh σ) := by
  refine k_C_of (ls0 := [(0, .ref 1), (1, .int (iI (s))), (2, .int (iI (x)))]) rfl pnX5 (fun v hv => k_cat1 rfl hv) (Nat.le_of_ble_eq_true rfl) rfl ?_
  obtain ⟨t0, t1, t2, t3, t4, t5, t6, t7, t8, t9, t10, t11⟩ := id hI
  refine k_aload_n dX5_roomyBlocks_0 0 rfl rfl (by decide) ?_
  refine k_iload_n dX5_roomyBlocks_1 1 rfl rfl ?_
  refine k_callVr (st := []) (as := [.int (iI (s))]) dX5_roomyBlocks_2 oX5_openBlocks w_483 w_484 w_485 rfl (by omega) rfl (Nat.le_of_ble_eq_true rfl) (by decide) (s_1 hsh) rfl (c_openBlocks hsh hI ⟨by omega, by omega⟩) ?_
  refine k_istore_n (ls' := [(0, .ref 1), (1, .int (iI (s))), (2, .int (iI (x))), (3, .int (iI (f_open σ (s))))]) dX5_roomyBlocks_5 rfl (by decide) rfl rfl ?_
  refine k_iconst (v := 0) dX5_roomyBlocks_6 rfl ?_
  refine k_istore (ls' := [(0, .ref 1), (1, .int (iI (s))), (2, .int (iI (x))), (3, .int (iI (f_open σ (s)))), (4, .int (iI (0)))]) dX5_roomyBlocks_7 (by decide) rfl rfl ?_
  refine k_iconst (v := 0) dX5_roomyBlocks_9 rfl ?_
  refine k_istore (ls' := [(0, .ref 1), (1, .int (iI (s))), (2, .int (iI (x))), (3, .int (iI (f_open σ (s)))), (4, .int (iI (0))), (5, .int (iI (0)))]) dX5_roomyBlocks_10 (by decide) rfl rfl ?_
  refine k_down (P := fun i12 : Nat => k_V E mX5_roomyBlocks _ 12 [(0, .ref 1), (1, .int (iI (s))), (2, .int (iI (x))), (3, .int (iI (f_open σ (s)))), (4, .int (iI (f_roomyN σ s x i12))), (5, .int (iI ((i12 : Int))))] [] sh σ _ _ _) ((σ 1 1).toNat) ?_ ?_
  · skip
    have q0 := f_roomyN_r σ s x ((σ 1 1).toNat) (by omega)
    have q1 := f_roster_r hI s (((σ 1 1).toNat) : Int)
    have q3 := z_diff_nn (f_roster σ s (((σ 1 1).toNat) : Int)) x
    have q2 : z_diff (f_roster σ s (((σ 1 1).toNat) : Int)) x < 4096 := z_diff_lt 12 q1.2
    have q4 := z_cnt_r (z_diff (f_roster σ s (((σ 1 1).toNat) : Int)) x)
    have q5 := f_open_r hI s
    refine k_iload dX5_roomyBlocks_12 5 rfl ?_
    refine k_aload_n dX5_roomyBlocks_14 0 rfl rfl (by decide) ?_
    refine k_get (kf := 1) (v := .int (iI (σ 1 1))) dX5_roomyBlocks_15 kcX5 w_135 (by decide) (by decide) (s_1 hsh) rfl rfl ?_
    refine k_icmp_ge (tgt := 74) dX5_roomyBlocks_18 rfl ⟨by omega, by omega⟩ ⟨by omega, by omega⟩ (fun h_1 => ?_) (fun h_1 => absurd h_1 (by omega))
    refine k_iload dX5_roomyBlocks_74 4 rfl ?_
    exact k_reti dX5_roomyBlocks_76 rfl rfl (by rfl)
  · intro i12 hi12 ih12
    have q0 := f_roomyN_r σ s x i12 (by omega)
    have q1 := f_roster_r hI s (i12 : Int)
    have q3 := z_diff_nn (f_roster σ s (i12 : Int)) x
    have q2 : z_diff (f_roster σ s (i12 : Int)) x < 4096 := z_diff_lt 12 q1.2
    have q4 := z_cnt_r (z_diff (f_roster σ s (i12 : Int)) x)
    have q5 := f_open_r hI s
    refine k_iload dX5_roomyBlocks_12 5 rfl ?_
    refine k_aload_n dX5_roomyBlocks_14 0 rfl rfl (by decide) ?_
    refine k_get (kf := 1) (v := .int (iI (σ 1 1))) dX5_roomyBlocks_15 kcX5 w_135 (by decide) (by decide) (s_1 hsh) rfl rfl ?_
    refine k_icmp_ge (tgt := 74) dX5_roomyBlocks_18 rfl ⟨by omega, by omega⟩ ⟨by omega, by omega⟩ (fun h_2 => absurd h_2 (by omega)) (fun h_2 => ?_)
    refine k_aload_n dX5_roomyBlocks_21 0 rfl rfl (by decide) ?_
    refine k_iload_n dX5_roomyBlocks_22 1 rfl rfl ?_
    refine k_iload dX5_roomyBlocks_23 5 rfl ?_
    refine k_callVr (st := []) (as := [.int (iI (s)), .int (iI ((i12 : Int)))]) dX5_roomyBlocks_25 oX5_roster w_455 w_456 w_457 rfl (by omega) rfl (Nat.le_of_ble_eq_true rfl) (by decide) (s_1 hsh) rfl (c_roster hsh hI ⟨by omega, by omega⟩ ⟨by omega, by omega⟩) ?_
    refine k_iload_n dX5_roomyBlocks_28 2 rfl rfl ?_
    refine k_iconst (v := (-1)) dX5_roomyBlocks_29 rfl ?_
    refine k_ixor (v := (iI (x) ^^^ iI (-1))) dX5_roomyBlocks_30 rfl ?_
    refine k_iand (v := (iI (z_diff (f_roster σ (s) ((i12 : Int))) (x)))) dX5_roomyBlocks_31 (z_diffI (by omega) (by omega) (by omega)) ?_
    refine k_callSr (st := []) (as := [.int (iI (z_diff (f_roster σ (s) ((i12 : Int))) (x)))]) dX5_roomyBlocks_32 oJ6_bitCount_0f7a4 w_491 w_492 rfl (by omega) rfl (Nat.le_of_ble_eq_true rfl) (c_bitCount ⟨by omega, by omega⟩) ?_
    refine k_istore (ls' := [(0, .ref 1), (1, .int (iI (s))), (2, .int (iI (x))), (3, .int (iI (f_open σ (s)))), (4, .int (iI (f_roomyN σ s x i12))), (5, .int (iI ((i12 : Int)))), (6, .int (iI (z_cnt (z_diff (f_roster σ (s) ((i12 : Int))) (x)))))]) dX5_roomyBlocks_35 (by decide) rfl rfl ?_
    refine k_iload_n dX5_roomyBlocks_37 3 rfl rfl ?_
    refine k_iload dX5_roomyBlocks_38 5 rfl ?_
    refine k_callSNr (st := []) (as := [.int (iI (f_open σ (s))), .int (iI ((i12 : Int)))]) dX5_roomyBlocks_40 oX7_holds w_462 w_463 rfl (by omega) rfl (Nat.le_of_ble_eq_true rfl) (c_holds (by omega) (by omega)) ?_
    refine k_eqst (congrArg (fun z : Int => Value.int (iI z) :: []) (show zb (z_bit (f_open σ (s)) (i12 : Int) = true) = zb (0 ≤ ((i12 : Int)) ∧ ((i12 : Int)) < 16 ∧ z_bit (f_open σ (s)) ((i12 : Int)) = true) from (f_holds (by omega) (by omega)).symm)) ?_
    refine k_if_eq (tgt := 68) dX5_roomyBlocks_43 rfl (zb_kr _) (fun h_3 => ?_) (fun h_3 => ?_)
    · have h_3 := zb_0.mp h_3
      refine k_iinc (ls' := [(0, .ref 1), (1, .int (iI (s))), (2, .int (iI (x))), (3, .int (iI (f_open σ (s)))), (4, .int (iI (f_roomyN σ s x i12))), (5, .int (iI ((i12 : Int) + 1))), (6, .int (iI (z_cnt (z_diff (f_roster σ (s) ((i12 : Int))) (x)))))]) dX5_roomyBlocks_68 5 rfl (by decide) rfl rfl ?_
      refine k_goto (tgt := 12) dX5_roomyBlocks_71 rfl ?_
      refine k_dropr (ls' := [(0, .ref 1), (1, .int (iI (s))), (2, .int (iI (x))), (3, .int (iI (f_open σ (s)))), (4, .int (iI (f_roomyN σ s x i12))), (5, .int (iI ((i12 : Int) + 1)))]) (ex := [(6, .int (iI (z_cnt (z_diff (f_roster σ (s) ((i12 : Int))) (x)))))]) rfl ?_
      refine k_lrw (q := 4) (j := 4) (a' := f_roomyN σ s x (i12 + 1)) (ls' := [(0, .ref 1), (1, .int (iI (s))), (2, .int (iI (x))), (3, .int (iI (f_open σ (s)))), (4, .int (iI (f_roomyN σ s x (i12 + 1)))), (5, .int (iI ((i12 : Int) + 1)))]) rfl (by exact (if_neg (fun q => h_3 q.1)).symm) rfl ?_
      exact ih12
    · have h_3 := zb_n0.mp h_3
      refine k_iload dX5_roomyBlocks_46 6 rfl ?_
      refine k_aload_n dX5_roomyBlocks_48 0 rfl rfl (by decide) ?_
      refine k_get (kf := 3) (v := .ref 2) dX5_roomyBlocks_49 kcX5 w_142 (by decide) (by decide) (s_1 hsh) rfl rfl ?_
      refine k_iload_n dX5_roomyBlocks_52 1 rfl rfl ?_
      refine k_callSNr (st := [.int (iI (z_cnt (z_diff (f_roster σ (s) ((i12 : Int))) (x))))]) (as := [.ref 2, .int (iI (s))]) dX5_roomyBlocks_53 oX7_read w_459 w_460 rfl (by omega) rfl (Nat.le_of_ble_eq_true rfl) (c_read (by decide) (s_2 hsh) (by decide) (by omega)) ?_
      have q6 := (f_read_r (w := 7) (i := s) t3 (by decide) (by decide) : _)
      refine k_icmp_ge (tgt := 68) dX5_roomyBlocks_56 rfl ⟨by omega, by omega⟩ ⟨by omega, by omega⟩ (fun h_4 => ?_) (fun h_4 => ?_)
      · refine k_iinc (ls' := [(0, .ref 1), (1, .int (iI (s))), (2, .int (iI (x))), (3, .int (iI (f_open σ (s)))), (4, .int (iI (f_roomyN σ s x i12))), (5, .int (iI ((i12 : Int) + 1))), (6, .int (iI (z_cnt (z_diff (f_roster σ (s) ((i12 : Int))) (x)))))]) dX5_roomyBlocks_68 5 rfl (by decide) rfl rfl ?_
        refine k_goto (tgt := 12) dX5_roomyBlocks_71 rfl ?_
        refine k_dropr (ls' := [(0, .ref 1), (1, .int (iI (s))), (2, .int (iI (x))), (3, .int (iI (f_open σ (s)))), (4, .int (iI (f_roomyN σ s x i12))), (5, .int (iI ((i12 : Int) + 1)))]) (ex := [(6, .int (iI (z_cnt (z_diff (f_roster σ (s) ((i12 : Int))) (x)))))]) rfl ?_
        refine k_lrw (q := 4) (j := 4) (a' := f_roomyN σ s x (i12 + 1)) (ls' := [(0, .ref 1), (1, .int (iI (s))), (2, .int (iI (x))), (3, .int (iI (f_open σ (s)))), (4, .int (iI (f_roomyN σ s x (i12 + 1)))), (5, .int (iI ((i12 : Int) + 1)))]) rfl (by exact (if_neg (fun q => absurd q.2 (by omega))).symm) rfl ?_
        exact ih12
      · refine k_iload dX5_roomyBlocks_59 4 rfl ?_
        refine k_iconst (v := 1) dX5_roomyBlocks_61 rfl ?_
        refine k_iload dX5_roomyBlocks_62 5 rfl ?_
        refine k_ishl (v := (iI (z_one ((i12 : Int))))) dX5_roomyBlocks_64 (z_oneI (by omega) (by omega)) ?_
        refine k_ior (v := (iI (z_or (f_roomyN σ s x i12) (z_one ((i12 : Int)))))) dX5_roomyBlocks_65 (z_orI (by omega) (Int.le_of_lt (z_one_pos _))) ?_
        refine k_istore (ls' := [(0, .ref 1), (1, .int (iI (s))), (2, .int (iI (x))), (3, .int (iI (f_open σ (s)))), (4, .int (iI (z_or (f_roomyN σ s x i12) (z_one ((i12 : Int)))))), (5, .int (iI ((i12 : Int)))), (6, .int (iI (z_cnt (z_diff (f_roster σ (s) ((i12 : Int))) (x)))))]) dX5_roomyBlocks_66 (by decide) rfl rfl ?_
        refine k_iinc (ls' := [(0, .ref 1), (1, .int (iI (s))), (2, .int (iI (x))), (3, .int (iI (f_open σ (s)))), (4, .int (iI (z_or (f_roomyN σ s x i12) (z_one ((i12 : Int)))))), (5, .int (iI ((i12 : Int) + 1))), (6, .int (iI (z_cnt (z_diff (f_roster σ (s) ((i12 : Int))) (x)))))]) dX5_roomyBlocks_68 5 rfl (by decide) rfl rfl ?_
        refine k_goto (tgt := 12) dX5_roomyBlocks_71 rfl ?_
        refine k_dropr (ls' := [(0, .ref 1), (1, .int (iI (s))), (2, .int (iI (x))), (3, .int (iI (f_open σ (s)))), (4, .int (iI (z_or (f_roomyN σ s x i12) (z_one ((i12 : Int)))))), (5, .int (iI ((i12 : Int) + 1)))]) (ex := [(6, .int (iI (z_cnt (z_diff (f_roster σ (s) ((i12 : Int))) (x)))))]) rfl ?_
        refine k_lrw (q := 4) (j := 4) (a' := f_roomyN σ s x (i12 + 1)) (ls' := [(0, .ref 1), (1, .int (iI (s))), (2, .int (iI (x))), (3, .int (iI (f_open σ (s)))), (4, .int (iI (f_roomyN σ s x (i12 + 1)))), (5, .int (iI ((i12 : Int) + 1)))]) rfl (by exact (if_pos ⟨h_3, h_4⟩).symm) rfl ?_
        exact ih12
theorem k_Jstep {P : Nat → Bool} {i : Nat} (hJ : ∀ j, j < i → P j = false) (h : ¬ P i = true) : ∀ j, j < i + 1 → P j = false := fun j hj => by
  by_cases e : j = i
  · subst e; simpa using h
  · exact hJ j (by omega)
def f_wish (σ : Nat → Nat → Int) (p r : Int) : Int := if 0 ≤ r ∧ r < 3 then σ 6 (p * 3 + r).toNat else -1
def f_wishSetN (σ : Nat → Nat → Int) (p : Int) (n : Nat) : Int := k_fold n (fun r a => z_or a (z_one (σ 6 (p * 3 + (r : Int)).toNat))) 0
def f_wishSet (σ : Nat → Nat → Int) (p : Int) : Int := f_wishSetN σ p (σ 5 p.toNat).toNat
theorem f_wishSetN_r (hI : k_Ty σ) (p : Int) (n : Nat) : 0 ≤ f_wishSetN σ p n ∧ f_wishSetN σ p n < 128 :=
  k_fold_inv (P := fun x => 0 ≤ x ∧ x < 128) (by decide) (fun i x h => ⟨z_or_nn _ _, z_or_lt 7 h.2 (z_one_lt 7 (hI.2.2.2.2.2.2.2.1 _).2 (hI.2.2.2.2.2.2.2.1 _).1)⟩) n
def f_bothN (σ : Nat → Nat → Int) (s o : Int) (n : Nat) : Int := k_fold n (fun p a => a + zb (z_bit (f_wishSet σ (p : Int)) s = true ∧ z_bit (f_wishSet σ (p : Int)) o = true)) 0
def f_both (σ : Nat → Nat → Int) (s o : Int) : Int := f_bothN σ s o (σ 1 2).toNat
theorem f_bothN_r (σ : Nat → Nat → Int) (s o : Int) : ∀ n : Nat, 0 ≤ f_bothN σ s o n ∧ f_bothN σ s o n ≤ n
  | 0 => ⟨Int.le_refl 0, Int.le_refl 0⟩
  | n + 1 => by
    have ih := f_bothN_r σ s o n
    have h2 := zb_r (z_bit (f_wishSet σ (n : Int)) s = true ∧ z_bit (f_wishSet σ (n : Int)) o = true)
    have e : f_bothN σ s o (n + 1) = f_bothN σ s o n + zb (z_bit (f_wishSet σ (n : Int)) s = true ∧ z_bit (f_wishSet σ (n : Int)) o = true) := rfl
    rw [e]
    omega
abbrev f_attends (σ : Nat → Nat → Int) (p : Int) : Prop := 0 < σ 5 p.toNat ∧ ∀ r, r < (σ 5 p.toNat).toNat → f_taken σ p (f_wish σ p (r : Int)) ≠ -1
theorem f_wish_r (hI : k_Ty σ) (p r : Int) : -1 ≤ f_wish σ p r ∧ f_wish σ p r < 7 := by
  unfold f_wish
  have := hI.2.2.2.2.2.2.2.1 (p * 3 + r).toNat
  split <;> omega
theorem f_lesson_r (hI : k_Ty σ) (p b : Int) : -1 ≤ f_lesson σ p b ∧ f_lesson σ p b < σ 1 0 := by
  have := z_first_r (fun s => z_bit (f_roster σ (s : Int) b) p) (σ 1 0).toNat
  have h := hI.1
  unfold f_lesson
  omega
theorem f_taken_r (hI : k_Ty σ) (p s : Int) : -1 ≤ f_taken σ p s ∧ f_taken σ p s < σ 1 1 := by
  have := z_first_r (fun b => z_bit (f_roster σ s (b : Int)) p) (σ 1 1).toNat
  have h := hI.2.1
  unfold f_taken
  omega
set_option maxHeartbeats 4000000 in
theorem c_lesson (hsh : k_Main sh) (hI : k_Ty σ) {p b : Int} (hp : -2147483648 ≤ p ∧ p < 2147483648) (hb : -2147483648 ≤ b ∧ b < 2147483648) (hp0 : 0 ≤ p ∧ p < 12) : k_C E mX5_lesson 3 [.ref 1, .int (iI (p)), .int (iI (b))] sh σ 0 0 (k_ret (some (.int (iI (f_lesson σ p b)))) sh σ) := by
  refine k_C_of (ls0 := [(0, .ref 1), (1, .int (iI (p))), (2, .int (iI (b)))]) rfl pnX5 (fun v hv => k_cat1 rfl hv) (Nat.le_of_ble_eq_true rfl) rfl ?_
  obtain ⟨t0, t1, t2, t3, t4, t5, t6, t7, t8, t9, t10, t11⟩ := id hI
  refine k_iconst (v := 0) dX5_lesson_0 rfl ?_
  refine k_istore_n (ls' := [(0, .ref 1), (1, .int (iI (p))), (2, .int (iI (b))), (3, .int (iI (0)))]) dX5_lesson_1 rfl (by decide) rfl rfl ?_
  refine k_downI (P := fun i2 : Nat => k_V E mX5_lesson _ 2 [(0, .ref 1), (1, .int (iI (p))), (2, .int (iI (b))), (3, .int (iI ((i2 : Int))))] [] sh σ _ _ _) (J := fun i2 : Nat => ∀ j, j < i2 → (fun s : Nat => z_bit (f_roster σ (s : Int) b) p) j = false) ((σ 1 0).toNat) (fun j hj => absurd hj (Nat.not_lt_zero j)) ?_ ?_
  · intro hJ2
    have q1 := f_roster_r hI (((σ 1 0).toNat) : Int) b
    refine k_iload_n dX5_lesson_2 3 rfl rfl ?_
    refine k_aload_n dX5_lesson_3 0 rfl rfl (by decide) ?_
    refine k_get (kf := 0) (v := .int (iI (σ 1 0))) dX5_lesson_4 kcX5 w_131 (by decide) (by decide) (s_1 hsh) rfl rfl ?_
    refine k_icmp_ge (tgt := 31) dX5_lesson_7 rfl ⟨by omega, by omega⟩ ⟨by omega, by omega⟩ (fun h_1 => ?_) (fun h_1 => absurd h_1 (by omega))
    refine k_iconst (v := (-1)) dX5_lesson_31 rfl ?_
    exact k_reti dX5_lesson_32 rfl rfl (by exact (z_first_none _ hJ2).symm)
  · intro i2 hi2 hJ2 ih2
    have q1 := f_roster_r hI (i2 : Int) b
    refine k_iload_n dX5_lesson_2 3 rfl rfl ?_
    refine k_aload_n dX5_lesson_3 0 rfl rfl (by decide) ?_
    refine k_get (kf := 0) (v := .int (iI (σ 1 0))) dX5_lesson_4 kcX5 w_131 (by decide) (by decide) (s_1 hsh) rfl rfl ?_
    refine k_icmp_ge (tgt := 31) dX5_lesson_7 rfl ⟨by omega, by omega⟩ ⟨by omega, by omega⟩ (fun h_2 => absurd h_2 (by omega)) (fun h_2 => ?_)
    refine k_aload_n dX5_lesson_10 0 rfl rfl (by decide) ?_
    refine k_iload_n dX5_lesson_11 3 rfl rfl ?_
    refine k_iload_n dX5_lesson_12 2 rfl rfl ?_
    refine k_callVr (st := []) (as := [.int (iI ((i2 : Int))), .int (iI (b))]) dX5_lesson_13 oX5_roster w_455 w_456 w_457 rfl (by omega) rfl (Nat.le_of_ble_eq_true rfl) (by decide) (s_1 hsh) rfl (c_roster hsh hI ⟨by omega, by omega⟩ ⟨by omega, by omega⟩) ?_
    refine k_iload_n dX5_lesson_16 1 rfl rfl ?_
    refine k_callSNr (st := []) (as := [.int (iI (f_roster σ ((i2 : Int)) (b))), .int (iI (p))]) dX5_lesson_17 oX7_holds w_462 w_463 rfl (by omega) rfl (Nat.le_of_ble_eq_true rfl) (c_holds (by omega) (by omega)) ?_
    refine k_eqst (congrArg (fun z : Int => Value.int (iI z) :: []) (show zb (z_bit (f_roster σ (i2 : Int) b) (p) = true) = zb (0 ≤ p ∧ p < 16 ∧ z_bit (f_roster σ ((i2 : Int)) (b)) (p) = true) from (f_holds (by omega) (by omega)).symm)) ?_
    refine k_if_eq (tgt := 25) dX5_lesson_20 rfl (zb_kr _) (fun h_3 => ?_) (fun h_3 => ?_)
    · have h_3 := zb_0.mp h_3
      refine k_iinc (ls' := [(0, .ref 1), (1, .int (iI (p))), (2, .int (iI (b))), (3, .int (iI ((i2 : Int) + 1)))]) dX5_lesson_25 3 rfl (by decide) rfl rfl ?_
      refine k_goto (tgt := 2) dX5_lesson_28 rfl ?_
      exact ih2 (k_Jstep (P := fun s : Nat => z_bit (f_roster σ (s : Int) b) p) hJ2 (by simpa using h_3))
    · have h_3 := zb_n0.mp h_3
      refine k_iload_n dX5_lesson_23 3 rfl rfl ?_
      exact k_reti dX5_lesson_24 rfl rfl (by exact (z_first_some (P := fun s : Nat => z_bit (f_roster σ (s : Int) b) p) (by simpa using h_3) hJ2 _ hi2).symm)
set_option maxHeartbeats 4000000 in
theorem c_blockTaken (hsh : k_Main sh) (hI : k_Ty σ) {p s : Int} (hp : -2147483648 ≤ p ∧ p < 2147483648) (hs : -2147483648 ≤ s ∧ s < 2147483648) (hp0 : 0 ≤ p ∧ p < 12) : k_C E mX5_blockTaken 3 [.ref 1, .int (iI (p)), .int (iI (s))] sh σ 0 0 (k_ret (some (.int (iI (f_taken σ p s)))) sh σ) := by
  refine k_C_of (ls0 := [(0, .ref 1), (1, .int (iI (p))), (2, .int (iI (s)))]) rfl pnX5 (fun v hv => k_cat1 rfl hv) (Nat.le_of_ble_eq_true rfl) rfl ?_
  obtain ⟨t0, t1, t2, t3, t4, t5, t6, t7, t8, t9, t10, t11⟩ := id hI
  refine k_iconst (v := 0) dX5_blockTaken_0 rfl ?_
  refine k_istore_n (ls' := [(0, .ref 1), (1, .int (iI (p))), (2, .int (iI (s))), (3, .int (iI (0)))]) dX5_blockTaken_1 rfl (by decide) rfl rfl ?_
  refine k_downI (P := fun i2 : Nat => k_V E mX5_blockTaken _ 2 [(0, .ref 1), (1, .int (iI (p))), (2, .int (iI (s))), (3, .int (iI ((i2 : Int))))] [] sh σ _ _ _) (J := fun i2 : Nat => ∀ j, j < i2 → (fun b : Nat => z_bit (f_roster σ s (b : Int)) p) j = false) ((σ 1 1).toNat) (fun j hj => absurd hj (Nat.not_lt_zero j)) ?_ ?_
  · intro hJ2
    have q1 := f_roster_r hI s (((σ 1 1).toNat) : Int)
    refine k_iload_n dX5_blockTaken_2 3 rfl rfl ?_
    refine k_aload_n dX5_blockTaken_3 0 rfl rfl (by decide) ?_
    refine k_get (kf := 1) (v := .int (iI (σ 1 1))) dX5_blockTaken_4 kcX5 w_135 (by decide) (by decide) (s_1 hsh) rfl rfl ?_
    refine k_icmp_ge (tgt := 31) dX5_blockTaken_7 rfl ⟨by omega, by omega⟩ ⟨by omega, by omega⟩ (fun h_1 => ?_) (fun h_1 => absurd h_1 (by omega))
    refine k_iconst (v := (-1)) dX5_blockTaken_31 rfl ?_
    exact k_reti dX5_blockTaken_32 rfl rfl (by exact (z_first_none _ hJ2).symm)
  · intro i2 hi2 hJ2 ih2
    have q1 := f_roster_r hI s (i2 : Int)
    refine k_iload_n dX5_blockTaken_2 3 rfl rfl ?_
    refine k_aload_n dX5_blockTaken_3 0 rfl rfl (by decide) ?_
    refine k_get (kf := 1) (v := .int (iI (σ 1 1))) dX5_blockTaken_4 kcX5 w_135 (by decide) (by decide) (s_1 hsh) rfl rfl ?_
    refine k_icmp_ge (tgt := 31) dX5_blockTaken_7 rfl ⟨by omega, by omega⟩ ⟨by omega, by omega⟩ (fun h_2 => absurd h_2 (by omega)) (fun h_2 => ?_)
    refine k_aload_n dX5_blockTaken_10 0 rfl rfl (by decide) ?_
    refine k_iload_n dX5_blockTaken_11 2 rfl rfl ?_
    refine k_iload_n dX5_blockTaken_12 3 rfl rfl ?_
    refine k_callVr (st := []) (as := [.int (iI (s)), .int (iI ((i2 : Int)))]) dX5_blockTaken_13 oX5_roster w_455 w_456 w_457 rfl (by omega) rfl (Nat.le_of_ble_eq_true rfl) (by decide) (s_1 hsh) rfl (c_roster hsh hI ⟨by omega, by omega⟩ ⟨by omega, by omega⟩) ?_
    refine k_iload_n dX5_blockTaken_16 1 rfl rfl ?_
    refine k_callSNr (st := []) (as := [.int (iI (f_roster σ (s) ((i2 : Int)))), .int (iI (p))]) dX5_blockTaken_17 oX7_holds w_462 w_463 rfl (by omega) rfl (Nat.le_of_ble_eq_true rfl) (c_holds (by omega) (by omega)) ?_
    refine k_eqst (congrArg (fun z : Int => Value.int (iI z) :: []) (show zb (z_bit (f_roster σ s (i2 : Int)) (p) = true) = zb (0 ≤ p ∧ p < 16 ∧ z_bit (f_roster σ (s) ((i2 : Int))) (p) = true) from (f_holds (by omega) (by omega)).symm)) ?_
    refine k_if_eq (tgt := 25) dX5_blockTaken_20 rfl (zb_kr _) (fun h_3 => ?_) (fun h_3 => ?_)
    · have h_3 := zb_0.mp h_3
      refine k_iinc (ls' := [(0, .ref 1), (1, .int (iI (p))), (2, .int (iI (s))), (3, .int (iI ((i2 : Int) + 1)))]) dX5_blockTaken_25 3 rfl (by decide) rfl rfl ?_
      refine k_goto (tgt := 2) dX5_blockTaken_28 rfl ?_
      exact ih2 (k_Jstep (P := fun b : Nat => z_bit (f_roster σ s (b : Int)) p) hJ2 (by simpa using h_3))
    · have h_3 := zb_n0.mp h_3
      refine k_iload_n dX5_blockTaken_23 3 rfl rfl ?_
      exact k_reti dX5_blockTaken_24 rfl rfl (by exact (z_first_some (P := fun b : Nat => z_bit (f_roster σ s (b : Int)) p) (by simpa using h_3) hJ2 _ hi2).symm)
set_option maxHeartbeats 4000000 in
theorem c_wish (hsh : k_Main sh) (hI : k_Ty σ) {p r : Int} (hp : -2147483648 ≤ p ∧ p < 2147483648) (hr : -2147483648 ≤ r ∧ r < 2147483648) (hp0 : 0 ≤ p ∧ p < 12) : k_C E mX5_wish 2 [.ref 1, .int (iI (p)), .int (iI (r))] sh σ 0 0 (k_ret (some (.int (iI (f_wish σ p r)))) sh σ) := by
  refine k_C_of (ls0 := [(0, .ref 1), (1, .int (iI (p))), (2, .int (iI (r)))]) rfl pnX5 (fun v hv => k_cat1 rfl hv) (Nat.le_of_ble_eq_true rfl) rfl ?_
  obtain ⟨t0, t1, t2, t3, t4, t5, t6, t7, t8, t9, t10, t11⟩ := id hI
  refine k_iload_n dX5_wish_0 2 rfl rfl ?_
  refine k_if_lt (tgt := 24) dX5_wish_1 rfl ⟨by omega, by omega⟩ (fun h_1 => ?_) (fun h_1 => ?_)
  · refine k_iconst (v := (-1)) dX5_wish_24 rfl ?_
    exact k_reti dX5_wish_25 rfl rfl (by first | exact (if_pos (by omega)).symm | exact (if_neg (by omega)).symm)
  · refine k_iload_n dX5_wish_4 2 rfl rfl ?_
    refine k_iconst (v := 3) dX5_wish_5 rfl ?_
    refine k_icmp_ge (tgt := 24) dX5_wish_6 rfl ⟨by omega, by omega⟩ ⟨by decide, by decide⟩ (fun h_2 => ?_) (fun h_2 => ?_)
    · refine k_iconst (v := (-1)) dX5_wish_24 rfl ?_
      exact k_reti dX5_wish_25 rfl rfl (by first | exact (if_pos (by omega)).symm | exact (if_neg (by omega)).symm)
    · refine k_aload_n dX5_wish_9 0 rfl rfl (by decide) ?_
      refine k_get (kf := 7) (v := .ref 6) dX5_wish_10 kcX5 w_150 (by decide) (by decide) (s_1 hsh) rfl rfl ?_
      refine k_iload_n dX5_wish_13 1 rfl rfl ?_
      refine k_iconst (v := 3) dX5_wish_14 rfl ?_
      refine k_imul dX5_wish_15 ?_
      refine k_iload_n dX5_wish_16 2 rfl rfl ?_
      refine k_iadd dX5_wish_17 ?_
      refine k_callSNr (st := []) (as := [.ref 6, .int (iI ((p * 3) + r))]) dX5_wish_18 oX7_read w_459 w_460 rfl (by omega) rfl (Nat.le_of_ble_eq_true rfl) (c_readIn (by decide) (s_6 hsh) (by decide) (by omega) (by omega)) ?_
      refine k_goto (tgt := 25) dX5_wish_21 rfl ?_
      exact k_reti dX5_wish_25 rfl rfl (by first | exact (if_pos (by omega)).symm | exact (if_neg (by omega)).symm)
set_option maxHeartbeats 4000000 in
theorem c_wishSet (hsh : k_Main sh) (hI : k_Ty σ) {p : Int} (hp : -2147483648 ≤ p ∧ p < 2147483648) (hp0 : 0 ≤ p ∧ p < 12) : k_C E mX5_wishSet 2 [.ref 1, .int (iI (p))] sh σ 0 0 (k_ret (some (.int (iI (f_wishSet σ p)))) sh σ) := by
  refine k_C_of (ls0 := [(0, .ref 1), (1, .int (iI (p)))]) rfl pnX5 (fun v hv => k_cat1 rfl hv) (Nat.le_of_ble_eq_true rfl) rfl ?_
  obtain ⟨t0, t1, t2, t3, t4, t5, t6, t7, t8, t9, t10, t11⟩ := id hI
  have q9 := t6 p.toNat
  refine k_aload_n dX5_wishSet_0 0 rfl rfl (by decide) ?_
  refine k_get (kf := 6) (v := .ref 5) dX5_wishSet_1 kcX5 w_146 (by decide) (by decide) (s_1 hsh) rfl rfl ?_
  refine k_iload_n dX5_wishSet_4 1 rfl rfl ?_
  refine k_callSNr (st := []) (as := [.ref 5, .int (iI (p))]) dX5_wishSet_5 oX7_read w_459 w_460 rfl (by omega) rfl (Nat.le_of_ble_eq_true rfl) (c_readIn (by decide) (s_5 hsh) (by decide) (by omega) (by omega)) ?_
  refine k_istore_n (ls' := [(0, .ref 1), (1, .int (iI (p))), (2, .int (iI (σ 5 (p).toNat)))]) dX5_wishSet_8 rfl (by decide) rfl rfl ?_
  refine k_iconst (v := 0) dX5_wishSet_9 rfl ?_
  refine k_istore_n (ls' := [(0, .ref 1), (1, .int (iI (p))), (2, .int (iI (σ 5 (p).toNat))), (3, .int (iI (0)))]) dX5_wishSet_10 rfl (by decide) rfl rfl ?_
  refine k_iconst (v := 0) dX5_wishSet_11 rfl ?_
  refine k_istore (ls' := [(0, .ref 1), (1, .int (iI (p))), (2, .int (iI (σ 5 (p).toNat))), (3, .int (iI (0))), (4, .int (iI (0)))]) dX5_wishSet_12 (by decide) rfl rfl ?_
  refine k_down (P := fun i14 : Nat => k_V E mX5_wishSet _ 14 [(0, .ref 1), (1, .int (iI (p))), (2, .int (iI (σ 5 (p).toNat))), (3, .int (iI (f_wishSetN σ p i14))), (4, .int (iI ((i14 : Int))))] [] sh σ _ _ _) ((σ 5 p.toNat).toNat) ?_ ?_
  · skip
    have q0 := f_wishSetN_r hI p ((σ 5 p.toNat).toNat)
    have q1 := t6 p.toNat
    have q2 := t7 (p * 3 + (((σ 5 p.toNat).toNat) : Int)).toNat
    refine k_iload dX5_wishSet_14 4 rfl ?_
    refine k_iload_n dX5_wishSet_16 2 rfl rfl ?_
    refine k_icmp_ge (tgt := 44) dX5_wishSet_17 rfl ⟨by omega, by omega⟩ ⟨by omega, by omega⟩ (fun h_1 => ?_) (fun h_1 => absurd h_1 (by omega))
    refine k_iload_n dX5_wishSet_44 3 rfl rfl ?_
    exact k_reti dX5_wishSet_45 rfl rfl (by rfl)
  · intro i14 hi14 ih14
    have q0 := f_wishSetN_r hI p i14
    have q1 := t6 p.toNat
    have q2 := t7 (p * 3 + (i14 : Int)).toNat
    refine k_iload dX5_wishSet_14 4 rfl ?_
    refine k_iload_n dX5_wishSet_16 2 rfl rfl ?_
    refine k_icmp_ge (tgt := 44) dX5_wishSet_17 rfl ⟨by omega, by omega⟩ ⟨by omega, by omega⟩ (fun h_2 => absurd h_2 (by omega)) (fun h_2 => ?_)
    refine k_iload_n dX5_wishSet_20 3 rfl rfl ?_
    refine k_iconst (v := 1) dX5_wishSet_21 rfl ?_
    refine k_aload_n dX5_wishSet_22 0 rfl rfl (by decide) ?_
    refine k_get (kf := 7) (v := .ref 6) dX5_wishSet_23 kcX5 w_150 (by decide) (by decide) (s_1 hsh) rfl rfl ?_
    refine k_iload_n dX5_wishSet_26 1 rfl rfl ?_
    refine k_iconst (v := 3) dX5_wishSet_27 rfl ?_
    refine k_imul dX5_wishSet_28 ?_
    refine k_iload dX5_wishSet_29 4 rfl ?_
    refine k_iadd dX5_wishSet_31 ?_
    refine k_callSNr (st := [.int (iI (1)), .int (iI (f_wishSetN σ p i14))]) (as := [.ref 6, .int (iI ((p * 3) + ((i14 : Int))))]) dX5_wishSet_32 oX7_read w_459 w_460 rfl (by omega) rfl (Nat.le_of_ble_eq_true rfl) (c_readIn (by decide) (s_6 hsh) (by decide) (by omega) (by omega)) ?_
    refine k_ishl (v := (iI (z_one (σ 6 ((p * 3) + ((i14 : Int))).toNat)))) dX5_wishSet_35 (z_oneI (by omega) (by omega)) ?_
    refine k_ior (v := (iI (z_or (f_wishSetN σ p i14) (z_one (σ 6 ((p * 3) + ((i14 : Int))).toNat))))) dX5_wishSet_36 (z_orI (by omega) (Int.le_of_lt (z_one_pos _))) ?_
    refine k_istore_n (ls' := [(0, .ref 1), (1, .int (iI (p))), (2, .int (iI (σ 5 (p).toNat))), (3, .int (iI (z_or (f_wishSetN σ p i14) (z_one (σ 6 ((p * 3) + ((i14 : Int))).toNat))))), (4, .int (iI ((i14 : Int))))]) dX5_wishSet_37 rfl (by decide) rfl rfl ?_
    refine k_iinc (ls' := [(0, .ref 1), (1, .int (iI (p))), (2, .int (iI (σ 5 (p).toNat))), (3, .int (iI (z_or (f_wishSetN σ p i14) (z_one (σ 6 ((p * 3) + ((i14 : Int))).toNat))))), (4, .int (iI ((i14 : Int) + 1)))]) dX5_wishSet_38 4 rfl (by decide) rfl rfl ?_
    refine k_goto (tgt := 14) dX5_wishSet_41 rfl ?_
    exact ih14
set_option maxHeartbeats 4000000 in
theorem c_attendsWishes (hsh : k_Main sh) (hI : k_Ty σ) {p : Int} (hp : -2147483648 ≤ p ∧ p < 2147483648) (hp0 : 0 ≤ p ∧ p < 12) : k_C E mX5_attendsWishes 4 [.ref 1, .int (iI (p))] sh σ 0 0 (k_ret (some (.int (iI (zb (f_attends σ p))))) sh σ) := by
  refine k_C_of (ls0 := [(0, .ref 1), (1, .int (iI (p)))]) rfl pnX5 (fun v hv => k_cat1 rfl hv) (Nat.le_of_ble_eq_true rfl) rfl ?_
  obtain ⟨t0, t1, t2, t3, t4, t5, t6, t7, t8, t9, t10, t11⟩ := id hI
  have q9 := t6 p.toNat
  refine k_aload_n dX5_attendsWishes_0 0 rfl rfl (by decide) ?_
  refine k_get (kf := 6) (v := .ref 5) dX5_attendsWishes_1 kcX5 w_146 (by decide) (by decide) (s_1 hsh) rfl rfl ?_
  refine k_iload_n dX5_attendsWishes_4 1 rfl rfl ?_
  refine k_callSNr (st := []) (as := [.ref 5, .int (iI (p))]) dX5_attendsWishes_5 oX7_read w_459 w_460 rfl (by omega) rfl (Nat.le_of_ble_eq_true rfl) (c_readIn (by decide) (s_5 hsh) (by decide) (by omega) (by omega)) ?_
  refine k_istore_n (ls' := [(0, .ref 1), (1, .int (iI (p))), (2, .int (iI (σ 5 (p).toNat)))]) dX5_attendsWishes_8 rfl (by decide) rfl rfl ?_
  refine k_iconst (v := 0) dX5_attendsWishes_9 rfl ?_
  refine k_istore_n (ls' := [(0, .ref 1), (1, .int (iI (p))), (2, .int (iI (σ 5 (p).toNat))), (3, .int (iI (0)))]) dX5_attendsWishes_10 rfl (by decide) rfl rfl ?_
  refine k_downI (P := fun i11 : Nat => k_V E mX5_attendsWishes _ 11 [(0, .ref 1), (1, .int (iI (p))), (2, .int (iI (σ 5 (p).toNat))), (3, .int (iI ((i11 : Int))))] [] sh σ _ _ _) (J := fun i11 : Nat => ∀ j, j < i11 → f_taken σ p (f_wish σ p (j : Int)) ≠ -1) ((σ 5 p.toNat).toNat) (fun j hj => absurd hj (Nat.not_lt_zero j)) ?_ ?_
  · intro hJ11
    have q1 := t6 p.toNat
    have q2 := f_wish_r hI p (((σ 5 p.toNat).toNat) : Int)
    have q3 := f_taken_r hI p (f_wish σ p (((σ 5 p.toNat).toNat) : Int))
    refine k_iload_n dX5_attendsWishes_11 3 rfl rfl ?_
    refine k_iload_n dX5_attendsWishes_12 2 rfl rfl ?_
    refine k_icmp_ge (tgt := 39) dX5_attendsWishes_13 rfl ⟨by omega, by omega⟩ ⟨by omega, by omega⟩ (fun h_1 => ?_) (fun h_1 => absurd h_1 (by omega))
    refine k_iload_n dX5_attendsWishes_39 2 rfl rfl ?_
    refine k_if_le (tgt := 47) dX5_attendsWishes_40 rfl ⟨by omega, by omega⟩ (fun h_2 => ?_) (fun h_2 => ?_)
    · refine k_iconst (v := 0) dX5_attendsWishes_47 rfl ?_
      exact k_retz dX5_attendsWishes_48 rfl (Or.inl rfl) rfl (by first | exact (zb_t ⟨by omega, hJ11⟩).symm | exact (zb_f (fun q => absurd q.1 (by omega))).symm)
    · refine k_iconst (v := 1) dX5_attendsWishes_43 rfl ?_
      refine k_goto (tgt := 48) dX5_attendsWishes_44 rfl ?_
      exact k_retz dX5_attendsWishes_48 rfl (Or.inr rfl) rfl (by first | exact (zb_t ⟨by omega, hJ11⟩).symm | exact (zb_f (fun q => absurd q.1 (by omega))).symm)
  · intro i11 hi11 hJ11 ih11
    have q1 := t6 p.toNat
    have q2 := f_wish_r hI p (i11 : Int)
    have q3 := f_taken_r hI p (f_wish σ p (i11 : Int))
    refine k_iload_n dX5_attendsWishes_11 3 rfl rfl ?_
    refine k_iload_n dX5_attendsWishes_12 2 rfl rfl ?_
    refine k_icmp_ge (tgt := 39) dX5_attendsWishes_13 rfl ⟨by omega, by omega⟩ ⟨by omega, by omega⟩ (fun h_3 => absurd h_3 (by omega)) (fun h_3 => ?_)
    refine k_aload_n dX5_attendsWishes_16 0 rfl rfl (by decide) ?_
    refine k_iload_n dX5_attendsWishes_17 1 rfl rfl ?_
    refine k_aload_n dX5_attendsWishes_18 0 rfl rfl (by decide) ?_
    refine k_iload_n dX5_attendsWishes_19 1 rfl rfl ?_
    refine k_iload_n dX5_attendsWishes_20 3 rfl rfl ?_
    refine k_callVr (st := [.int (iI (p)), .ref 1]) (as := [.int (iI (p)), .int (iI ((i11 : Int)))]) dX5_attendsWishes_21 oX5_wish w_533 w_476 w_477 rfl (by omega) rfl (Nat.le_of_ble_eq_true rfl) (by decide) (s_1 hsh) rfl (c_wish hsh hI ⟨by omega, by omega⟩ ⟨by omega, by omega⟩ (by omega)) ?_
    refine k_callVr (st := []) (as := [.int (iI (p)), .int (iI (f_wish σ (p) ((i11 : Int))))]) dX5_attendsWishes_24 oX5_blockTaken w_534 w_535 w_536 rfl (by omega) rfl (Nat.le_of_ble_eq_true rfl) (by decide) (s_1 hsh) rfl (c_blockTaken hsh hI ⟨by omega, by omega⟩ ⟨by omega, by omega⟩ (by omega)) ?_
    refine k_iconst (v := (-1)) dX5_attendsWishes_27 rfl ?_
    refine k_icmp_ne (tgt := 33) dX5_attendsWishes_28 rfl ⟨by omega, by omega⟩ ⟨by decide, by decide⟩ (fun h_4 => ?_) (fun h_4 => ?_)
    · refine k_iinc (ls' := [(0, .ref 1), (1, .int (iI (p))), (2, .int (iI (σ 5 (p).toNat))), (3, .int (iI ((i11 : Int) + 1)))]) dX5_attendsWishes_33 3 rfl (by decide) rfl rfl ?_
      refine k_goto (tgt := 11) dX5_attendsWishes_36 rfl ?_
      exact ih11 (fun j hj => by by_cases e : j = i11; exact e ▸ h_4; exact hJ11 j (by omega))
    · refine k_iconst (v := 0) dX5_attendsWishes_31 rfl ?_
      exact k_retz dX5_attendsWishes_32 rfl (Or.inl rfl) rfl (by exact (zb_f (fun q => q.2 i11 (by omega) (by omega))).symm)
end K_M1
