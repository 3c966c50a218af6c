/-! ===== THE MODEL: what its modifications leave; execute, restore, the mean ===== -/
section K_M6
variable {E : k_E} {M : k_M} {dp pc k n : Nat} {ls : List (Nat × Value)} {st : List Value} {sh : List k_Sh} {σ τ : Nat → Nat → Int} {r : Nat → Int} {Q : k_Q}
def k_inlC {ρ α : Type} (C : ρ → Prop) : ρ ⊕ α → Prop
  | .inl v => C v
  | .inr _ => True
theorem k_els_inv {ρ α : Type} {C : ρ → Prop} {f : Nat → α → ρ ⊕ α} {r : α → ρ} (hr : ∀ x, C (r x)) (hf : ∀ i x, k_inlC C (f i x)) : ∀ (n i : Nat) (a : α), C (k_els r (k_for f n i a))
  | 0, _, a => hr a
  | n + 1, i, a => by
    show C (k_els r (k_cn2 (k_for f n (i + 1)) (f i a)))
    have h := hf i a
    cases e : f i a with
    | inl v =>
      rw [e] at h
      exact h
    | inr y => exact k_els_inv hr hf n (i + 1) y
/-- what the modifications leave: all but the row, the searches' cells, and kind, reason, bestWorth -/
def k_Fr (τ σ : Nat → Nat → Int) : Prop := (∀ i, i < 123 ∨ (124 < i ∧ i < 131) ∨ 136 < i → τ i = σ i) ∧ ∀ j, j ≠ 8 → j ≠ 9 → j ≠ 19 → τ 123 j = σ 123 j
theorem k_Fr_rf : k_Fr σ σ := ⟨fun _ _ => rfl, fun _ _ _ _ => rfl⟩
theorem k_Fr_up {a : Nat} {f : Nat → Int} (h : k_Fr τ σ) (ha : a = 124 ∨ (131 ≤ a ∧ a ≤ 136)) : k_Fr (k_up τ a f) σ := ⟨fun i hi => (k_up_ne (by omega)).trans (h.1 i hi), fun j h1 h2 h3 => (congrFun (k_up_ne (σ := τ) (a := a) (f := f) (show 123 ≠ a by omega)) j).trans (h.2 j h1 h2 h3)⟩
theorem k_Fr_123 {f : Nat → Int} (h : k_Fr τ σ) (hf : ∀ j, j ≠ 8 → j ≠ 9 → j ≠ 19 → f j = τ 123 j) : k_Fr (k_up τ 123 f) σ := ⟨fun i hi => (k_up_ne (by omega)).trans (h.1 i hi), fun j h1 h2 h3 => (congrFun k_up_same j).trans ((hf j h1 h2 h3).trans (h.2 j h1 h2 h3))⟩
theorem k_Fr_8 {z : Int} (h : k_Fr τ σ) : k_Fr (k_up τ 123 (k_u1 (τ 123) 8 z)) σ := k_Fr_123 h fun _ h1 _ _ => if_neg h1
theorem k_Fr_98 {y z : Int} (h : k_Fr τ σ) : k_Fr (k_up τ 123 (k_u1 (k_u1 (τ 123) 9 y) 8 z)) σ := k_Fr_123 h fun _ h1 h2 _ => (if_neg h1).trans (if_neg h2)
theorem k_Fr_r {f : Nat → Int} (h : k_Fr τ σ) : k_Fr (k_up τ 124 f) σ := k_Fr_up h (Or.inl rfl)
theorem k_Fr_tr {υ : Nat → Nat → Int} (h : k_Fr υ τ) (h2 : k_Fr τ σ) : k_Fr υ σ := ⟨fun i hi => (h.1 i hi).trans (h2.1 i hi), fun j a b c => (h.2 j a b c).trans (h2.2 j a b c)⟩
theorem m_findsPlacement_out (σ : Nat → Nat → Int) (p : Int) : (∀ i, i ≠ 123 → i ≠ 131 → i ≠ 132 → m_findsPlacement σ p i = σ i) ∧ ∀ j, j ≠ 19 → m_findsPlacement σ p 123 j = σ 123 j := by
  have hJ := k_it_inv (J := fun (_ : Nat) (x : (Nat → Int) × (Nat → Int) × (Nat → Int)) => ∀ j, j ≠ 19 → x.1 j = σ 123 j) (f := b_findsPlacement_7 σ p) (fun i x h j hj => by
    unfold b_findsPlacement_7 r_findsPlacement_19
    split
    · exact h j hj
    · unfold r_findsPlacement_72
      exact (if_neg hj).trans (h j hj)) 625 0 ((k_u1 (σ 123) 19 (-1)), (σ 131), (σ 132)) (fun j hj => if_neg hj)
  unfold m_findsPlacement r_findsPlacement_7
  exact ⟨fun i h1 h2 h3 => by rw [k_up_ne h3, k_up_ne h2, k_up_ne h1], fun j hj => hJ j hj⟩
theorem m_findsPlacement_fr (p : Int) : k_Fr (m_findsPlacement σ p) σ := ⟨fun i hi => (m_findsPlacement_out σ p).1 i (by omega) (by omega) (by omega), fun j _ _ h => (m_findsPlacement_out σ p).2 j h⟩
theorem m_findsChain_out (σ : Nat → Nat → Int) (p s : Int) : ∀ i, i ≠ 133 → (m_findsChain σ p s).2 i = σ i := by
  unfold m_findsChain
  refine k_els_inv (C := fun t : Int × (Nat → Nat → Int) => ∀ i, i ≠ 133 → t.2 i = σ i) (fun x i h => ?_) (fun i x => ?_) 4 0 (σ 133)
  · unfold r_findsChain_2
    exact k_up_ne h
  · unfold b_findsChain_2
    refine k_els_inv (C := k_inlC (fun t : Int × (Nat → Nat → Int) => ∀ i, i ≠ 133 → t.2 i = σ i)) (fun x => by trivial) (fun i x => ?_) _ 0 _
    unfold b_findsChain_10 r_findsChain_25
    split
    · exact fun i h => k_up_ne h
    · trivial
theorem m_findsChain_fr (p s : Int) : k_Fr (m_findsChain σ p s).2 σ := ⟨fun i hi => m_findsChain_out σ p s i (by omega), fun j _ _ _ => congrFun (m_findsChain_out σ p s 123 (by decide)) j⟩
theorem m_findsArrangement_out (σ : Nat → Nat → Int) : ∀ i, i ≠ 134 → i ≠ 135 → i ≠ 136 → (m_findsArrangement σ).2 i = σ i := fun i h1 h2 h3 => by
  unfold m_findsArrangement r_findsArrangement_9 r_findsArrangement_54 r_findsArrangement_79
  show k_up (k_up (k_up σ 134 _) 135 _) 136 _ i = σ i
  rw [k_up_ne h3, k_up_ne h2, k_up_ne h1]
theorem m_findsArrangement_fr : k_Fr (m_findsArrangement σ).2 σ := ⟨fun i hi => m_findsArrangement_out σ i (by omega) (by omega) (by omega), fun j _ _ _ => congrFun (m_findsArrangement_out σ 123 (by decide) (by decide) (by decide)) j⟩
theorem m_addSubjectNow_fr (z : Int) : k_Fr (m_addSubjectNow σ z).2 σ := by
  unfold m_addSubjectNow
  (repeat' split) <;> first | exact k_Fr_8 k_Fr_rf | exact k_Fr_r k_Fr_rf
theorem m_setBlockCountNow_fr (c : Int) : k_Fr (m_setBlockCountNow σ c).2 σ := by
  unfold m_setBlockCountNow
  split
  · refine k_els_inv (C := fun t : Int × (Nat → Nat → Int) => k_Fr t.2 σ) (fun x => k_Fr_r k_Fr_rf) (fun i x => ?_) _ 0 _
    unfold b_setBlockCountNow_17
    refine k_els_inv (C := k_inlC (fun t : Int × (Nat → Nat → Int) => k_Fr t.2 σ)) (fun x => by trivial) (fun i x => ?_) _ 0 _
    unfold b_setBlockCountNow_29
    split
    · exact k_Fr_8 k_Fr_rf
    · trivial
  · exact k_Fr_8 k_Fr_rf
theorem m_openClassNow_fr (s b : Int) : k_Fr (m_openClassNow σ s b).2 σ := by
  unfold m_openClassNow
  (repeat' split) <;> first | exact k_Fr_8 k_Fr_rf | exact k_Fr_r k_Fr_rf
theorem m_closeClassNow_fr (s b : Int) : k_Fr (m_closeClassNow σ s b).2 σ := by
  unfold m_closeClassNow
  (repeat' split) <;> first | exact k_Fr_8 k_Fr_rf | exact k_Fr_r k_Fr_rf
theorem m_addPupilNow_fr : k_Fr (m_addPupilNow σ).2 σ := by
  unfold m_addPupilNow
  (repeat' split) <;> first | exact k_Fr_8 k_Fr_rf | exact k_Fr_r k_Fr_rf
theorem m_addWishNow_fr (p s : Int) : k_Fr (m_addWishNow σ p s).2 σ := by
  unfold m_addWishNow
  (repeat' split) <;> first | exact k_Fr_8 k_Fr_rf | exact k_Fr_r k_Fr_rf
theorem m_setReserveNow_fr (p s : Int) : k_Fr (m_setReserveNow σ p s).2 σ := by
  unfold m_setReserveNow
  (repeat' split) <;> first | exact k_Fr_8 k_Fr_rf | exact k_Fr_r k_Fr_rf
theorem m_enrolNow_fr (p : Int) : k_Fr (m_enrolNow σ p).2 σ := by
  unfold m_enrolNow
  (repeat' split) <;> first | exact k_Fr_8 k_Fr_rf | exact k_Fr_r (m_findsPlacement_fr p)
theorem m_joinNow_fr (p s : Int) : k_Fr (m_joinNow σ p s).2 σ := by
  unfold m_joinNow
  (repeat' split) <;> first | exact k_Fr_8 k_Fr_rf | exact k_Fr_98 (m_findsChain_fr p s) | exact k_Fr_r (m_findsChain_fr p s)
theorem m_quitNow_fr (p s : Int) : k_Fr (m_quitNow σ p s).2 σ := by
  unfold m_quitNow
  (repeat' split) <;> first | exact k_Fr_8 k_Fr_rf | exact k_Fr_r k_Fr_rf
theorem m_changeNow_fr (p a b : Int) : k_Fr (m_changeNow σ p a b).2 σ := by
  unfold m_changeNow
  (repeat' split) <;> first | exact k_Fr_8 k_Fr_rf | exact k_Fr_tr (m_joinNow_fr p b) (k_Fr_r k_Fr_rf) | exact k_Fr_r (k_Fr_tr (m_joinNow_fr p b) (k_Fr_r k_Fr_rf))
theorem m_arrangeNow_fr : k_Fr (m_arrangeNow σ).2 σ := by
  unfold m_arrangeNow
  refine k_els_inv (C := fun t : Int × (Nat → Nat → Int) => k_Fr t.2 σ) (fun x => k_Fr_r m_findsArrangement_fr) (fun i x => ?_) _ 0 _
  unfold b_arrangeNow_2
  split
  · trivial
  · exact k_Fr_8 k_Fr_rf
def m_acts (σ : Nat → Nat → Int) (wh a b c : Int) : Int × (Nat → Nat → Int) := if wh = 0 then m_addSubjectNow σ a else if wh = 1 then m_setBlockCountNow σ a else if wh = 2 then m_openClassNow σ a b else if wh = 3 then m_closeClassNow σ a b else if wh = 4 then m_addPupilNow σ  else if wh = 5 then m_addWishNow σ a b else if wh = 6 then m_setReserveNow σ a b else if wh = 7 then m_enrolNow σ a else if wh = 8 then m_joinNow σ a b else if wh = 9 then m_quitNow σ a b else if wh = 10 then m_changeNow σ a b c else m_arrangeNow σ
theorem m_acts_fr (wh a b c : Int) : k_Fr (m_acts σ wh a b c).2 σ := by
  unfold m_acts
  (repeat' split) <;> first | exact m_addSubjectNow_fr _ | exact m_setBlockCountNow_fr _ | exact m_openClassNow_fr _ _ | exact m_closeClassNow_fr _ _ | exact m_addPupilNow_fr | exact m_addWishNow_fr _ _ | exact m_setReserveNow_fr _ _ | exact m_enrolNow_fr _ | exact m_joinNow_fr _ _ | exact m_quitNow_fr _ _ | exact m_changeNow_fr _ _ _ | exact m_arrangeNow_fr
abbrev R_acts (t : Int × (Nat → Nat → Int)) : Prop := (-1 ≤ t.1 ∧ t.1 ≤ 1000) ∧ k_MA t.2
set_option maxRecDepth 100000 in
set_option maxHeartbeats 4000000 in
theorem c8_acts (hsh : k_Main sh) (hMA : k_MA σ) {wh a b c : Int} (h_wh : 0 ≤ wh ∧ wh < 12) (h_a : -2147483648 ≤ a ∧ a < 2147483648) (h_b : -2147483648 ≤ b ∧ b < 2147483648) (h_c : -2147483648 ≤ c ∧ c < 2147483648) : k_C E mX8_acts 9 [.ref 123, .int (iI wh), .int (iI a), .int (iI b), .int (iI c)] sh σ 0 0 ((k_pP sh R_acts) (m_acts σ wh a b c)) := by
  refine k_C_of (ls0 := [(0, .ref 123), (1, .int (iI wh)), (2, .int (iI a)), (3, .int (iI b)), (4, .int (iI c))]) rfl pnX8 (fun v hv => k_cat1 rfl hv) (Nat.le_of_ble_eq_true rfl) rfl ?_
  have hw : wh = 0 ∨ wh = 1 ∨ wh = 2 ∨ wh = 3 ∨ wh = 4 ∨ wh = 5 ∨ wh = 6 ∨ wh = 7 ∨ wh = 8 ∨ wh = 9 ∨ wh = 10 ∨ wh = 11 := by omega
  rcases hw with rfl | rfl | rfl | rfl | rfl | rfl | rfl | rfl | rfl | rfl | rfl | rfl
  · show k_V E mX8_acts _ 0 [(0, .ref 123), (1, .int (iI 0)), (2, .int (iI a)), (3, .int (iI b)), (4, .int (iI c))] [] sh σ _ _ ((k_pP sh R_acts) (m_addSubjectNow σ a))
    refine k_iload_n dX8_acts_0 1 rfl rfl ?_
    refine k_tableIn (tgt := 60) dX8_acts_1 ⟨by decide, by decide⟩ (by decide) (by decide) rfl rfl ?_
    refine k_aload_n dX8_acts_60 0 rfl rfl (by decide) ?_
    refine k_iload_n dX8_acts_61 2 rfl rfl ?_
    refine k_callVrP (st := []) (as := [.int (iI (a))]) dX8_acts_62 oX8_addSubjectNow w_1877 w_1879 w_34 rfl (by omega) rfl (Nat.le_of_ble_eq_true rfl) (by decide) (s_123 hsh) rfl (c8_addSubjectNow hsh (show k_MA σ from ⟨(hMA).1, (hMA).2.1, (hMA).2.2.1, (hMA).2.2.2.1, (hMA).2.2.2.2.1, (hMA).2.2.2.2.2.1, (hMA).2.2.2.2.2.2.1, (hMA).2.2.2.2.2.2.2.1, (hMA).2.2.2.2.2.2.2.2.1, (hMA).2.2.2.2.2.2.2.2.2.1, (hMA).2.2.2.2.2.2.2.2.2.2.1, (hMA).2.2.2.2.2.2.2.2.2.2.2.1, (hMA).2.2.2.2.2.2.2.2.2.2.2.2⟩) (by omega)) (fun z1 => ?_)
    have z1 : (-1 ≤ (m_addSubjectNow σ a).1 ∧ (m_addSubjectNow σ a).1 ≤ 1000) ∧ k_MA (m_addSubjectNow σ a).2 := z1
    have z2 := z1.1
    obtain ⟨⟨y3_0, y3_0b⟩, ⟨y3_1, y3_1b⟩, ⟨y3_2, y3_2b⟩, ⟨y3_3, y3_3b⟩, -⟩ := id ((z1.2)).2.1
    obtain ⟨⟨f4_0, g4_0⟩, ⟨f4_1, g4_1⟩, ⟨f4_2, g4_2⟩, ⟨f4_3, g4_3⟩, ⟨f4_4, g4_4⟩, ⟨f4_5, g4_5⟩, ⟨f4_6, g4_6⟩, ⟨f4_7, g4_7⟩, ⟨f4_8, g4_8⟩, ⟨f4_9, g4_9⟩, ⟨f4_10, g4_10⟩, ⟨f4_11, g4_11⟩, ⟨f4_12, g4_12⟩, ⟨f4_13, g4_13⟩⟩ := id ((z1.2)).1
    exact k_retiP dX8_acts_65 rfl rfl rfl (show (-1 ≤ (m_addSubjectNow σ a).1 ∧ (m_addSubjectNow σ a).1 ≤ 1000) ∧ k_MA (m_addSubjectNow σ a).2 from ⟨by omega, ⟨((z1.2)).1, ((z1.2)).2.1, ((z1.2)).2.2.1, ((z1.2)).2.2.2.1, ((z1.2)).2.2.2.2.1, ((z1.2)).2.2.2.2.2.1, ((z1.2)).2.2.2.2.2.2.1, ((z1.2)).2.2.2.2.2.2.2.1, ((z1.2)).2.2.2.2.2.2.2.2.1, ((z1.2)).2.2.2.2.2.2.2.2.2.1, ((z1.2)).2.2.2.2.2.2.2.2.2.2.1, ((z1.2)).2.2.2.2.2.2.2.2.2.2.2.1, ((z1.2)).2.2.2.2.2.2.2.2.2.2.2.2⟩⟩)
  · show k_V E mX8_acts _ 0 [(0, .ref 123), (1, .int (iI 1)), (2, .int (iI a)), (3, .int (iI b)), (4, .int (iI c))] [] sh σ _ _ ((k_pP sh R_acts) (m_setBlockCountNow σ a))
    refine k_iload_n dX8_acts_0 1 rfl rfl ?_
    refine k_tableIn (tgt := 66) dX8_acts_1 ⟨by decide, by decide⟩ (by decide) (by decide) rfl rfl ?_
    refine k_aload_n dX8_acts_66 0 rfl rfl (by decide) ?_
    refine k_iload_n dX8_acts_67 2 rfl rfl ?_
    refine k_callVrP (st := []) (as := [.int (iI (a))]) dX8_acts_68 oX8_setBlockCountNow w_1924 w_1926 w_41 rfl (by omega) rfl (Nat.le_of_ble_eq_true rfl) (by decide) (s_123 hsh) rfl (c8_setBlockCountNow hsh (show k_MA σ from ⟨(hMA).1, (hMA).2.1, (hMA).2.2.1, (hMA).2.2.2.1, (hMA).2.2.2.2.1, (hMA).2.2.2.2.2.1, (hMA).2.2.2.2.2.2.1, (hMA).2.2.2.2.2.2.2.1, (hMA).2.2.2.2.2.2.2.2.1, (hMA).2.2.2.2.2.2.2.2.2.1, (hMA).2.2.2.2.2.2.2.2.2.2.1, (hMA).2.2.2.2.2.2.2.2.2.2.2.1, (hMA).2.2.2.2.2.2.2.2.2.2.2.2⟩) (by omega)) (fun z1 => ?_)
    have z1 : (-1 ≤ (m_setBlockCountNow σ a).1 ∧ (m_setBlockCountNow σ a).1 ≤ 1000) ∧ k_MA (m_setBlockCountNow σ a).2 := z1
    have z2 := z1.1
    obtain ⟨⟨y3_0, y3_0b⟩, ⟨y3_1, y3_1b⟩, ⟨y3_2, y3_2b⟩, ⟨y3_3, y3_3b⟩, -⟩ := id ((z1.2)).2.1
    obtain ⟨⟨f4_0, g4_0⟩, ⟨f4_1, g4_1⟩, ⟨f4_2, g4_2⟩, ⟨f4_3, g4_3⟩, ⟨f4_4, g4_4⟩, ⟨f4_5, g4_5⟩, ⟨f4_6, g4_6⟩, ⟨f4_7, g4_7⟩, ⟨f4_8, g4_8⟩, ⟨f4_9, g4_9⟩, ⟨f4_10, g4_10⟩, ⟨f4_11, g4_11⟩, ⟨f4_12, g4_12⟩, ⟨f4_13, g4_13⟩⟩ := id ((z1.2)).1
    exact k_retiP dX8_acts_71 rfl rfl rfl (show (-1 ≤ (m_setBlockCountNow σ a).1 ∧ (m_setBlockCountNow σ a).1 ≤ 1000) ∧ k_MA (m_setBlockCountNow σ a).2 from ⟨by omega, ⟨((z1.2)).1, ((z1.2)).2.1, ((z1.2)).2.2.1, ((z1.2)).2.2.2.1, ((z1.2)).2.2.2.2.1, ((z1.2)).2.2.2.2.2.1, ((z1.2)).2.2.2.2.2.2.1, ((z1.2)).2.2.2.2.2.2.2.1, ((z1.2)).2.2.2.2.2.2.2.2.1, ((z1.2)).2.2.2.2.2.2.2.2.2.1, ((z1.2)).2.2.2.2.2.2.2.2.2.2.1, ((z1.2)).2.2.2.2.2.2.2.2.2.2.2.1, ((z1.2)).2.2.2.2.2.2.2.2.2.2.2.2⟩⟩)
  · show k_V E mX8_acts _ 0 [(0, .ref 123), (1, .int (iI 2)), (2, .int (iI a)), (3, .int (iI b)), (4, .int (iI c))] [] sh σ _ _ ((k_pP sh R_acts) (m_openClassNow σ a b))
    refine k_iload_n dX8_acts_0 1 rfl rfl ?_
    refine k_tableIn (tgt := 72) dX8_acts_1 ⟨by decide, by decide⟩ (by decide) (by decide) rfl rfl ?_
    refine k_aload_n dX8_acts_72 0 rfl rfl (by decide) ?_
    refine k_iload_n dX8_acts_73 2 rfl rfl ?_
    refine k_iload_n dX8_acts_74 3 rfl rfl ?_
    refine k_callVrP (st := []) (as := [.int (iI (a)), .int (iI (b))]) dX8_acts_75 oX8_openClassNow w_1940 w_1942 w_43 rfl (by omega) rfl (Nat.le_of_ble_eq_true rfl) (by decide) (s_123 hsh) rfl (c8_openClassNow hsh (show k_MA σ from ⟨(hMA).1, (hMA).2.1, (hMA).2.2.1, (hMA).2.2.2.1, (hMA).2.2.2.2.1, (hMA).2.2.2.2.2.1, (hMA).2.2.2.2.2.2.1, (hMA).2.2.2.2.2.2.2.1, (hMA).2.2.2.2.2.2.2.2.1, (hMA).2.2.2.2.2.2.2.2.2.1, (hMA).2.2.2.2.2.2.2.2.2.2.1, (hMA).2.2.2.2.2.2.2.2.2.2.2.1, (hMA).2.2.2.2.2.2.2.2.2.2.2.2⟩) (by omega) (by omega)) (fun z1 => ?_)
    have z1 : (-1 ≤ (m_openClassNow σ a b).1 ∧ (m_openClassNow σ a b).1 ≤ 1000) ∧ k_MA (m_openClassNow σ a b).2 := z1
    have z2 := z1.1
    obtain ⟨⟨y3_0, y3_0b⟩, ⟨y3_1, y3_1b⟩, ⟨y3_2, y3_2b⟩, ⟨y3_3, y3_3b⟩, -⟩ := id ((z1.2)).2.1
    obtain ⟨⟨f4_0, g4_0⟩, ⟨f4_1, g4_1⟩, ⟨f4_2, g4_2⟩, ⟨f4_3, g4_3⟩, ⟨f4_4, g4_4⟩, ⟨f4_5, g4_5⟩, ⟨f4_6, g4_6⟩, ⟨f4_7, g4_7⟩, ⟨f4_8, g4_8⟩, ⟨f4_9, g4_9⟩, ⟨f4_10, g4_10⟩, ⟨f4_11, g4_11⟩, ⟨f4_12, g4_12⟩, ⟨f4_13, g4_13⟩⟩ := id ((z1.2)).1
    exact k_retiP dX8_acts_78 rfl rfl rfl (show (-1 ≤ (m_openClassNow σ a b).1 ∧ (m_openClassNow σ a b).1 ≤ 1000) ∧ k_MA (m_openClassNow σ a b).2 from ⟨by omega, ⟨((z1.2)).1, ((z1.2)).2.1, ((z1.2)).2.2.1, ((z1.2)).2.2.2.1, ((z1.2)).2.2.2.2.1, ((z1.2)).2.2.2.2.2.1, ((z1.2)).2.2.2.2.2.2.1, ((z1.2)).2.2.2.2.2.2.2.1, ((z1.2)).2.2.2.2.2.2.2.2.1, ((z1.2)).2.2.2.2.2.2.2.2.2.1, ((z1.2)).2.2.2.2.2.2.2.2.2.2.1, ((z1.2)).2.2.2.2.2.2.2.2.2.2.2.1, ((z1.2)).2.2.2.2.2.2.2.2.2.2.2.2⟩⟩)
  · show k_V E mX8_acts _ 0 [(0, .ref 123), (1, .int (iI 3)), (2, .int (iI a)), (3, .int (iI b)), (4, .int (iI c))] [] sh σ _ _ ((k_pP sh R_acts) (m_closeClassNow σ a b))
    refine k_iload_n dX8_acts_0 1 rfl rfl ?_
    refine k_tableIn (tgt := 79) dX8_acts_1 ⟨by decide, by decide⟩ (by decide) (by decide) rfl rfl ?_
    refine k_aload_n dX8_acts_79 0 rfl rfl (by decide) ?_
    refine k_iload_n dX8_acts_80 2 rfl rfl ?_
    refine k_iload_n dX8_acts_81 3 rfl rfl ?_
    refine k_callVrP (st := []) (as := [.int (iI (a)), .int (iI (b))]) dX8_acts_82 oX8_closeClassNow w_1956 w_1958 w_46 rfl (by omega) rfl (Nat.le_of_ble_eq_true rfl) (by decide) (s_123 hsh) rfl (c8_closeClassNow hsh (show k_MA σ from ⟨(hMA).1, (hMA).2.1, (hMA).2.2.1, (hMA).2.2.2.1, (hMA).2.2.2.2.1, (hMA).2.2.2.2.2.1, (hMA).2.2.2.2.2.2.1, (hMA).2.2.2.2.2.2.2.1, (hMA).2.2.2.2.2.2.2.2.1, (hMA).2.2.2.2.2.2.2.2.2.1, (hMA).2.2.2.2.2.2.2.2.2.2.1, (hMA).2.2.2.2.2.2.2.2.2.2.2.1, (hMA).2.2.2.2.2.2.2.2.2.2.2.2⟩) (by omega) (by omega)) (fun z1 => ?_)
    have z1 : (-1 ≤ (m_closeClassNow σ a b).1 ∧ (m_closeClassNow σ a b).1 ≤ 1000) ∧ k_MA (m_closeClassNow σ a b).2 := z1
    have z2 := z1.1
    obtain ⟨⟨y3_0, y3_0b⟩, ⟨y3_1, y3_1b⟩, ⟨y3_2, y3_2b⟩, ⟨y3_3, y3_3b⟩, -⟩ := id ((z1.2)).2.1
    obtain ⟨⟨f4_0, g4_0⟩, ⟨f4_1, g4_1⟩, ⟨f4_2, g4_2⟩, ⟨f4_3, g4_3⟩, ⟨f4_4, g4_4⟩, ⟨f4_5, g4_5⟩, ⟨f4_6, g4_6⟩, ⟨f4_7, g4_7⟩, ⟨f4_8, g4_8⟩, ⟨f4_9, g4_9⟩, ⟨f4_10, g4_10⟩, ⟨f4_11, g4_11⟩, ⟨f4_12, g4_12⟩, ⟨f4_13, g4_13⟩⟩ := id ((z1.2)).1
    exact k_retiP dX8_acts_85 rfl rfl rfl (show (-1 ≤ (m_closeClassNow σ a b).1 ∧ (m_closeClassNow σ a b).1 ≤ 1000) ∧ k_MA (m_closeClassNow σ a b).2 from ⟨by omega, ⟨((z1.2)).1, ((z1.2)).2.1, ((z1.2)).2.2.1, ((z1.2)).2.2.2.1, ((z1.2)).2.2.2.2.1, ((z1.2)).2.2.2.2.2.1, ((z1.2)).2.2.2.2.2.2.1, ((z1.2)).2.2.2.2.2.2.2.1, ((z1.2)).2.2.2.2.2.2.2.2.1, ((z1.2)).2.2.2.2.2.2.2.2.2.1, ((z1.2)).2.2.2.2.2.2.2.2.2.2.1, ((z1.2)).2.2.2.2.2.2.2.2.2.2.2.1, ((z1.2)).2.2.2.2.2.2.2.2.2.2.2.2⟩⟩)
  · show k_V E mX8_acts _ 0 [(0, .ref 123), (1, .int (iI 4)), (2, .int (iI a)), (3, .int (iI b)), (4, .int (iI c))] [] sh σ _ _ ((k_pP sh R_acts) (m_addPupilNow σ ))
    refine k_iload_n dX8_acts_0 1 rfl rfl ?_
    refine k_tableIn (tgt := 86) dX8_acts_1 ⟨by decide, by decide⟩ (by decide) (by decide) rfl rfl ?_
    refine k_aload_n dX8_acts_86 0 rfl rfl (by decide) ?_
    refine k_callVrP (st := []) (as := []) dX8_acts_87 oX8_addPupilNow w_1976 w_1978 w_47 rfl (by omega) rfl (Nat.le_of_ble_eq_true rfl) (by decide) (s_123 hsh) rfl (c8_addPupilNow hsh (show k_MA σ from ⟨(hMA).1, (hMA).2.1, (hMA).2.2.1, (hMA).2.2.2.1, (hMA).2.2.2.2.1, (hMA).2.2.2.2.2.1, (hMA).2.2.2.2.2.2.1, (hMA).2.2.2.2.2.2.2.1, (hMA).2.2.2.2.2.2.2.2.1, (hMA).2.2.2.2.2.2.2.2.2.1, (hMA).2.2.2.2.2.2.2.2.2.2.1, (hMA).2.2.2.2.2.2.2.2.2.2.2.1, (hMA).2.2.2.2.2.2.2.2.2.2.2.2⟩)) (fun z1 => ?_)
    have z1 : (-1 ≤ (m_addPupilNow σ).1 ∧ (m_addPupilNow σ).1 ≤ 1000) ∧ k_MA (m_addPupilNow σ).2 := z1
    have z2 := z1.1
    obtain ⟨⟨y3_0, y3_0b⟩, ⟨y3_1, y3_1b⟩, ⟨y3_2, y3_2b⟩, ⟨y3_3, y3_3b⟩, -⟩ := id ((z1.2)).2.1
    obtain ⟨⟨f4_0, g4_0⟩, ⟨f4_1, g4_1⟩, ⟨f4_2, g4_2⟩, ⟨f4_3, g4_3⟩, ⟨f4_4, g4_4⟩, ⟨f4_5, g4_5⟩, ⟨f4_6, g4_6⟩, ⟨f4_7, g4_7⟩, ⟨f4_8, g4_8⟩, ⟨f4_9, g4_9⟩, ⟨f4_10, g4_10⟩, ⟨f4_11, g4_11⟩, ⟨f4_12, g4_12⟩, ⟨f4_13, g4_13⟩⟩ := id ((z1.2)).1
    exact k_retiP dX8_acts_90 rfl rfl rfl (show (-1 ≤ (m_addPupilNow σ).1 ∧ (m_addPupilNow σ).1 ≤ 1000) ∧ k_MA (m_addPupilNow σ).2 from ⟨by omega, ⟨((z1.2)).1, ((z1.2)).2.1, ((z1.2)).2.2.1, ((z1.2)).2.2.2.1, ((z1.2)).2.2.2.2.1, ((z1.2)).2.2.2.2.2.1, ((z1.2)).2.2.2.2.2.2.1, ((z1.2)).2.2.2.2.2.2.2.1, ((z1.2)).2.2.2.2.2.2.2.2.1, ((z1.2)).2.2.2.2.2.2.2.2.2.1, ((z1.2)).2.2.2.2.2.2.2.2.2.2.1, ((z1.2)).2.2.2.2.2.2.2.2.2.2.2.1, ((z1.2)).2.2.2.2.2.2.2.2.2.2.2.2⟩⟩)
  · show k_V E mX8_acts _ 0 [(0, .ref 123), (1, .int (iI 5)), (2, .int (iI a)), (3, .int (iI b)), (4, .int (iI c))] [] sh σ _ _ ((k_pP sh R_acts) (m_addWishNow σ a b))
    refine k_iload_n dX8_acts_0 1 rfl rfl ?_
    refine k_tableIn (tgt := 91) dX8_acts_1 ⟨by decide, by decide⟩ (by decide) (by decide) rfl rfl ?_
    refine k_aload_n dX8_acts_91 0 rfl rfl (by decide) ?_
    refine k_iload_n dX8_acts_92 2 rfl rfl ?_
    refine k_iload_n dX8_acts_93 3 rfl rfl ?_
    refine k_callVrP (st := []) (as := [.int (iI (a)), .int (iI (b))]) dX8_acts_94 oX8_addWishNow w_1988 w_1990 w_48 rfl (by omega) rfl (Nat.le_of_ble_eq_true rfl) (by decide) (s_123 hsh) rfl (c8_addWishNow hsh (show k_MA σ from ⟨(hMA).1, (hMA).2.1, (hMA).2.2.1, (hMA).2.2.2.1, (hMA).2.2.2.2.1, (hMA).2.2.2.2.2.1, (hMA).2.2.2.2.2.2.1, (hMA).2.2.2.2.2.2.2.1, (hMA).2.2.2.2.2.2.2.2.1, (hMA).2.2.2.2.2.2.2.2.2.1, (hMA).2.2.2.2.2.2.2.2.2.2.1, (hMA).2.2.2.2.2.2.2.2.2.2.2.1, (hMA).2.2.2.2.2.2.2.2.2.2.2.2⟩) (by omega) (by omega)) (fun z1 => ?_)
    have z1 : (-1 ≤ (m_addWishNow σ a b).1 ∧ (m_addWishNow σ a b).1 ≤ 1000) ∧ k_MA (m_addWishNow σ a b).2 := z1
    have z2 := z1.1
    obtain ⟨⟨y3_0, y3_0b⟩, ⟨y3_1, y3_1b⟩, ⟨y3_2, y3_2b⟩, ⟨y3_3, y3_3b⟩, -⟩ := id ((z1.2)).2.1
    obtain ⟨⟨f4_0, g4_0⟩, ⟨f4_1, g4_1⟩, ⟨f4_2, g4_2⟩, ⟨f4_3, g4_3⟩, ⟨f4_4, g4_4⟩, ⟨f4_5, g4_5⟩, ⟨f4_6, g4_6⟩, ⟨f4_7, g4_7⟩, ⟨f4_8, g4_8⟩, ⟨f4_9, g4_9⟩, ⟨f4_10, g4_10⟩, ⟨f4_11, g4_11⟩, ⟨f4_12, g4_12⟩, ⟨f4_13, g4_13⟩⟩ := id ((z1.2)).1
    exact k_retiP dX8_acts_97 rfl rfl rfl (show (-1 ≤ (m_addWishNow σ a b).1 ∧ (m_addWishNow σ a b).1 ≤ 1000) ∧ k_MA (m_addWishNow σ a b).2 from ⟨by omega, ⟨((z1.2)).1, ((z1.2)).2.1, ((z1.2)).2.2.1, ((z1.2)).2.2.2.1, ((z1.2)).2.2.2.2.1, ((z1.2)).2.2.2.2.2.1, ((z1.2)).2.2.2.2.2.2.1, ((z1.2)).2.2.2.2.2.2.2.1, ((z1.2)).2.2.2.2.2.2.2.2.1, ((z1.2)).2.2.2.2.2.2.2.2.2.1, ((z1.2)).2.2.2.2.2.2.2.2.2.2.1, ((z1.2)).2.2.2.2.2.2.2.2.2.2.2.1, ((z1.2)).2.2.2.2.2.2.2.2.2.2.2.2⟩⟩)
  · show k_V E mX8_acts _ 0 [(0, .ref 123), (1, .int (iI 6)), (2, .int (iI a)), (3, .int (iI b)), (4, .int (iI c))] [] sh σ _ _ ((k_pP sh R_acts) (m_setReserveNow σ a b))
    refine k_iload_n dX8_acts_0 1 rfl rfl ?_
    refine k_tableIn (tgt := 98) dX8_acts_1 ⟨by decide, by decide⟩ (by decide) (by decide) rfl rfl ?_
    refine k_aload_n dX8_acts_98 0 rfl rfl (by decide) ?_
    refine k_iload_n dX8_acts_99 2 rfl rfl ?_
    refine k_iload_n dX8_acts_100 3 rfl rfl ?_
    refine k_callVrP (st := []) (as := [.int (iI (a)), .int (iI (b))]) dX8_acts_101 oX8_setReserveNow w_2008 w_2010 w_52 rfl (by omega) rfl (Nat.le_of_ble_eq_true rfl) (by decide) (s_123 hsh) rfl (c8_setReserveNow hsh (show k_MA σ from ⟨(hMA).1, (hMA).2.1, (hMA).2.2.1, (hMA).2.2.2.1, (hMA).2.2.2.2.1, (hMA).2.2.2.2.2.1, (hMA).2.2.2.2.2.2.1, (hMA).2.2.2.2.2.2.2.1, (hMA).2.2.2.2.2.2.2.2.1, (hMA).2.2.2.2.2.2.2.2.2.1, (hMA).2.2.2.2.2.2.2.2.2.2.1, (hMA).2.2.2.2.2.2.2.2.2.2.2.1, (hMA).2.2.2.2.2.2.2.2.2.2.2.2⟩) (by omega) (by omega)) (fun z1 => ?_)
    have z1 : (-1 ≤ (m_setReserveNow σ a b).1 ∧ (m_setReserveNow σ a b).1 ≤ 1000) ∧ k_MA (m_setReserveNow σ a b).2 := z1
    have z2 := z1.1
    obtain ⟨⟨y3_0, y3_0b⟩, ⟨y3_1, y3_1b⟩, ⟨y3_2, y3_2b⟩, ⟨y3_3, y3_3b⟩, -⟩ := id ((z1.2)).2.1
    obtain ⟨⟨f4_0, g4_0⟩, ⟨f4_1, g4_1⟩, ⟨f4_2, g4_2⟩, ⟨f4_3, g4_3⟩, ⟨f4_4, g4_4⟩, ⟨f4_5, g4_5⟩, ⟨f4_6, g4_6⟩, ⟨f4_7, g4_7⟩, ⟨f4_8, g4_8⟩, ⟨f4_9, g4_9⟩, ⟨f4_10, g4_10⟩, ⟨f4_11, g4_11⟩, ⟨f4_12, g4_12⟩, ⟨f4_13, g4_13⟩⟩ := id ((z1.2)).1
    exact k_retiP dX8_acts_104 rfl rfl rfl (show (-1 ≤ (m_setReserveNow σ a b).1 ∧ (m_setReserveNow σ a b).1 ≤ 1000) ∧ k_MA (m_setReserveNow σ a b).2 from ⟨by omega, ⟨((z1.2)).1, ((z1.2)).2.1, ((z1.2)).2.2.1, ((z1.2)).2.2.2.1, ((z1.2)).2.2.2.2.1, ((z1.2)).2.2.2.2.2.1, ((z1.2)).2.2.2.2.2.2.1, ((z1.2)).2.2.2.2.2.2.2.1, ((z1.2)).2.2.2.2.2.2.2.2.1, ((z1.2)).2.2.2.2.2.2.2.2.2.1, ((z1.2)).2.2.2.2.2.2.2.2.2.2.1, ((z1.2)).2.2.2.2.2.2.2.2.2.2.2.1, ((z1.2)).2.2.2.2.2.2.2.2.2.2.2.2⟩⟩)
  · show k_V E mX8_acts _ 0 [(0, .ref 123), (1, .int (iI 7)), (2, .int (iI a)), (3, .int (iI b)), (4, .int (iI c))] [] sh σ _ _ ((k_pP sh R_acts) (m_enrolNow σ a))
    refine k_iload_n dX8_acts_0 1 rfl rfl ?_
    refine k_tableIn (tgt := 105) dX8_acts_1 ⟨by decide, by decide⟩ (by decide) (by decide) rfl rfl ?_
    refine k_aload_n dX8_acts_105 0 rfl rfl (by decide) ?_
    refine k_iload_n dX8_acts_106 2 rfl rfl ?_
    refine k_callVrP (st := []) (as := [.int (iI (a))]) dX8_acts_107 oX8_enrolNow w_2040 w_2042 w_54 rfl (by omega) rfl (Nat.le_of_ble_eq_true rfl) (by decide) (s_123 hsh) rfl (c8_enrolNow hsh (show k_MA σ from ⟨(hMA).1, (hMA).2.1, (hMA).2.2.1, (hMA).2.2.2.1, (hMA).2.2.2.2.1, (hMA).2.2.2.2.2.1, (hMA).2.2.2.2.2.2.1, (hMA).2.2.2.2.2.2.2.1, (hMA).2.2.2.2.2.2.2.2.1, (hMA).2.2.2.2.2.2.2.2.2.1, (hMA).2.2.2.2.2.2.2.2.2.2.1, (hMA).2.2.2.2.2.2.2.2.2.2.2.1, (hMA).2.2.2.2.2.2.2.2.2.2.2.2⟩) (by omega)) (fun z1 => ?_)
    have z1 : (-1 ≤ (m_enrolNow σ a).1 ∧ (m_enrolNow σ a).1 ≤ 1000) ∧ k_MA (m_enrolNow σ a).2 := z1
    have z2 := z1.1
    obtain ⟨⟨y3_0, y3_0b⟩, ⟨y3_1, y3_1b⟩, ⟨y3_2, y3_2b⟩, ⟨y3_3, y3_3b⟩, -⟩ := id ((z1.2)).2.1
    obtain ⟨⟨f4_0, g4_0⟩, ⟨f4_1, g4_1⟩, ⟨f4_2, g4_2⟩, ⟨f4_3, g4_3⟩, ⟨f4_4, g4_4⟩, ⟨f4_5, g4_5⟩, ⟨f4_6, g4_6⟩, ⟨f4_7, g4_7⟩, ⟨f4_8, g4_8⟩, ⟨f4_9, g4_9⟩, ⟨f4_10, g4_10⟩, ⟨f4_11, g4_11⟩, ⟨f4_12, g4_12⟩, ⟨f4_13, g4_13⟩⟩ := id ((z1.2)).1
    exact k_retiP dX8_acts_110 rfl rfl rfl (show (-1 ≤ (m_enrolNow σ a).1 ∧ (m_enrolNow σ a).1 ≤ 1000) ∧ k_MA (m_enrolNow σ a).2 from ⟨by omega, ⟨((z1.2)).1, ((z1.2)).2.1, ((z1.2)).2.2.1, ((z1.2)).2.2.2.1, ((z1.2)).2.2.2.2.1, ((z1.2)).2.2.2.2.2.1, ((z1.2)).2.2.2.2.2.2.1, ((z1.2)).2.2.2.2.2.2.2.1, ((z1.2)).2.2.2.2.2.2.2.2.1, ((z1.2)).2.2.2.2.2.2.2.2.2.1, ((z1.2)).2.2.2.2.2.2.2.2.2.2.1, ((z1.2)).2.2.2.2.2.2.2.2.2.2.2.1, ((z1.2)).2.2.2.2.2.2.2.2.2.2.2.2⟩⟩)
  · show k_V E mX8_acts _ 0 [(0, .ref 123), (1, .int (iI 8)), (2, .int (iI a)), (3, .int (iI b)), (4, .int (iI c))] [] sh σ _ _ ((k_pP sh R_acts) (m_joinNow σ a b))
    refine k_iload_n dX8_acts_0 1 rfl rfl ?_
    refine k_tableIn (tgt := 111) dX8_acts_1 ⟨by decide, by decide⟩ (by decide) (by decide) rfl rfl ?_
    refine k_aload_n dX8_acts_111 0 rfl rfl (by decide) ?_
    refine k_iload_n dX8_acts_112 2 rfl rfl ?_
    refine k_iload_n dX8_acts_113 3 rfl rfl ?_
    refine k_callVrP (st := []) (as := [.int (iI (a)), .int (iI (b))]) dX8_acts_114 oX8_joinNow w_2148 w_2150 w_70 rfl (by omega) rfl (Nat.le_of_ble_eq_true rfl) (by decide) (s_123 hsh) rfl (c8_joinNow hsh (show k_MA σ from ⟨(hMA).1, (hMA).2.1, (hMA).2.2.1, (hMA).2.2.2.1, (hMA).2.2.2.2.1, (hMA).2.2.2.2.2.1, (hMA).2.2.2.2.2.2.1, (hMA).2.2.2.2.2.2.2.1, (hMA).2.2.2.2.2.2.2.2.1, (hMA).2.2.2.2.2.2.2.2.2.1, (hMA).2.2.2.2.2.2.2.2.2.2.1, (hMA).2.2.2.2.2.2.2.2.2.2.2.1, (hMA).2.2.2.2.2.2.2.2.2.2.2.2⟩) (by omega) (by omega)) (fun z1 => ?_)
    have z1 : (-1 ≤ (m_joinNow σ a b).1 ∧ (m_joinNow σ a b).1 ≤ 1000) ∧ k_MA (m_joinNow σ a b).2 := z1
    have z2 := z1.1
    obtain ⟨⟨y3_0, y3_0b⟩, ⟨y3_1, y3_1b⟩, ⟨y3_2, y3_2b⟩, ⟨y3_3, y3_3b⟩, -⟩ := id ((z1.2)).2.1
    obtain ⟨⟨f4_0, g4_0⟩, ⟨f4_1, g4_1⟩, ⟨f4_2, g4_2⟩, ⟨f4_3, g4_3⟩, ⟨f4_4, g4_4⟩, ⟨f4_5, g4_5⟩, ⟨f4_6, g4_6⟩, ⟨f4_7, g4_7⟩, ⟨f4_8, g4_8⟩, ⟨f4_9, g4_9⟩, ⟨f4_10, g4_10⟩, ⟨f4_11, g4_11⟩, ⟨f4_12, g4_12⟩, ⟨f4_13, g4_13⟩⟩ := id ((z1.2)).1
    exact k_retiP dX8_acts_117 rfl rfl rfl (show (-1 ≤ (m_joinNow σ a b).1 ∧ (m_joinNow σ a b).1 ≤ 1000) ∧ k_MA (m_joinNow σ a b).2 from ⟨by omega, ⟨((z1.2)).1, ((z1.2)).2.1, ((z1.2)).2.2.1, ((z1.2)).2.2.2.1, ((z1.2)).2.2.2.2.1, ((z1.2)).2.2.2.2.2.1, ((z1.2)).2.2.2.2.2.2.1, ((z1.2)).2.2.2.2.2.2.2.1, ((z1.2)).2.2.2.2.2.2.2.2.1, ((z1.2)).2.2.2.2.2.2.2.2.2.1, ((z1.2)).2.2.2.2.2.2.2.2.2.2.1, ((z1.2)).2.2.2.2.2.2.2.2.2.2.2.1, ((z1.2)).2.2.2.2.2.2.2.2.2.2.2.2⟩⟩)
  · show k_V E mX8_acts _ 0 [(0, .ref 123), (1, .int (iI 9)), (2, .int (iI a)), (3, .int (iI b)), (4, .int (iI c))] [] sh σ _ _ ((k_pP sh R_acts) (m_quitNow σ a b))
    refine k_iload_n dX8_acts_0 1 rfl rfl ?_
    refine k_tableIn (tgt := 118) dX8_acts_1 ⟨by decide, by decide⟩ (by decide) (by decide) rfl rfl ?_
    refine k_aload_n dX8_acts_118 0 rfl rfl (by decide) ?_
    refine k_iload_n dX8_acts_119 2 rfl rfl ?_
    refine k_iload_n dX8_acts_120 3 rfl rfl ?_
    refine k_callVrP (st := []) (as := [.int (iI (a)), .int (iI (b))]) dX8_acts_121 oX8_quitNow w_2160 w_2162 w_72 rfl (by omega) rfl (Nat.le_of_ble_eq_true rfl) (by decide) (s_123 hsh) rfl (c8_quitNow hsh (show k_MA σ from ⟨(hMA).1, (hMA).2.1, (hMA).2.2.1, (hMA).2.2.2.1, (hMA).2.2.2.2.1, (hMA).2.2.2.2.2.1, (hMA).2.2.2.2.2.2.1, (hMA).2.2.2.2.2.2.2.1, (hMA).2.2.2.2.2.2.2.2.1, (hMA).2.2.2.2.2.2.2.2.2.1, (hMA).2.2.2.2.2.2.2.2.2.2.1, (hMA).2.2.2.2.2.2.2.2.2.2.2.1, (hMA).2.2.2.2.2.2.2.2.2.2.2.2⟩) (by omega) (by omega)) (fun z1 => ?_)
    have z1 : (-1 ≤ (m_quitNow σ a b).1 ∧ (m_quitNow σ a b).1 ≤ 1000) ∧ k_MA (m_quitNow σ a b).2 := z1
    have z2 := z1.1
    obtain ⟨⟨y3_0, y3_0b⟩, ⟨y3_1, y3_1b⟩, ⟨y3_2, y3_2b⟩, ⟨y3_3, y3_3b⟩, -⟩ := id ((z1.2)).2.1
    obtain ⟨⟨f4_0, g4_0⟩, ⟨f4_1, g4_1⟩, ⟨f4_2, g4_2⟩, ⟨f4_3, g4_3⟩, ⟨f4_4, g4_4⟩, ⟨f4_5, g4_5⟩, ⟨f4_6, g4_6⟩, ⟨f4_7, g4_7⟩, ⟨f4_8, g4_8⟩, ⟨f4_9, g4_9⟩, ⟨f4_10, g4_10⟩, ⟨f4_11, g4_11⟩, ⟨f4_12, g4_12⟩, ⟨f4_13, g4_13⟩⟩ := id ((z1.2)).1
    exact k_retiP dX8_acts_124 rfl rfl rfl (show (-1 ≤ (m_quitNow σ a b).1 ∧ (m_quitNow σ a b).1 ≤ 1000) ∧ k_MA (m_quitNow σ a b).2 from ⟨by omega, ⟨((z1.2)).1, ((z1.2)).2.1, ((z1.2)).2.2.1, ((z1.2)).2.2.2.1, ((z1.2)).2.2.2.2.1, ((z1.2)).2.2.2.2.2.1, ((z1.2)).2.2.2.2.2.2.1, ((z1.2)).2.2.2.2.2.2.2.1, ((z1.2)).2.2.2.2.2.2.2.2.1, ((z1.2)).2.2.2.2.2.2.2.2.2.1, ((z1.2)).2.2.2.2.2.2.2.2.2.2.1, ((z1.2)).2.2.2.2.2.2.2.2.2.2.2.1, ((z1.2)).2.2.2.2.2.2.2.2.2.2.2.2⟩⟩)
  · show k_V E mX8_acts _ 0 [(0, .ref 123), (1, .int (iI 10)), (2, .int (iI a)), (3, .int (iI b)), (4, .int (iI c))] [] sh σ _ _ ((k_pP sh R_acts) (m_changeNow σ a b c))
    refine k_iload_n dX8_acts_0 1 rfl rfl ?_
    refine k_tableIn (tgt := 125) dX8_acts_1 ⟨by decide, by decide⟩ (by decide) (by decide) rfl rfl ?_
    refine k_aload_n dX8_acts_125 0 rfl rfl (by decide) ?_
    refine k_iload_n dX8_acts_126 2 rfl rfl ?_
    refine k_iload_n dX8_acts_127 3 rfl rfl ?_
    refine k_iload dX8_acts_128 4 rfl ?_
    refine k_callVrP (st := []) (as := [.int (iI (a)), .int (iI (b)), .int (iI (c))]) dX8_acts_130 oX8_changeNow w_2168 w_2170 w_73 rfl (by omega) rfl (Nat.le_of_ble_eq_true rfl) (by decide) (s_123 hsh) rfl (c8_changeNow hsh (show k_MA σ from ⟨(hMA).1, (hMA).2.1, (hMA).2.2.1, (hMA).2.2.2.1, (hMA).2.2.2.2.1, (hMA).2.2.2.2.2.1, (hMA).2.2.2.2.2.2.1, (hMA).2.2.2.2.2.2.2.1, (hMA).2.2.2.2.2.2.2.2.1, (hMA).2.2.2.2.2.2.2.2.2.1, (hMA).2.2.2.2.2.2.2.2.2.2.1, (hMA).2.2.2.2.2.2.2.2.2.2.2.1, (hMA).2.2.2.2.2.2.2.2.2.2.2.2⟩) (by omega) (by omega) (by omega)) (fun z1 => ?_)
    have z1 : (-1 ≤ (m_changeNow σ a b c).1 ∧ (m_changeNow σ a b c).1 ≤ 1000) ∧ k_MA (m_changeNow σ a b c).2 := z1
    have z2 := z1.1
    obtain ⟨⟨y3_0, y3_0b⟩, ⟨y3_1, y3_1b⟩, ⟨y3_2, y3_2b⟩, ⟨y3_3, y3_3b⟩, -⟩ := id ((z1.2)).2.1
    obtain ⟨⟨f4_0, g4_0⟩, ⟨f4_1, g4_1⟩, ⟨f4_2, g4_2⟩, ⟨f4_3, g4_3⟩, ⟨f4_4, g4_4⟩, ⟨f4_5, g4_5⟩, ⟨f4_6, g4_6⟩, ⟨f4_7, g4_7⟩, ⟨f4_8, g4_8⟩, ⟨f4_9, g4_9⟩, ⟨f4_10, g4_10⟩, ⟨f4_11, g4_11⟩, ⟨f4_12, g4_12⟩, ⟨f4_13, g4_13⟩⟩ := id ((z1.2)).1
    exact k_retiP dX8_acts_133 rfl rfl rfl (show (-1 ≤ (m_changeNow σ a b c).1 ∧ (m_changeNow σ a b c).1 ≤ 1000) ∧ k_MA (m_changeNow σ a b c).2 from ⟨by omega, ⟨((z1.2)).1, ((z1.2)).2.1, ((z1.2)).2.2.1, ((z1.2)).2.2.2.1, ((z1.2)).2.2.2.2.1, ((z1.2)).2.2.2.2.2.1, ((z1.2)).2.2.2.2.2.2.1, ((z1.2)).2.2.2.2.2.2.2.1, ((z1.2)).2.2.2.2.2.2.2.2.1, ((z1.2)).2.2.2.2.2.2.2.2.2.1, ((z1.2)).2.2.2.2.2.2.2.2.2.2.1, ((z1.2)).2.2.2.2.2.2.2.2.2.2.2.1, ((z1.2)).2.2.2.2.2.2.2.2.2.2.2.2⟩⟩)
  · show k_V E mX8_acts _ 0 [(0, .ref 123), (1, .int (iI 11)), (2, .int (iI a)), (3, .int (iI b)), (4, .int (iI c))] [] sh σ _ _ ((k_pP sh R_acts) (m_arrangeNow σ ))
    refine k_iload_n dX8_acts_0 1 rfl rfl ?_
    refine k_tableOut (tgt := 134) dX8_acts_1 ⟨by decide, by decide⟩ (by decide) rfl ?_
    refine k_aload_n dX8_acts_134 0 rfl rfl (by decide) ?_
    refine k_callVrP (st := []) (as := []) dX8_acts_135 oX8_arrangeNow w_2228 w_2230 w_78 rfl (by omega) rfl (Nat.le_of_ble_eq_true rfl) (by decide) (s_123 hsh) rfl (c8_arrangeNow hsh (show k_MA σ from ⟨(hMA).1, (hMA).2.1, (hMA).2.2.1, (hMA).2.2.2.1, (hMA).2.2.2.2.1, (hMA).2.2.2.2.2.1, (hMA).2.2.2.2.2.2.1, (hMA).2.2.2.2.2.2.2.1, (hMA).2.2.2.2.2.2.2.2.1, (hMA).2.2.2.2.2.2.2.2.2.1, (hMA).2.2.2.2.2.2.2.2.2.2.1, (hMA).2.2.2.2.2.2.2.2.2.2.2.1, (hMA).2.2.2.2.2.2.2.2.2.2.2.2⟩)) (fun z1 => ?_)
    have z1 : (-1 ≤ (m_arrangeNow σ).1 ∧ (m_arrangeNow σ).1 ≤ 1000) ∧ k_MA (m_arrangeNow σ).2 := z1
    have z2 := z1.1
    obtain ⟨⟨y3_0, y3_0b⟩, ⟨y3_1, y3_1b⟩, ⟨y3_2, y3_2b⟩, ⟨y3_3, y3_3b⟩, -⟩ := id ((z1.2)).2.1
    obtain ⟨⟨f4_0, g4_0⟩, ⟨f4_1, g4_1⟩, ⟨f4_2, g4_2⟩, ⟨f4_3, g4_3⟩, ⟨f4_4, g4_4⟩, ⟨f4_5, g4_5⟩, ⟨f4_6, g4_6⟩, ⟨f4_7, g4_7⟩, ⟨f4_8, g4_8⟩, ⟨f4_9, g4_9⟩, ⟨f4_10, g4_10⟩, ⟨f4_11, g4_11⟩, ⟨f4_12, g4_12⟩, ⟨f4_13, g4_13⟩⟩ := id ((z1.2)).1
    exact k_retiP dX8_acts_138 rfl rfl rfl (show (-1 ≤ (m_arrangeNow σ).1 ∧ (m_arrangeNow σ).1 ≤ 1000) ∧ k_MA (m_arrangeNow σ).2 from ⟨by omega, ⟨((z1.2)).1, ((z1.2)).2.1, ((z1.2)).2.2.1, ((z1.2)).2.2.2.1, ((z1.2)).2.2.2.2.1, ((z1.2)).2.2.2.2.2.1, ((z1.2)).2.2.2.2.2.2.1, ((z1.2)).2.2.2.2.2.2.2.1, ((z1.2)).2.2.2.2.2.2.2.2.1, ((z1.2)).2.2.2.2.2.2.2.2.2.1, ((z1.2)).2.2.2.2.2.2.2.2.2.2.1, ((z1.2)).2.2.2.2.2.2.2.2.2.2.2.1, ((z1.2)).2.2.2.2.2.2.2.2.2.2.2.2⟩⟩)
abbrev R_execute (t : Int × (Nat → Nat → Int)) : Prop := (-1 ≤ t.1 ∧ t.1 ≤ 1000) ∧ k_MA t.2
def r_execute_51 (σ : Nat → Nat → Int) (x51 : (Nat → Nat → Int)) : Int × (Nat → Nat → Int) := ((m_ends x51 ((x51 123) 29) 0 0).1, (m_ends x51 ((x51 123) 29) 0 0).2)
def b_execute_51 (σ : Nat → Nat → Int) (i51 : Nat) (x51 : (Nat → Nat → Int)) : (Int × (Nat → Nat → Int)) ⊕ ((Nat → Nat → Int)) := if (((m_acts x51 ((x51 138) ((i51 : Int)).toNat) ((x51 139) (3 * ((i51 : Int))).toNat) ((x51 139) ((3 * ((i51 : Int))) + 1).toNat) ((x51 139) ((3 * ((i51 : Int))) + 2).toNat)).2 123) 8) = 0 then .inr ((m_acts x51 ((x51 138) ((i51 : Int)).toNat) ((x51 139) (3 * ((i51 : Int))).toNat) ((x51 139) ((3 * ((i51 : Int))) + 1).toNat) ((x51 139) ((3 * ((i51 : Int))) + 2).toNat)).2) else .inl ((0, (k_up (k_up (m_acts x51 ((x51 138) ((i51 : Int)).toNat) ((x51 139) (3 * ((i51 : Int))).toNat) ((x51 139) ((3 * ((i51 : Int))) + 1).toNat) ((x51 139) ((3 * ((i51 : Int))) + 2).toNat)).2 123 (k_u1 (k_u1 (k_u1 ((m_acts x51 ((x51 138) ((i51 : Int)).toNat) ((x51 139) (3 * ((i51 : Int))).toNat) ((x51 139) ((3 * ((i51 : Int))) + 1).toNat) ((x51 139) ((3 * ((i51 : Int))) + 2).toNat)).2 123) 11 ((i51 : Int))) 12 (((m_acts x51 ((x51 138) ((i51 : Int)).toNat) ((x51 139) (3 * ((i51 : Int))).toNat) ((x51 139) ((3 * ((i51 : Int))) + 1).toNat) ((x51 139) ((3 * ((i51 : Int))) + 2).toNat)).2 123) 8)) 7 (2))) 124 ((m_acts x51 ((x51 138) ((i51 : Int)).toNat) ((x51 139) (3 * ((i51 : Int))).toNat) ((x51 139) ((3 * ((i51 : Int))) + 1).toNat) ((x51 139) ((3 * ((i51 : Int))) + 2).toNat)).2 127))))
def m_execute (σ : Nat → Nat → Int) : Int × (Nat → Nat → Int) := if ((m_parses (k_up σ 123 (k_u1 (k_u1 (σ 123) 28 ((σ 123) 16)) 16 (0)))).1) = (-1) then k_els (r_execute_51 σ) (k_for (b_execute_51 σ) ((((m_parses (k_up σ 123 (k_u1 (k_u1 (σ 123) 28 ((σ 123) 16)) 16 (0)))).2 123) 29).toNat) 0 ((k_up (k_up (k_up (m_parses (k_up σ 123 (k_u1 (k_u1 (σ 123) 28 ((σ 123) 16)) 16 (0)))).2 123 (k_u1 ((m_parses (k_up σ 123 (k_u1 (k_u1 (σ 123) 28 ((σ 123) 16)) 16 (0)))).2 123) 8 (0))) 125 ((m_parses (k_up σ 123 (k_u1 (k_u1 (σ 123) 28 ((σ 123) 16)) 16 (0)))).2 124)) 127 ((m_parses (k_up σ 123 (k_u1 (k_u1 (σ 123) 28 ((σ 123) 16)) 16 (0)))).2 124)))) else (0, (k_up (m_parses (k_up σ 123 (k_u1 (k_u1 (σ 123) 28 ((σ 123) 16)) 16 (0)))).2 123 (k_u1 (k_u1 ((m_parses (k_up σ 123 (k_u1 (k_u1 (σ 123) 28 ((σ 123) 16)) 16 (0)))).2 123) 10 ((m_parses (k_up σ 123 (k_u1 (k_u1 (σ 123) 28 ((σ 123) 16)) 16 (0)))).1)) 7 (1))))
set_option maxRecDepth 100000 in
set_option maxHeartbeats 4000000 in
theorem c8_execute (hsh : k_Main sh) (hMA : k_MA σ) (w_hFo : k_Fo σ)  : k_C E mX8_execute 10 [.ref 123] sh σ 0 0 ((k_pP sh (R_execute)) (m_execute σ)) := by
  refine k_C_of (ls0 := [(0, .ref 123)]) rfl pnX8 (fun v hv => k_cat1 rfl hv) (Nat.le_of_ble_eq_true rfl) rfl ?_
  obtain ⟨⟨t0, t0b⟩, ⟨t1, t1b⟩, ⟨t2, t2b⟩, ⟨t3, t3b⟩, -⟩ := id hMA.2.1
  obtain ⟨⟨f31_0, g31_0⟩, ⟨f31_1, g31_1⟩, ⟨f31_2, g31_2⟩, ⟨f31_3, g31_3⟩, ⟨f31_4, g31_4⟩, ⟨f31_5, g31_5⟩, ⟨f31_6, g31_6⟩, ⟨f31_7, g31_7⟩, ⟨f31_8, g31_8⟩, ⟨f31_9, g31_9⟩, ⟨f31_10, g31_10⟩, ⟨f31_11, g31_11⟩, ⟨f31_12, g31_12⟩, ⟨f31_13, g31_13⟩⟩ := id hMA.1
  unfold m_execute
  refine k_aload_n dX8_execute_0 0 rfl rfl (by decide) ?_
  refine k_aload_n dX8_execute_1 0 rfl rfl (by decide) ?_
  refine k_get (kf := 16) (v := .int (iI ((σ 123) 16))) dX8_execute_2 kcX8 w_1763 (by decide) (by decide) (s_123 hsh) rfl rfl ?_
  refine k_putfW (kf := 28) dX8_execute_5 kcX8 w_1775 (by decide) (by decide) (s_123 hsh) rfl rfl rfl rfl ?_
  refine k_eqσ (σ' := (k_up σ 123 (k_u1 (σ 123) 28 ((σ 123) 16)))) rfl ?_
  refine k_aload_n dX8_execute_8 0 rfl rfl (by decide) ?_
  refine k_iconst (v := 0) dX8_execute_9 rfl ?_
  refine k_putfW (kf := 16) dX8_execute_10 kcX8 w_1763 (by decide) (by decide) (s_123 hsh) rfl rfl rfl rfl ?_
  refine k_eqσ (σ' := (k_up σ 123 (k_u1 (k_u1 (σ 123) 28 ((σ 123) 16)) 16 (0)))) (show k_up (k_up σ 123 (k_u1 (σ 123) 28 ((σ 123) 16))) 123 (k_u1 (k_u1 (σ 123) 28 ((σ 123) 16)) 16 (0)) = _ from k_up_up).symm ?_
  refine k_aload_n dX8_execute_13 0 rfl rfl (by decide) ?_
  refine k_callVrP (st := []) (as := []) dX8_execute_14 oX8_parses w_2252 w_2254 w_80 rfl (by omega) rfl (Nat.le_of_ble_eq_true rfl) (by decide) (s_123 hsh) rfl (c8_parses (σ := (k_up σ 123 (k_u1 (k_u1 (σ 123) 28 ((σ 123) 16)) 16 (0)))) hsh (show k_MA (k_up σ 123 (k_u1 (k_u1 (σ 123) 28 ((σ 123) 16)) 16 (0))) from ⟨(show k_F0 (k_u1 (k_u1 (σ 123) 28 ((σ 123) 16)) 16 (0)) from (k_F0_u (show k_F0 (k_u1 (σ 123) 28 ((σ 123) 16)) from (k_F0_u (hMA).1 (by omega))) (by omega))), (hMA).2.1, (hMA).2.2.1, (hMA).2.2.2.1, (hMA).2.2.2.2.1, (hMA).2.2.2.2.2.1, (hMA).2.2.2.2.2.2.1, (hMA).2.2.2.2.2.2.2.1, (hMA).2.2.2.2.2.2.2.2.1, (hMA).2.2.2.2.2.2.2.2.2.1, (hMA).2.2.2.2.2.2.2.2.2.2.1, (hMA).2.2.2.2.2.2.2.2.2.2.2.1, (hMA).2.2.2.2.2.2.2.2.2.2.2.2⟩) w_hFo) (fun z1 => ?_)
  have z1 : (-1 ≤ (m_parses (k_up σ 123 (k_u1 (k_u1 (σ 123) 28 ((σ 123) 16)) 16 (0)))).1 ∧ (m_parses (k_up σ 123 (k_u1 (k_u1 (σ 123) 28 ((σ 123) 16)) 16 (0)))).1 ≤ 60) ∧ k_MA (m_parses (k_up σ 123 (k_u1 (k_u1 (σ 123) 28 ((σ 123) 16)) 16 (0)))).2 := z1
  have z2 := z1.1
  obtain ⟨⟨y3_0, y3_0b⟩, ⟨y3_1, y3_1b⟩, ⟨y3_2, y3_2b⟩, ⟨y3_3, y3_3b⟩, -⟩ := id ((z1.2)).2.1
  obtain ⟨⟨f4_0, g4_0⟩, ⟨f4_1, g4_1⟩, ⟨f4_2, g4_2⟩, ⟨f4_3, g4_3⟩, ⟨f4_4, g4_4⟩, ⟨f4_5, g4_5⟩, ⟨f4_6, g4_6⟩, ⟨f4_7, g4_7⟩, ⟨f4_8, g4_8⟩, ⟨f4_9, g4_9⟩, ⟨f4_10, g4_10⟩, ⟨f4_11, g4_11⟩, ⟨f4_12, g4_12⟩, ⟨f4_13, g4_13⟩⟩ := id ((z1.2)).1
  refine k_istore_n (ls' := [(0, .ref 123), (1, .int (iI ((m_parses (k_up σ 123 (k_u1 (k_u1 (σ 123) 28 ((σ 123) 16)) 16 (0)))).1)))]) dX8_execute_17 rfl (by decide) rfl rfl ?_
  refine k_iload_n dX8_execute_18 1 rfl rfl ?_
  refine k_iconst (v := (-1)) dX8_execute_19 rfl ?_
  refine k_icmp_eq (tgt := 34) dX8_execute_20 rfl ⟨by omega, by omega⟩ ⟨by decide, by decide⟩ (fun h5 => ?_) (fun h5 => ?_)
  · refine k_ift (F := (k_pP sh (R_execute))) h5 ?_
    refine k_aload_n dX8_execute_34 0 rfl rfl (by decide) ?_
    refine k_callVr (st := []) (as := []) dX8_execute_35 oX8_begins w_1873 w_1875 w_33 rfl (by omega) rfl (Nat.le_of_ble_eq_true rfl) (by decide) (s_123 hsh) rfl (c8_begins hsh) ?_
    refine k_eqσ (σ' := (k_up (k_up (m_parses (k_up σ 123 (k_u1 (k_u1 (σ 123) 28 ((σ 123) 16)) 16 (0)))).2 123 (k_u1 ((m_parses (k_up σ 123 (k_u1 (k_u1 (σ 123) 28 ((σ 123) 16)) 16 (0)))).2 123) 8 (0))) 125 ((m_parses (k_up σ 123 (k_u1 (k_u1 (σ 123) 28 ((σ 123) 16)) 16 (0)))).2 124))) (((congrArg (fun s => k_up s 125 ((m_parses (k_up σ 123 (k_u1 (k_u1 (σ 123) 28 ((σ 123) 16)) 16 (0)))).2 124)) (show k_up (m_parses (k_up σ 123 (k_u1 (k_u1 (σ 123) 28 ((σ 123) 16)) 16 (0)))).2 123 (k_u1 ((m_parses (k_up σ 123 (k_u1 (k_u1 (σ 123) 28 ((σ 123) 16)) 16 (0)))).2 123) 8 (0)) = (k_up (m_parses (k_up σ 123 (k_u1 (k_u1 (σ 123) 28 ((σ 123) 16)) 16 (0)))).2 123 (k_u1 ((m_parses (k_up σ 123 (k_u1 (k_u1 (σ 123) 28 ((σ 123) 16)) 16 (0)))).2 123) 8 (0))) from rfl)).trans (show k_up (k_up (m_parses (k_up σ 123 (k_u1 (k_u1 (σ 123) 28 ((σ 123) 16)) 16 (0)))).2 123 (k_u1 ((m_parses (k_up σ 123 (k_u1 (k_u1 (σ 123) 28 ((σ 123) 16)) 16 (0)))).2 123) 8 (0))) 125 ((m_parses (k_up σ 123 (k_u1 (k_u1 (σ 123) 28 ((σ 123) 16)) 16 (0)))).2 124) = (k_up (k_up (m_parses (k_up σ 123 (k_u1 (k_u1 (σ 123) 28 ((σ 123) 16)) 16 (0)))).2 123 (k_u1 ((m_parses (k_up σ 123 (k_u1 (k_u1 (σ 123) 28 ((σ 123) 16)) 16 (0)))).2 123) 8 (0))) 125 ((m_parses (k_up σ 123 (k_u1 (k_u1 (σ 123) 28 ((σ 123) 16)) 16 (0)))).2 124)) from rfl))).symm ?_
    refine k_aload_n dX8_execute_38 0 rfl rfl (by decide) ?_
    refine k_get (kf := 0) (v := .ref 124) dX8_execute_39 kcX8 w_1747 (by decide) (by decide) (s_123 hsh) rfl rfl ?_
    refine k_aload_n dX8_execute_42 0 rfl rfl (by decide) ?_
    refine k_get (kf := 3) (v := .ref 127) dX8_execute_43 kcX8 w_1750 (by decide) (by decide) (s_123 hsh) rfl rfl ?_
    refine k_callSr (st := []) (as := [.ref 124, .ref 127]) dX8_execute_46 oX8_copies w_1862 w_1863 rfl (by omega) rfl (Nat.le_of_ble_eq_true rfl) (c8_copies (by decide) (by decide) (s_124 hsh) (s_127 hsh) (by decide)) ?_
    refine k_eqσ (σ' := (k_up (k_up (k_up (m_parses (k_up σ 123 (k_u1 (k_u1 (σ 123) 28 ((σ 123) 16)) 16 (0)))).2 123 (k_u1 ((m_parses (k_up σ 123 (k_u1 (k_u1 (σ 123) 28 ((σ 123) 16)) 16 (0)))).2 123) 8 (0))) 125 ((m_parses (k_up σ 123 (k_u1 (k_u1 (σ 123) 28 ((σ 123) 16)) 16 (0)))).2 124)) 127 ((m_parses (k_up σ 123 (k_u1 (k_u1 (σ 123) 28 ((σ 123) 16)) 16 (0)))).2 124))) ((show k_up (k_up (k_up (m_parses (k_up σ 123 (k_u1 (k_u1 (σ 123) 28 ((σ 123) 16)) 16 (0)))).2 123 (k_u1 ((m_parses (k_up σ 123 (k_u1 (k_u1 (σ 123) 28 ((σ 123) 16)) 16 (0)))).2 123) 8 (0))) 125 ((m_parses (k_up σ 123 (k_u1 (k_u1 (σ 123) 28 ((σ 123) 16)) 16 (0)))).2 124)) 127 ((m_parses (k_up σ 123 (k_u1 (k_u1 (σ 123) 28 ((σ 123) 16)) 16 (0)))).2 124) = (k_up (k_up (k_up (m_parses (k_up σ 123 (k_u1 (k_u1 (σ 123) 28 ((σ 123) 16)) 16 (0)))).2 123 (k_u1 ((m_parses (k_up σ 123 (k_u1 (k_u1 (σ 123) 28 ((σ 123) 16)) 16 (0)))).2 123) 8 (0))) 125 ((m_parses (k_up σ 123 (k_u1 (k_u1 (σ 123) 28 ((σ 123) 16)) 16 (0)))).2 124)) 127 ((m_parses (k_up σ 123 (k_u1 (k_u1 (σ 123) 28 ((σ 123) 16)) 16 (0)))).2 124)) from rfl)).symm ?_
    refine k_iconst (v := 0) dX8_execute_49 rfl ?_
    refine k_istore_n (ls' := [(0, .ref 123), (1, .int (iI ((m_parses (k_up σ 123 (k_u1 (k_u1 (σ 123) 28 ((σ 123) 16)) 16 (0)))).1))), (2, .int (iI (0)))]) dX8_execute_50 rfl (by decide) rfl rfl ?_
    refine k_loopR (α := (Nat → Nat → Int)) (P := fun (i51 : Nat) (x51 : (Nat → Nat → Int)) Q => k_V E mX8_execute _ 51 [(0, .ref 123), (1, .int (iI ((m_parses (k_up σ 123 (k_u1 (k_u1 (σ 123) 28 ((σ 123) 16)) 16 (0)))).1))), (2, .int (iI ((i51 : Int))))] [] sh x51 _ _ Q) (J := fun (i51 : Nat) (x51 : (Nat → Nat → Int)) => k_MA x51 ∧ x51 123 29 = ((m_parses (k_up σ 123 (k_u1 (k_u1 (σ 123) 28 ((σ 123) 16)) 16 (0)))).2 123) 29 ∧ k_Mo (x51 127)) ((((m_parses (k_up σ 123 (k_u1 (k_u1 (σ 123) 28 ((σ 123) 16)) 16 (0)))).2 123) 29).toNat) (b_execute_51 σ) ((k_up (k_up (k_up (m_parses (k_up σ 123 (k_u1 (k_u1 (σ 123) 28 ((σ 123) 16)) 16 (0)))).2 123 (k_u1 ((m_parses (k_up σ 123 (k_u1 (k_u1 (σ 123) 28 ((σ 123) 16)) 16 (0)))).2 123) 8 (0))) 125 ((m_parses (k_up σ 123 (k_u1 (k_u1 (σ 123) 28 ((σ 123) 16)) 16 (0)))).2 124)) 127 ((m_parses (k_up σ 123 (k_u1 (k_u1 (σ 123) 28 ((σ 123) 16)) 16 (0)))).2 124))) (F := fun t => (k_pP sh (R_execute)) (k_els (r_execute_51 σ) t)) (show k_MA ((k_up (k_up (k_up (m_parses (k_up σ 123 (k_u1 (k_u1 (σ 123) 28 ((σ 123) 16)) 16 (0)))).2 123 (k_u1 ((m_parses (k_up σ 123 (k_u1 (k_u1 (σ 123) 28 ((σ 123) 16)) 16 (0)))).2 123) 8 (0))) 125 ((m_parses (k_up σ 123 (k_u1 (k_u1 (σ 123) 28 ((σ 123) 16)) 16 (0)))).2 124)) 127 ((m_parses (k_up σ 123 (k_u1 (k_u1 (σ 123) 28 ((σ 123) 16)) 16 (0)))).2 124))) ∧ ((k_up (k_up (k_up (m_parses (k_up σ 123 (k_u1 (k_u1 (σ 123) 28 ((σ 123) 16)) 16 (0)))).2 123 (k_u1 ((m_parses (k_up σ 123 (k_u1 (k_u1 (σ 123) 28 ((σ 123) 16)) 16 (0)))).2 123) 8 (0))) 125 ((m_parses (k_up σ 123 (k_u1 (k_u1 (σ 123) 28 ((σ 123) 16)) 16 (0)))).2 124)) 127 ((m_parses (k_up σ 123 (k_u1 (k_u1 (σ 123) 28 ((σ 123) 16)) 16 (0)))).2 124))) 123 29 = ((m_parses (k_up σ 123 (k_u1 (k_u1 (σ 123) 28 ((σ 123) 16)) 16 (0)))).2 123) 29 ∧ k_Mo (((k_up (k_up (k_up (m_parses (k_up σ 123 (k_u1 (k_u1 (σ 123) 28 ((σ 123) 16)) 16 (0)))).2 123 (k_u1 ((m_parses (k_up σ 123 (k_u1 (k_u1 (σ 123) 28 ((σ 123) 16)) 16 (0)))).2 123) 8 (0))) 125 ((m_parses (k_up σ 123 (k_u1 (k_u1 (σ 123) 28 ((σ 123) 16)) 16 (0)))).2 124)) 127 ((m_parses (k_up σ 123 (k_u1 (k_u1 (σ 123) 28 ((σ 123) 16)) 16 (0)))).2 124))) 127) from ⟨⟨(show k_F0 (k_u1 ((m_parses (k_up σ 123 (k_u1 (k_u1 (σ 123) 28 ((σ 123) 16)) 16 (0)))).2 123) 8 (0)) from (k_F0_u ((z1.2)).1 (by omega))), ((z1.2)).2.1, ((z1.2)).2.2.1, ((z1.2)).2.2.2.1, ((z1.2)).2.2.2.2.1, ((z1.2)).2.2.2.2.2.1, ((z1.2)).2.2.2.2.2.2.1, ((z1.2)).2.2.2.2.2.2.2.1, ((z1.2)).2.2.2.2.2.2.2.2.1, ((z1.2)).2.2.2.2.2.2.2.2.2.1, ((z1.2)).2.2.2.2.2.2.2.2.2.2.1, ((z1.2)).2.2.2.2.2.2.2.2.2.2.2.1, ((z1.2)).2.2.2.2.2.2.2.2.2.2.2.2⟩, rfl, (show k_Mo ((m_parses (k_up σ 123 (k_u1 (k_u1 (σ 123) 28 ((σ 123) 16)) 16 (0)))).2 124) from ((z1.2)).2.1)⟩) ?_ ?_
    · intro x51 hJ51
      have hJ51 : k_MA x51 ∧ x51 123 29 = ((m_parses (k_up σ 123 (k_u1 (k_u1 (σ 123) 28 ((σ 123) 16)) 16 (0)))).2 123) 29 ∧ k_Mo (x51 127) := hJ51
      have hU51 := hJ51
      obtain ⟨⟨f9_0, g9_0⟩, ⟨f9_1, g9_1⟩, ⟨f9_2, g9_2⟩, ⟨f9_3, g9_3⟩, ⟨f9_4, g9_4⟩, ⟨f9_5, g9_5⟩, ⟨f9_6, g9_6⟩, ⟨f9_7, g9_7⟩, ⟨f9_8, g9_8⟩, ⟨f9_9, g9_9⟩, ⟨f9_10, g9_10⟩, ⟨f9_11, g9_11⟩, ⟨f9_12, g9_12⟩, ⟨f9_13, g9_13⟩⟩ := id hU51.1.1
      obtain ⟨⟨y10_0, y10_0b⟩, ⟨y10_1, y10_1b⟩, ⟨y10_2, y10_2b⟩, ⟨y10_3, y10_3b⟩, -⟩ := id hU51.1.2.1
      show k_V E mX8_execute _ 51 [(0, .ref 123), (1, .int (iI ((m_parses (k_up σ 123 (k_u1 (k_u1 (σ 123) 28 ((σ 123) 16)) 16 (0)))).1))), (2, .int (iI ((((((m_parses (k_up σ 123 (k_u1 (k_u1 (σ 123) 28 ((σ 123) 16)) 16 (0)))).2 123) 29).toNat : Nat) : Int))))] [] sh x51 _ _ ((k_pP sh (R_execute)) ((r_execute_51 σ) x51))
      unfold r_execute_51
      refine k_iload_n dX8_execute_51 2 rfl rfl ?_
      refine k_aload_n dX8_execute_52 0 rfl rfl (by decide) ?_
      refine k_get (kf := 29) (v := .int (iI ((x51 123) 29))) dX8_execute_53 kcX8 w_1776 (by decide) (by decide) (s_123 hsh) rfl rfl ?_
      refine k_icmp_ge (tgt := 144) dX8_execute_56 rfl ⟨by omega, by omega⟩ ⟨by omega, by omega⟩ (fun h11 => ?_) (fun h11 => absurd h11 (by omega))
      refine k_aload_n dX8_execute_144 0 rfl rfl (by decide) ?_
      refine k_aload_n dX8_execute_145 0 rfl rfl (by decide) ?_
      refine k_get (kf := 29) (v := .int (iI ((x51 123) 29))) dX8_execute_146 kcX8 w_1776 (by decide) (by decide) (s_123 hsh) rfl rfl ?_
      refine k_iconst (v := 0) dX8_execute_149 rfl ?_
      refine k_iconst (v := 0) dX8_execute_150 rfl ?_
      refine k_callVrP (st := []) (as := [.int (iI ((x51 123) 29)), .int (iI (0)), .int (iI (0))]) dX8_execute_151 oX8_ends w_1888 w_1890 w_36 rfl (by omega) rfl (Nat.le_of_ble_eq_true rfl) (by decide) (s_123 hsh) rfl (c8_ends (σ := x51) hsh (show k_MA x51 from ⟨(hU51.1).1, (hU51.1).2.1, (hU51.1).2.2.1, (hU51.1).2.2.2.1, (hU51.1).2.2.2.2.1, (hU51.1).2.2.2.2.2.1, (hU51.1).2.2.2.2.2.2.1, (hU51.1).2.2.2.2.2.2.2.1, (hU51.1).2.2.2.2.2.2.2.2.1, (hU51.1).2.2.2.2.2.2.2.2.2.1, (hU51.1).2.2.2.2.2.2.2.2.2.2.1, (hU51.1).2.2.2.2.2.2.2.2.2.2.2.1, (hU51.1).2.2.2.2.2.2.2.2.2.2.2.2⟩) (by omega) (by omega) (by omega)) (fun z12 => ?_)
      have z12 : (-1 ≤ (m_ends x51 ((x51 123) 29) 0 0).1 ∧ (m_ends x51 ((x51 123) 29) 0 0).1 ≤ 1000) ∧ k_MA (m_ends x51 ((x51 123) 29) 0 0).2 := z12
      have z13 := z12.1
      obtain ⟨⟨y14_0, y14_0b⟩, ⟨y14_1, y14_1b⟩, ⟨y14_2, y14_2b⟩, ⟨y14_3, y14_3b⟩, -⟩ := id ((z12.2)).2.1
      obtain ⟨⟨f15_0, g15_0⟩, ⟨f15_1, g15_1⟩, ⟨f15_2, g15_2⟩, ⟨f15_3, g15_3⟩, ⟨f15_4, g15_4⟩, ⟨f15_5, g15_5⟩, ⟨f15_6, g15_6⟩, ⟨f15_7, g15_7⟩, ⟨f15_8, g15_8⟩, ⟨f15_9, g15_9⟩, ⟨f15_10, g15_10⟩, ⟨f15_11, g15_11⟩, ⟨f15_12, g15_12⟩, ⟨f15_13, g15_13⟩⟩ := id ((z12.2)).1
      exact k_retiP dX8_execute_154 rfl rfl rfl (show (-1 ≤ (m_ends x51 ((x51 123) 29) 0 0).1 ∧ (m_ends x51 ((x51 123) 29) 0 0).1 ≤ 1000) ∧ k_MA (m_ends x51 ((x51 123) 29) 0 0).2 from ⟨by omega, ⟨((z12.2)).1, ((z12.2)).2.1, ((z12.2)).2.2.1, ((z12.2)).2.2.2.1, ((z12.2)).2.2.2.2.1, ((z12.2)).2.2.2.2.2.1, ((z12.2)).2.2.2.2.2.2.1, ((z12.2)).2.2.2.2.2.2.2.1, ((z12.2)).2.2.2.2.2.2.2.2.1, ((z12.2)).2.2.2.2.2.2.2.2.2.1, ((z12.2)).2.2.2.2.2.2.2.2.2.2.1, ((z12.2)).2.2.2.2.2.2.2.2.2.2.2.1, ((z12.2)).2.2.2.2.2.2.2.2.2.2.2.2⟩⟩)
    · intro n51 i51 x51 hi51 hJ51 ih51
      have hJ51 : k_MA x51 ∧ x51 123 29 = ((m_parses (k_up σ 123 (k_u1 (k_u1 (σ 123) 28 ((σ 123) 16)) 16 (0)))).2 123) 29 ∧ k_Mo (x51 127) := hJ51
      have hU51 := hJ51
      obtain ⟨⟨f16_0, g16_0⟩, ⟨f16_1, g16_1⟩, ⟨f16_2, g16_2⟩, ⟨f16_3, g16_3⟩, ⟨f16_4, g16_4⟩, ⟨f16_5, g16_5⟩, ⟨f16_6, g16_6⟩, ⟨f16_7, g16_7⟩, ⟨f16_8, g16_8⟩, ⟨f16_9, g16_9⟩, ⟨f16_10, g16_10⟩, ⟨f16_11, g16_11⟩, ⟨f16_12, g16_12⟩, ⟨f16_13, g16_13⟩⟩ := id hU51.1.1
      obtain ⟨⟨y17_0, y17_0b⟩, ⟨y17_1, y17_1b⟩, ⟨y17_2, y17_2b⟩, ⟨y17_3, y17_3b⟩, -⟩ := id hU51.1.2.1
      show k_V E mX8_execute _ 51 [(0, .ref 123), (1, .int (iI ((m_parses (k_up σ 123 (k_u1 (k_u1 (σ 123) 28 ((σ 123) 16)) 16 (0)))).1))), (2, .int (iI ((i51 : Int))))] [] sh x51 _ _ ((fun t => (k_pP sh (R_execute)) (k_els (r_execute_51 σ) (k_cn2 (k_for (b_execute_51 σ) n51 (i51 + 1)) t))) ((b_execute_51 σ) i51 x51))
      unfold b_execute_51
      refine k_iload_n dX8_execute_51 2 rfl rfl ?_
      refine k_aload_n dX8_execute_52 0 rfl rfl (by decide) ?_
      refine k_get (kf := 29) (v := .int (iI ((x51 123) 29))) dX8_execute_53 kcX8 w_1776 (by decide) (by decide) (s_123 hsh) rfl rfl ?_
      refine k_icmp_ge (tgt := 144) dX8_execute_56 rfl ⟨by omega, by omega⟩ ⟨by omega, by omega⟩ (fun h18 => absurd h18 (by omega)) (fun h18 => ?_)
      refine k_aload_n dX8_execute_59 0 rfl rfl (by decide) ?_
      refine k_aload_n dX8_execute_60 0 rfl rfl (by decide) ?_
      refine k_get (kf := 25) (v := .ref 138) dX8_execute_61 kcX8 w_1772 (by decide) (by decide) (s_123 hsh) rfl rfl ?_
      refine k_iload_n dX8_execute_64 2 rfl rfl ?_
      refine k_iald dX8_execute_65 (by decide) (s_138 hsh) (by omega) (by omega) (by decide) ?_
      have q19 := (hU51.1).2.2.2.2.2.2.2.2.2.2.1 ((i51 : Int)).toNat
      refine k_aload_n dX8_execute_66 0 rfl rfl (by decide) ?_
      refine k_get (kf := 26) (v := .ref 139) dX8_execute_67 kcX8 w_1773 (by decide) (by decide) (s_123 hsh) rfl rfl ?_
      refine k_iconst (v := 3) dX8_execute_70 rfl ?_
      refine k_iload_n dX8_execute_71 2 rfl rfl ?_
      refine k_imul dX8_execute_72 ?_
      refine k_iald dX8_execute_73 (by decide) (s_139 hsh) (by omega) (by omega) (by decide) ?_
      have q20 := (hU51.1).2.2.2.2.2.2.2.2.2.2.2.1 (3 * ((i51 : Int))).toNat
      refine k_aload_n dX8_execute_74 0 rfl rfl (by decide) ?_
      refine k_get (kf := 26) (v := .ref 139) dX8_execute_75 kcX8 w_1773 (by decide) (by decide) (s_123 hsh) rfl rfl ?_
      refine k_iconst (v := 3) dX8_execute_78 rfl ?_
      refine k_iload_n dX8_execute_79 2 rfl rfl ?_
      refine k_imul dX8_execute_80 ?_
      refine k_iconst (v := 1) dX8_execute_81 rfl ?_
      refine k_iadd dX8_execute_82 ?_
      refine k_iald dX8_execute_83 (by decide) (s_139 hsh) (by omega) (by omega) (by decide) ?_
      have q21 := (hU51.1).2.2.2.2.2.2.2.2.2.2.2.1 ((3 * ((i51 : Int))) + 1).toNat
      refine k_aload_n dX8_execute_84 0 rfl rfl (by decide) ?_
      refine k_get (kf := 26) (v := .ref 139) dX8_execute_85 kcX8 w_1773 (by decide) (by decide) (s_123 hsh) rfl rfl ?_
      refine k_iconst (v := 3) dX8_execute_88 rfl ?_
      refine k_iload_n dX8_execute_89 2 rfl rfl ?_
      refine k_imul dX8_execute_90 ?_
      refine k_iconst (v := 2) dX8_execute_91 rfl ?_
      refine k_iadd dX8_execute_92 ?_
      refine k_iald dX8_execute_93 (by decide) (s_139 hsh) (by omega) (by omega) (by decide) ?_
      have q22 := (hU51.1).2.2.2.2.2.2.2.2.2.2.2.1 ((3 * ((i51 : Int))) + 2).toNat
      refine k_callVrP (st := []) (as := [.int (iI ((x51 138) ((i51 : Int)).toNat)), .int (iI ((x51 139) (3 * ((i51 : Int))).toNat)), .int (iI ((x51 139) ((3 * ((i51 : Int))) + 1).toNat)), .int (iI ((x51 139) ((3 * ((i51 : Int))) + 2).toNat))]) dX8_execute_94 oX8_acts w_2266 w_2268 w_83 rfl (by omega) rfl (Nat.le_of_ble_eq_true rfl) (by decide) (s_123 hsh) rfl (c8_acts (σ := x51) hsh (show k_MA x51 from ⟨(hU51.1).1, (hU51.1).2.1, (hU51.1).2.2.1, (hU51.1).2.2.2.1, (hU51.1).2.2.2.2.1, (hU51.1).2.2.2.2.2.1, (hU51.1).2.2.2.2.2.2.1, (hU51.1).2.2.2.2.2.2.2.1, (hU51.1).2.2.2.2.2.2.2.2.1, (hU51.1).2.2.2.2.2.2.2.2.2.1, (hU51.1).2.2.2.2.2.2.2.2.2.2.1, (hU51.1).2.2.2.2.2.2.2.2.2.2.2.1, (hU51.1).2.2.2.2.2.2.2.2.2.2.2.2⟩) (by omega) (by omega) (by omega) (by omega)) (fun z23 => ?_)
      have z23 : (-1 ≤ (m_acts x51 ((x51 138) ((i51 : Int)).toNat) ((x51 139) (3 * ((i51 : Int))).toNat) ((x51 139) ((3 * ((i51 : Int))) + 1).toNat) ((x51 139) ((3 * ((i51 : Int))) + 2).toNat)).1 ∧ (m_acts x51 ((x51 138) ((i51 : Int)).toNat) ((x51 139) (3 * ((i51 : Int))).toNat) ((x51 139) ((3 * ((i51 : Int))) + 1).toNat) ((x51 139) ((3 * ((i51 : Int))) + 2).toNat)).1 ≤ 1000) ∧ k_MA (m_acts x51 ((x51 138) ((i51 : Int)).toNat) ((x51 139) (3 * ((i51 : Int))).toNat) ((x51 139) ((3 * ((i51 : Int))) + 1).toNat) ((x51 139) ((3 * ((i51 : Int))) + 2).toNat)).2 := z23
      have z24 := z23.1
      obtain ⟨⟨y25_0, y25_0b⟩, ⟨y25_1, y25_1b⟩, ⟨y25_2, y25_2b⟩, ⟨y25_3, y25_3b⟩, -⟩ := id ((z23.2)).2.1
      obtain ⟨⟨f26_0, g26_0⟩, ⟨f26_1, g26_1⟩, ⟨f26_2, g26_2⟩, ⟨f26_3, g26_3⟩, ⟨f26_4, g26_4⟩, ⟨f26_5, g26_5⟩, ⟨f26_6, g26_6⟩, ⟨f26_7, g26_7⟩, ⟨f26_8, g26_8⟩, ⟨f26_9, g26_9⟩, ⟨f26_10, g26_10⟩, ⟨f26_11, g26_11⟩, ⟨f26_12, g26_12⟩, ⟨f26_13, g26_13⟩⟩ := id ((z23.2)).1
      refine k_istore_n (ls' := [(0, .ref 123), (1, .int (iI ((m_parses (k_up σ 123 (k_u1 (k_u1 (σ 123) 28 ((σ 123) 16)) 16 (0)))).1))), (2, .int (iI ((i51 : Int)))), (3, .int (iI ((m_acts x51 ((x51 138) ((i51 : Int)).toNat) ((x51 139) (3 * ((i51 : Int))).toNat) ((x51 139) ((3 * ((i51 : Int))) + 1).toNat) ((x51 139) ((3 * ((i51 : Int))) + 2).toNat)).1)))]) dX8_execute_97 rfl (by decide) rfl rfl ?_
      have y_fr : k_Fr (m_acts x51 ((x51 138) ((i51 : Int)).toNat) ((x51 139) (3 * ((i51 : Int))).toNat) ((x51 139) ((3 * ((i51 : Int))) + 1).toNat) ((x51 139) ((3 * ((i51 : Int))) + 2).toNat)).2 x51 := m_acts_fr _ _ _ _
      refine k_aload_n dX8_execute_98 0 rfl rfl (by decide) ?_
      refine k_get (kf := 8) (v := .int (iI (((m_acts x51 ((x51 138) ((i51 : Int)).toNat) ((x51 139) (3 * ((i51 : Int))).toNat) ((x51 139) ((3 * ((i51 : Int))) + 1).toNat) ((x51 139) ((3 * ((i51 : Int))) + 2).toNat)).2 123) 8))) dX8_execute_99 kcX8 w_1755 (by decide) (by decide) (s_123 hsh) rfl rfl ?_
      refine k_if_ne (tgt := 108) dX8_execute_102 rfl ⟨by omega, by omega⟩ (fun h27 => ?_) (fun h27 => ?_)
      · refine k_iff (F := (fun t => (k_pP sh (R_execute)) (k_els (r_execute_51 σ) (k_cn2 (k_for (b_execute_51 σ) n51 (i51 + 1)) t)))) h27 ?_
        refine k_aload_n dX8_execute_108 0 rfl rfl (by decide) ?_
        refine k_iload_n dX8_execute_109 2 rfl rfl ?_
        refine k_putfW (kf := 11) dX8_execute_110 kcX8 w_1758 (by decide) (by decide) (s_123 hsh) rfl rfl rfl rfl ?_
        refine k_eqσ (σ' := (k_up (m_acts x51 ((x51 138) ((i51 : Int)).toNat) ((x51 139) (3 * ((i51 : Int))).toNat) ((x51 139) ((3 * ((i51 : Int))) + 1).toNat) ((x51 139) ((3 * ((i51 : Int))) + 2).toNat)).2 123 (k_u1 ((m_acts x51 ((x51 138) ((i51 : Int)).toNat) ((x51 139) (3 * ((i51 : Int))).toNat) ((x51 139) ((3 * ((i51 : Int))) + 1).toNat) ((x51 139) ((3 * ((i51 : Int))) + 2).toNat)).2 123) 11 ((i51 : Int))))) rfl ?_
        refine k_aload_n dX8_execute_113 0 rfl rfl (by decide) ?_
        refine k_aload_n dX8_execute_114 0 rfl rfl (by decide) ?_
        refine k_get (kf := 8) (v := .int (iI (((m_acts x51 ((x51 138) ((i51 : Int)).toNat) ((x51 139) (3 * ((i51 : Int))).toNat) ((x51 139) ((3 * ((i51 : Int))) + 1).toNat) ((x51 139) ((3 * ((i51 : Int))) + 2).toNat)).2 123) 8))) dX8_execute_115 kcX8 w_1755 (by decide) (by decide) (s_123 hsh) rfl rfl ?_
        refine k_putfW (kf := 12) dX8_execute_118 kcX8 w_1759 (by decide) (by decide) (s_123 hsh) rfl rfl rfl rfl ?_
        refine k_eqσ (σ' := (k_up (m_acts x51 ((x51 138) ((i51 : Int)).toNat) ((x51 139) (3 * ((i51 : Int))).toNat) ((x51 139) ((3 * ((i51 : Int))) + 1).toNat) ((x51 139) ((3 * ((i51 : Int))) + 2).toNat)).2 123 (k_u1 (k_u1 ((m_acts x51 ((x51 138) ((i51 : Int)).toNat) ((x51 139) (3 * ((i51 : Int))).toNat) ((x51 139) ((3 * ((i51 : Int))) + 1).toNat) ((x51 139) ((3 * ((i51 : Int))) + 2).toNat)).2 123) 11 ((i51 : Int))) 12 (((m_acts x51 ((x51 138) ((i51 : Int)).toNat) ((x51 139) (3 * ((i51 : Int))).toNat) ((x51 139) ((3 * ((i51 : Int))) + 1).toNat) ((x51 139) ((3 * ((i51 : Int))) + 2).toNat)).2 123) 8)))) (show k_up (k_up (m_acts x51 ((x51 138) ((i51 : Int)).toNat) ((x51 139) (3 * ((i51 : Int))).toNat) ((x51 139) ((3 * ((i51 : Int))) + 1).toNat) ((x51 139) ((3 * ((i51 : Int))) + 2).toNat)).2 123 (k_u1 ((m_acts x51 ((x51 138) ((i51 : Int)).toNat) ((x51 139) (3 * ((i51 : Int))).toNat) ((x51 139) ((3 * ((i51 : Int))) + 1).toNat) ((x51 139) ((3 * ((i51 : Int))) + 2).toNat)).2 123) 11 ((i51 : Int)))) 123 (k_u1 (k_u1 ((m_acts x51 ((x51 138) ((i51 : Int)).toNat) ((x51 139) (3 * ((i51 : Int))).toNat) ((x51 139) ((3 * ((i51 : Int))) + 1).toNat) ((x51 139) ((3 * ((i51 : Int))) + 2).toNat)).2 123) 11 ((i51 : Int))) 12 (((m_acts x51 ((x51 138) ((i51 : Int)).toNat) ((x51 139) (3 * ((i51 : Int))).toNat) ((x51 139) ((3 * ((i51 : Int))) + 1).toNat) ((x51 139) ((3 * ((i51 : Int))) + 2).toNat)).2 123) 8)) = _ from k_up_up).symm ?_
        refine k_aload_n dX8_execute_121 0 rfl rfl (by decide) ?_
        refine k_get (kf := 3) (v := .ref 127) dX8_execute_122 kcX8 w_1750 (by decide) (by decide) (s_123 hsh) rfl rfl ?_
        refine k_aload_n dX8_execute_125 0 rfl rfl (by decide) ?_
        refine k_get (kf := 0) (v := .ref 124) dX8_execute_126 kcX8 w_1747 (by decide) (by decide) (s_123 hsh) rfl rfl ?_
        refine k_callSr (st := []) (as := [.ref 127, .ref 124]) dX8_execute_129 oX8_copies w_1862 w_1863 rfl (by omega) rfl (Nat.le_of_ble_eq_true rfl) (c8_copies (by decide) (by decide) (s_127 hsh) (s_124 hsh) (by decide)) ?_
        refine k_eqσ (σ' := (k_up (k_up (m_acts x51 ((x51 138) ((i51 : Int)).toNat) ((x51 139) (3 * ((i51 : Int))).toNat) ((x51 139) ((3 * ((i51 : Int))) + 1).toNat) ((x51 139) ((3 * ((i51 : Int))) + 2).toNat)).2 123 (k_u1 (k_u1 ((m_acts x51 ((x51 138) ((i51 : Int)).toNat) ((x51 139) (3 * ((i51 : Int))).toNat) ((x51 139) ((3 * ((i51 : Int))) + 1).toNat) ((x51 139) ((3 * ((i51 : Int))) + 2).toNat)).2 123) 11 ((i51 : Int))) 12 (((m_acts x51 ((x51 138) ((i51 : Int)).toNat) ((x51 139) (3 * ((i51 : Int))).toNat) ((x51 139) ((3 * ((i51 : Int))) + 1).toNat) ((x51 139) ((3 * ((i51 : Int))) + 2).toNat)).2 123) 8))) 124 ((m_acts x51 ((x51 138) ((i51 : Int)).toNat) ((x51 139) (3 * ((i51 : Int))).toNat) ((x51 139) ((3 * ((i51 : Int))) + 1).toNat) ((x51 139) ((3 * ((i51 : Int))) + 2).toNat)).2 127))) ((show k_up (k_up (m_acts x51 ((x51 138) ((i51 : Int)).toNat) ((x51 139) (3 * ((i51 : Int))).toNat) ((x51 139) ((3 * ((i51 : Int))) + 1).toNat) ((x51 139) ((3 * ((i51 : Int))) + 2).toNat)).2 123 (k_u1 (k_u1 ((m_acts x51 ((x51 138) ((i51 : Int)).toNat) ((x51 139) (3 * ((i51 : Int))).toNat) ((x51 139) ((3 * ((i51 : Int))) + 1).toNat) ((x51 139) ((3 * ((i51 : Int))) + 2).toNat)).2 123) 11 ((i51 : Int))) 12 (((m_acts x51 ((x51 138) ((i51 : Int)).toNat) ((x51 139) (3 * ((i51 : Int))).toNat) ((x51 139) ((3 * ((i51 : Int))) + 1).toNat) ((x51 139) ((3 * ((i51 : Int))) + 2).toNat)).2 123) 8))) 124 ((m_acts x51 ((x51 138) ((i51 : Int)).toNat) ((x51 139) (3 * ((i51 : Int))).toNat) ((x51 139) ((3 * ((i51 : Int))) + 1).toNat) ((x51 139) ((3 * ((i51 : Int))) + 2).toNat)).2 127) = (k_up (k_up (m_acts x51 ((x51 138) ((i51 : Int)).toNat) ((x51 139) (3 * ((i51 : Int))).toNat) ((x51 139) ((3 * ((i51 : Int))) + 1).toNat) ((x51 139) ((3 * ((i51 : Int))) + 2).toNat)).2 123 (k_u1 (k_u1 ((m_acts x51 ((x51 138) ((i51 : Int)).toNat) ((x51 139) (3 * ((i51 : Int))).toNat) ((x51 139) ((3 * ((i51 : Int))) + 1).toNat) ((x51 139) ((3 * ((i51 : Int))) + 2).toNat)).2 123) 11 ((i51 : Int))) 12 (((m_acts x51 ((x51 138) ((i51 : Int)).toNat) ((x51 139) (3 * ((i51 : Int))).toNat) ((x51 139) ((3 * ((i51 : Int))) + 1).toNat) ((x51 139) ((3 * ((i51 : Int))) + 2).toNat)).2 123) 8))) 124 ((m_acts x51 ((x51 138) ((i51 : Int)).toNat) ((x51 139) (3 * ((i51 : Int))).toNat) ((x51 139) ((3 * ((i51 : Int))) + 1).toNat) ((x51 139) ((3 * ((i51 : Int))) + 2).toNat)).2 127)) from rfl)).symm ?_
        refine k_aload_n dX8_execute_132 0 rfl rfl (by decide) ?_
        refine k_iconst (v := 2) dX8_execute_133 rfl ?_
        refine k_callVr (st := []) (as := [.int (iI (2))]) dX8_execute_134 oX8_fails w_1850 w_1852 w_31 rfl (by omega) rfl (Nat.le_of_ble_eq_true rfl) (by decide) (s_123 hsh) rfl (c8_fails hsh) ?_
        refine k_eqσ (σ' := (k_up (k_up (m_acts x51 ((x51 138) ((i51 : Int)).toNat) ((x51 139) (3 * ((i51 : Int))).toNat) ((x51 139) ((3 * ((i51 : Int))) + 1).toNat) ((x51 139) ((3 * ((i51 : Int))) + 2).toNat)).2 123 (k_u1 (k_u1 (k_u1 ((m_acts x51 ((x51 138) ((i51 : Int)).toNat) ((x51 139) (3 * ((i51 : Int))).toNat) ((x51 139) ((3 * ((i51 : Int))) + 1).toNat) ((x51 139) ((3 * ((i51 : Int))) + 2).toNat)).2 123) 11 ((i51 : Int))) 12 (((m_acts x51 ((x51 138) ((i51 : Int)).toNat) ((x51 139) (3 * ((i51 : Int))).toNat) ((x51 139) ((3 * ((i51 : Int))) + 1).toNat) ((x51 139) ((3 * ((i51 : Int))) + 2).toNat)).2 123) 8)) 7 (2))) 124 ((m_acts x51 ((x51 138) ((i51 : Int)).toNat) ((x51 139) (3 * ((i51 : Int))).toNat) ((x51 139) ((3 * ((i51 : Int))) + 1).toNat) ((x51 139) ((3 * ((i51 : Int))) + 2).toNat)).2 127))) ((show k_up (k_up (k_up (m_acts x51 ((x51 138) ((i51 : Int)).toNat) ((x51 139) (3 * ((i51 : Int))).toNat) ((x51 139) ((3 * ((i51 : Int))) + 1).toNat) ((x51 139) ((3 * ((i51 : Int))) + 2).toNat)).2 123 (k_u1 (k_u1 ((m_acts x51 ((x51 138) ((i51 : Int)).toNat) ((x51 139) (3 * ((i51 : Int))).toNat) ((x51 139) ((3 * ((i51 : Int))) + 1).toNat) ((x51 139) ((3 * ((i51 : Int))) + 2).toNat)).2 123) 11 ((i51 : Int))) 12 (((m_acts x51 ((x51 138) ((i51 : Int)).toNat) ((x51 139) (3 * ((i51 : Int))).toNat) ((x51 139) ((3 * ((i51 : Int))) + 1).toNat) ((x51 139) ((3 * ((i51 : Int))) + 2).toNat)).2 123) 8))) 124 ((m_acts x51 ((x51 138) ((i51 : Int)).toNat) ((x51 139) (3 * ((i51 : Int))).toNat) ((x51 139) ((3 * ((i51 : Int))) + 1).toNat) ((x51 139) ((3 * ((i51 : Int))) + 2).toNat)).2 127)) 123 (k_u1 (k_u1 (k_u1 ((m_acts x51 ((x51 138) ((i51 : Int)).toNat) ((x51 139) (3 * ((i51 : Int))).toNat) ((x51 139) ((3 * ((i51 : Int))) + 1).toNat) ((x51 139) ((3 * ((i51 : Int))) + 2).toNat)).2 123) 11 ((i51 : Int))) 12 (((m_acts x51 ((x51 138) ((i51 : Int)).toNat) ((x51 139) (3 * ((i51 : Int))).toNat) ((x51 139) ((3 * ((i51 : Int))) + 1).toNat) ((x51 139) ((3 * ((i51 : Int))) + 2).toNat)).2 123) 8)) 7 (2)) = (k_up (k_up (m_acts x51 ((x51 138) ((i51 : Int)).toNat) ((x51 139) (3 * ((i51 : Int))).toNat) ((x51 139) ((3 * ((i51 : Int))) + 1).toNat) ((x51 139) ((3 * ((i51 : Int))) + 2).toNat)).2 123 (k_u1 (k_u1 (k_u1 ((m_acts x51 ((x51 138) ((i51 : Int)).toNat) ((x51 139) (3 * ((i51 : Int))).toNat) ((x51 139) ((3 * ((i51 : Int))) + 1).toNat) ((x51 139) ((3 * ((i51 : Int))) + 2).toNat)).2 123) 11 ((i51 : Int))) 12 (((m_acts x51 ((x51 138) ((i51 : Int)).toNat) ((x51 139) (3 * ((i51 : Int))).toNat) ((x51 139) ((3 * ((i51 : Int))) + 1).toNat) ((x51 139) ((3 * ((i51 : Int))) + 2).toNat)).2 123) 8)) 7 (2))) 124 ((m_acts x51 ((x51 138) ((i51 : Int)).toNat) ((x51 139) (3 * ((i51 : Int))).toNat) ((x51 139) ((3 * ((i51 : Int))) + 1).toNat) ((x51 139) ((3 * ((i51 : Int))) + 2).toNat)).2 127)) from ((k_up_comm (by decide)).trans (congrArg (fun s => k_up s 124 _) k_up_up)))).symm ?_
        exact k_retiP dX8_execute_137 rfl rfl rfl (show (-1 ≤ (0 : Int) ∧ (0 : Int) ≤ 1000) ∧ k_MA (k_up (k_up (m_acts x51 ((x51 138) ((i51 : Int)).toNat) ((x51 139) (3 * ((i51 : Int))).toNat) ((x51 139) ((3 * ((i51 : Int))) + 1).toNat) ((x51 139) ((3 * ((i51 : Int))) + 2).toNat)).2 123 (k_u1 (k_u1 (k_u1 ((m_acts x51 ((x51 138) ((i51 : Int)).toNat) ((x51 139) (3 * ((i51 : Int))).toNat) ((x51 139) ((3 * ((i51 : Int))) + 1).toNat) ((x51 139) ((3 * ((i51 : Int))) + 2).toNat)).2 123) 11 ((i51 : Int))) 12 (((m_acts x51 ((x51 138) ((i51 : Int)).toNat) ((x51 139) (3 * ((i51 : Int))).toNat) ((x51 139) ((3 * ((i51 : Int))) + 1).toNat) ((x51 139) ((3 * ((i51 : Int))) + 2).toNat)).2 123) 8)) 7 (2))) 124 ((m_acts x51 ((x51 138) ((i51 : Int)).toNat) ((x51 139) (3 * ((i51 : Int))).toNat) ((x51 139) ((3 * ((i51 : Int))) + 1).toNat) ((x51 139) ((3 * ((i51 : Int))) + 2).toNat)).2 127)) from ⟨by omega, ⟨(show k_F0 (k_u1 (k_u1 (k_u1 ((m_acts x51 ((x51 138) ((i51 : Int)).toNat) ((x51 139) (3 * ((i51 : Int))).toNat) ((x51 139) ((3 * ((i51 : Int))) + 1).toNat) ((x51 139) ((3 * ((i51 : Int))) + 2).toNat)).2 123) 11 ((i51 : Int))) 12 (((m_acts x51 ((x51 138) ((i51 : Int)).toNat) ((x51 139) (3 * ((i51 : Int))).toNat) ((x51 139) ((3 * ((i51 : Int))) + 1).toNat) ((x51 139) ((3 * ((i51 : Int))) + 2).toNat)).2 123) 8)) 7 (2)) from (k_F0_u (show k_F0 (k_u1 (k_u1 ((m_acts x51 ((x51 138) ((i51 : Int)).toNat) ((x51 139) (3 * ((i51 : Int))).toNat) ((x51 139) ((3 * ((i51 : Int))) + 1).toNat) ((x51 139) ((3 * ((i51 : Int))) + 2).toNat)).2 123) 11 ((i51 : Int))) 12 (((m_acts x51 ((x51 138) ((i51 : Int)).toNat) ((x51 139) (3 * ((i51 : Int))).toNat) ((x51 139) ((3 * ((i51 : Int))) + 1).toNat) ((x51 139) ((3 * ((i51 : Int))) + 2).toNat)).2 123) 8)) from (k_F0_u (show k_F0 (k_u1 ((m_acts x51 ((x51 138) ((i51 : Int)).toNat) ((x51 139) (3 * ((i51 : Int))).toNat) ((x51 139) ((3 * ((i51 : Int))) + 1).toNat) ((x51 139) ((3 * ((i51 : Int))) + 2).toNat)).2 123) 11 ((i51 : Int))) from (k_F0_u ((z23.2)).1 (by omega))) (by omega))) (by omega))), (show k_Mo (((m_acts x51 ((x51 138) ((i51 : Int)).toNat) ((x51 139) (3 * ((i51 : Int))).toNat) ((x51 139) ((3 * ((i51 : Int))) + 1).toNat) ((x51 139) ((3 * ((i51 : Int))) + 2).toNat)).2 127)) from ((y_fr.1 127 (by omega)).symm ▸ hU51.2.2)), ((z23.2)).2.2.1, ((z23.2)).2.2.2.1, ((z23.2)).2.2.2.2.1, ((z23.2)).2.2.2.2.2.1, ((z23.2)).2.2.2.2.2.2.1, ((z23.2)).2.2.2.2.2.2.2.1, ((z23.2)).2.2.2.2.2.2.2.2.1, ((z23.2)).2.2.2.2.2.2.2.2.2.1, ((z23.2)).2.2.2.2.2.2.2.2.2.2.1, ((z23.2)).2.2.2.2.2.2.2.2.2.2.2.1, ((z23.2)).2.2.2.2.2.2.2.2.2.2.2.2⟩⟩)
      · refine k_ift (F := (fun t => (k_pP sh (R_execute)) (k_els (r_execute_51 σ) (k_cn2 (k_for (b_execute_51 σ) n51 (i51 + 1)) t)))) h27 ?_
        refine k_goto (tgt := 138) dX8_execute_105 rfl ?_
        refine k_iinc (ls' := [(0, .ref 123), (1, .int (iI ((m_parses (k_up σ 123 (k_u1 (k_u1 (σ 123) 28 ((σ 123) 16)) 16 (0)))).1))), (2, .int (iI ((i51 : Int) + 1))), (3, .int (iI ((m_acts x51 ((x51 138) ((i51 : Int)).toNat) ((x51 139) (3 * ((i51 : Int))).toNat) ((x51 139) ((3 * ((i51 : Int))) + 1).toNat) ((x51 139) ((3 * ((i51 : Int))) + 2).toNat)).1)))]) dX8_execute_138 2 rfl (by decide) rfl rfl ?_
        refine k_goto (tgt := 51) dX8_execute_141 rfl ?_
        refine k_dropr (ls' := [(0, .ref 123), (1, .int (iI ((m_parses (k_up σ 123 (k_u1 (k_u1 (σ 123) 28 ((σ 123) 16)) 16 (0)))).1))), (2, .int (iI ((i51 : Int) + 1)))]) (ex := [(3, .int (iI ((m_acts x51 ((x51 138) ((i51 : Int)).toNat) ((x51 139) (3 * ((i51 : Int))).toNat) ((x51 139) ((3 * ((i51 : Int))) + 1).toNat) ((x51 139) ((3 * ((i51 : Int))) + 2).toNat)).1)))]) rfl ?_
        exact ih51 ((m_acts x51 ((x51 138) ((i51 : Int)).toNat) ((x51 139) (3 * ((i51 : Int))).toNat) ((x51 139) ((3 * ((i51 : Int))) + 1).toNat) ((x51 139) ((3 * ((i51 : Int))) + 2).toNat)).2) (show k_MA ((m_acts x51 ((x51 138) ((i51 : Int)).toNat) ((x51 139) (3 * ((i51 : Int))).toNat) ((x51 139) ((3 * ((i51 : Int))) + 1).toNat) ((x51 139) ((3 * ((i51 : Int))) + 2).toNat)).2) ∧ ((m_acts x51 ((x51 138) ((i51 : Int)).toNat) ((x51 139) (3 * ((i51 : Int))).toNat) ((x51 139) ((3 * ((i51 : Int))) + 1).toNat) ((x51 139) ((3 * ((i51 : Int))) + 2).toNat)).2) 123 29 = ((m_parses (k_up σ 123 (k_u1 (k_u1 (σ 123) 28 ((σ 123) 16)) 16 (0)))).2 123) 29 ∧ k_Mo (((m_acts x51 ((x51 138) ((i51 : Int)).toNat) ((x51 139) (3 * ((i51 : Int))).toNat) ((x51 139) ((3 * ((i51 : Int))) + 1).toNat) ((x51 139) ((3 * ((i51 : Int))) + 2).toNat)).2) 127) from ⟨⟨((z23.2)).1, ((z23.2)).2.1, ((z23.2)).2.2.1, ((z23.2)).2.2.2.1, ((z23.2)).2.2.2.2.1, ((z23.2)).2.2.2.2.2.1, ((z23.2)).2.2.2.2.2.2.1, ((z23.2)).2.2.2.2.2.2.2.1, ((z23.2)).2.2.2.2.2.2.2.2.1, ((z23.2)).2.2.2.2.2.2.2.2.2.1, ((z23.2)).2.2.2.2.2.2.2.2.2.2.1, ((z23.2)).2.2.2.2.2.2.2.2.2.2.2.1, ((z23.2)).2.2.2.2.2.2.2.2.2.2.2.2⟩, ((y_fr.2 29 (by decide) (by decide) (by decide)).trans hU51.2.1), (show k_Mo ((m_acts x51 ((x51 138) ((i51 : Int)).toNat) ((x51 139) (3 * ((i51 : Int))).toNat) ((x51 139) ((3 * ((i51 : Int))) + 1).toNat) ((x51 139) ((3 * ((i51 : Int))) + 2).toNat)).2 127) from (y_fr.1 127 (by omega)).symm ▸ hU51.2.2)⟩)
  · refine k_iff (F := (k_pP sh (R_execute))) h5 ?_
    refine k_aload_n dX8_execute_23 0 rfl rfl (by decide) ?_
    refine k_iload_n dX8_execute_24 1 rfl rfl ?_
    refine k_putfW (kf := 10) dX8_execute_25 kcX8 w_1757 (by decide) (by decide) (s_123 hsh) rfl rfl rfl rfl ?_
    refine k_eqσ (σ' := (k_up (m_parses (k_up σ 123 (k_u1 (k_u1 (σ 123) 28 ((σ 123) 16)) 16 (0)))).2 123 (k_u1 ((m_parses (k_up σ 123 (k_u1 (k_u1 (σ 123) 28 ((σ 123) 16)) 16 (0)))).2 123) 10 ((m_parses (k_up σ 123 (k_u1 (k_u1 (σ 123) 28 ((σ 123) 16)) 16 (0)))).1)))) rfl ?_
    refine k_aload_n dX8_execute_28 0 rfl rfl (by decide) ?_
    refine k_iconst (v := 1) dX8_execute_29 rfl ?_
    refine k_callVr (st := []) (as := [.int (iI (1))]) dX8_execute_30 oX8_fails w_1850 w_1852 w_31 rfl (by omega) rfl (Nat.le_of_ble_eq_true rfl) (by decide) (s_123 hsh) rfl (c8_fails hsh) ?_
    refine k_eqσ (σ' := (k_up (m_parses (k_up σ 123 (k_u1 (k_u1 (σ 123) 28 ((σ 123) 16)) 16 (0)))).2 123 (k_u1 (k_u1 ((m_parses (k_up σ 123 (k_u1 (k_u1 (σ 123) 28 ((σ 123) 16)) 16 (0)))).2 123) 10 ((m_parses (k_up σ 123 (k_u1 (k_u1 (σ 123) 28 ((σ 123) 16)) 16 (0)))).1)) 7 (1)))) ((show k_up (k_up (m_parses (k_up σ 123 (k_u1 (k_u1 (σ 123) 28 ((σ 123) 16)) 16 (0)))).2 123 (k_u1 ((m_parses (k_up σ 123 (k_u1 (k_u1 (σ 123) 28 ((σ 123) 16)) 16 (0)))).2 123) 10 ((m_parses (k_up σ 123 (k_u1 (k_u1 (σ 123) 28 ((σ 123) 16)) 16 (0)))).1))) 123 (k_u1 (k_u1 ((m_parses (k_up σ 123 (k_u1 (k_u1 (σ 123) 28 ((σ 123) 16)) 16 (0)))).2 123) 10 ((m_parses (k_up σ 123 (k_u1 (k_u1 (σ 123) 28 ((σ 123) 16)) 16 (0)))).1)) 7 (1)) = (k_up (m_parses (k_up σ 123 (k_u1 (k_u1 (σ 123) 28 ((σ 123) 16)) 16 (0)))).2 123 (k_u1 (k_u1 ((m_parses (k_up σ 123 (k_u1 (k_u1 (σ 123) 28 ((σ 123) 16)) 16 (0)))).2 123) 10 ((m_parses (k_up σ 123 (k_u1 (k_u1 (σ 123) 28 ((σ 123) 16)) 16 (0)))).1)) 7 (1))) from k_up_up)).symm ?_
    exact k_retiP dX8_execute_33 rfl rfl rfl (show (-1 ≤ (0 : Int) ∧ (0 : Int) ≤ 1000) ∧ k_MA (k_up (m_parses (k_up σ 123 (k_u1 (k_u1 (σ 123) 28 ((σ 123) 16)) 16 (0)))).2 123 (k_u1 (k_u1 ((m_parses (k_up σ 123 (k_u1 (k_u1 (σ 123) 28 ((σ 123) 16)) 16 (0)))).2 123) 10 ((m_parses (k_up σ 123 (k_u1 (k_u1 (σ 123) 28 ((σ 123) 16)) 16 (0)))).1)) 7 (1))) from ⟨by omega, ⟨(show k_F0 (k_u1 (k_u1 ((m_parses (k_up σ 123 (k_u1 (k_u1 (σ 123) 28 ((σ 123) 16)) 16 (0)))).2 123) 10 ((m_parses (k_up σ 123 (k_u1 (k_u1 (σ 123) 28 ((σ 123) 16)) 16 (0)))).1)) 7 (1)) from (k_F0_u (show k_F0 (k_u1 ((m_parses (k_up σ 123 (k_u1 (k_u1 (σ 123) 28 ((σ 123) 16)) 16 (0)))).2 123) 10 ((m_parses (k_up σ 123 (k_u1 (k_u1 (σ 123) 28 ((σ 123) 16)) 16 (0)))).1)) from (k_F0_u ((z1.2)).1 (by omega))) (by omega))), ((z1.2)).2.1, ((z1.2)).2.2.1, ((z1.2)).2.2.2.1, ((z1.2)).2.2.2.2.1, ((z1.2)).2.2.2.2.2.1, ((z1.2)).2.2.2.2.2.2.1, ((z1.2)).2.2.2.2.2.2.2.1, ((z1.2)).2.2.2.2.2.2.2.2.1, ((z1.2)).2.2.2.2.2.2.2.2.2.1, ((z1.2)).2.2.2.2.2.2.2.2.2.2.1, ((z1.2)).2.2.2.2.2.2.2.2.2.2.2.1, ((z1.2)).2.2.2.2.2.2.2.2.2.2.2.2⟩⟩)
abbrev R_restore (t : Int × (Nat → Nat → Int)) : Prop := (-1 ≤ t.1 ∧ t.1 ≤ 1000) ∧ k_MA t.2
def m_restore (σ : Nat → Nat → Int) : Int × (Nat → Nat → Int) := if ((σ 123) 6) = 0 then (0, (k_up σ 123 (k_u1 (σ 123) 7 (1)))) else ((σ 126) 2, (k_up (k_up σ 123 (k_u1 (k_u1 (σ 123) 5 (0)) 7 (0))) 124 (σ 126)))
set_option maxRecDepth 100000 in
set_option maxHeartbeats 4000000 in
theorem c8_restore (hsh : k_Main sh) (hMA : k_MA σ)  (hV : ¬ σ 123 6 = 0 → k_Mo (σ 126)) : k_C E mX8_restore 3 [.ref 123] sh σ 0 0 ((k_pP sh (R_restore)) (m_restore σ)) := by
  refine k_C_of (ls0 := [(0, .ref 123)]) rfl pnX8 (fun v hv => k_cat1 rfl hv) (Nat.le_of_ble_eq_true rfl) rfl ?_
  obtain ⟨⟨t0, t0b⟩, ⟨t1, t1b⟩, ⟨t2, t2b⟩, ⟨t3, t3b⟩, -⟩ := id hMA.2.1
  obtain ⟨⟨f6_0, g6_0⟩, ⟨f6_1, g6_1⟩, ⟨f6_2, g6_2⟩, ⟨f6_3, g6_3⟩, ⟨f6_4, g6_4⟩, ⟨f6_5, g6_5⟩, ⟨f6_6, g6_6⟩, ⟨f6_7, g6_7⟩, ⟨f6_8, g6_8⟩, ⟨f6_9, g6_9⟩, ⟨f6_10, g6_10⟩, ⟨f6_11, g6_11⟩, ⟨f6_12, g6_12⟩, ⟨f6_13, g6_13⟩⟩ := id hMA.1
  unfold m_restore
  refine k_aload_n dX8_restore_0 0 rfl rfl (by decide) ?_
  refine k_get (kf := 6) (v := .int (iI ((σ 123) 6))) dX8_restore_1 kcX8 w_1753 (by decide) (by decide) (s_123 hsh) rfl rfl ?_
  refine k_if_ne (tgt := 13) dX8_restore_4 rfl ⟨by omega, by omega⟩ (fun h1 => ?_) (fun h1 => ?_)
  · refine k_iff (F := (k_pP sh (R_restore))) h1 ?_
    refine k_aload_n dX8_restore_13 0 rfl rfl (by decide) ?_
    refine k_get (kf := 2) (v := .ref 126) dX8_restore_14 kcX8 w_1749 (by decide) (by decide) (s_123 hsh) rfl rfl ?_
    refine k_aload_n dX8_restore_17 0 rfl rfl (by decide) ?_
    refine k_get (kf := 0) (v := .ref 124) dX8_restore_18 kcX8 w_1747 (by decide) (by decide) (s_123 hsh) rfl rfl ?_
    refine k_callSr (st := []) (as := [.ref 126, .ref 124]) dX8_restore_21 oX8_copies w_1862 w_1863 rfl (by omega) rfl (Nat.le_of_ble_eq_true rfl) (c8_copies (by decide) (by decide) (s_126 hsh) (s_124 hsh) (by decide)) ?_
    refine k_eqσ (σ' := (k_up σ 124 (σ 126))) ((show k_up σ 124 (σ 126) = (k_up σ 124 (σ 126)) from rfl)).symm ?_
    refine k_aload_n dX8_restore_24 0 rfl rfl (by decide) ?_
    refine k_iconst (v := 0) dX8_restore_25 rfl ?_
    refine k_putfW (kf := 5) dX8_restore_26 kcX8 w_1752 (by decide) (by decide) (s_123 hsh) rfl rfl rfl rfl ?_
    refine k_eqσ (σ' := (k_up (k_up σ 123 (k_u1 (σ 123) 5 (0))) 124 (σ 126))) (show k_up (k_up σ 124 (σ 126)) 123 (k_u1 (σ 123) 5 (0)) = _ from (k_up_comm (by decide))).symm ?_
    refine k_aload_n dX8_restore_29 0 rfl rfl (by decide) ?_
    refine k_aload_n dX8_restore_30 0 rfl rfl (by decide) ?_
    refine k_get (kf := 0) (v := .ref 124) dX8_restore_31 kcX8 w_1747 (by decide) (by decide) (s_123 hsh) rfl rfl ?_
    refine k_iconst (v := 2) dX8_restore_34 rfl ?_
    refine k_iald dX8_restore_35 (by decide) (s_124 hsh) (by omega) (by omega) (by decide) ?_
    refine k_eqst (st' := [.int (iI ((σ 126) 2)), .ref 123]) rfl ?_
    have y3 := (hV h1).2.2.1
    refine k_callVr (st := []) (as := [.int (iI ((σ 126) 2))]) dX8_restore_36 oX8_tells w_1854 w_1856 w_32 rfl (by omega) rfl (Nat.le_of_ble_eq_true rfl) (by decide) (s_123 hsh) rfl (c8_tells hsh) ?_
    refine k_eqσ (σ' := (k_up (k_up σ 123 (k_u1 (k_u1 (σ 123) 5 (0)) 7 (0))) 124 (σ 126))) ((show k_up (k_up (k_up σ 123 (k_u1 (σ 123) 5 (0))) 124 (σ 126)) 123 (k_u1 (k_u1 (σ 123) 5 (0)) 7 (0)) = (k_up (k_up σ 123 (k_u1 (k_u1 (σ 123) 5 (0)) 7 (0))) 124 (σ 126)) from ((k_up_comm (by decide)).trans (congrArg (fun s => k_up s 124 _) k_up_up)))).symm ?_
    exact k_retiP dX8_restore_39 rfl rfl rfl (show (-1 ≤ (σ 126) 2 ∧ (σ 126) 2 ≤ 1000) ∧ k_MA (k_up (k_up σ 123 (k_u1 (k_u1 (σ 123) 5 (0)) 7 (0))) 124 (σ 126)) from ⟨by omega, ⟨(show k_F0 (k_u1 (k_u1 (σ 123) 5 (0)) 7 (0)) from (k_F0_u (show k_F0 (k_u1 (σ 123) 5 (0)) from (k_F0_u (hMA).1 (by omega))) (by omega))), (hV h1), (hMA).2.2.1, (hMA).2.2.2.1, (hMA).2.2.2.2.1, (hMA).2.2.2.2.2.1, (hMA).2.2.2.2.2.2.1, (hMA).2.2.2.2.2.2.2.1, (hMA).2.2.2.2.2.2.2.2.1, (hMA).2.2.2.2.2.2.2.2.2.1, (hMA).2.2.2.2.2.2.2.2.2.2.1, (hMA).2.2.2.2.2.2.2.2.2.2.2.1, (hMA).2.2.2.2.2.2.2.2.2.2.2.2⟩⟩)
  · refine k_ift (F := (k_pP sh (R_restore))) h1 ?_
    refine k_aload_n dX8_restore_7 0 rfl rfl (by decide) ?_
    refine k_iconst (v := 1) dX8_restore_8 rfl ?_
    refine k_callVr (st := []) (as := [.int (iI (1))]) dX8_restore_9 oX8_fails w_1850 w_1852 w_31 rfl (by omega) rfl (Nat.le_of_ble_eq_true rfl) (by decide) (s_123 hsh) rfl (c8_fails hsh) ?_
    refine k_eqσ (σ' := (k_up σ 123 (k_u1 (σ 123) 7 (1)))) ((show k_up σ 123 (k_u1 (σ 123) 7 (1)) = (k_up σ 123 (k_u1 (σ 123) 7 (1))) from rfl)).symm ?_
    exact k_retiP dX8_restore_12 rfl rfl rfl (show (-1 ≤ (0 : Int) ∧ (0 : Int) ≤ 1000) ∧ k_MA (k_up σ 123 (k_u1 (σ 123) 7 (1))) from ⟨by omega, ⟨(show k_F0 (k_u1 (σ 123) 7 (1)) from (k_F0_u (hMA).1 (by omega))), (hMA).2.1, (hMA).2.2.1, (hMA).2.2.2.1, (hMA).2.2.2.2.1, (hMA).2.2.2.2.2.1, (hMA).2.2.2.2.2.2.1, (hMA).2.2.2.2.2.2.2.1, (hMA).2.2.2.2.2.2.2.2.1, (hMA).2.2.2.2.2.2.2.2.2.1, (hMA).2.2.2.2.2.2.2.2.2.2.1, (hMA).2.2.2.2.2.2.2.2.2.2.2.1, (hMA).2.2.2.2.2.2.2.2.2.2.2.2⟩⟩)
end K_M6
