/-! ===== THE MODEL: what its modifications leave; execute, restore, the mean ===== -/
section K_M6
variable {E : k_E} {M : k_M} {dp pc k n : Nat} {ls : List (Nat × Value)} {st : List Value} {sh : List k_Sh} {σ τ : Nat → Nat → Int} {r : Nat → Int} {Q : k_Q}
def k_inlC {ρ α : Type} (C : ρ → Prop) : ρ ⊕ α → Prop
  | .inl v => C v
  | .inr _ => True
theorem k_els_inv {ρ α : Type} {C : ρ → Prop} {f : Nat → α → ρ ⊕ α} {r : α → ρ} (hr : ∀ x, C (r x)) (hf : ∀ i x, k_inlC C (f i x)) : ∀ (n i : Nat) (a : α), C (k_els r (k_for f n i a))
  | 0, _, a => hr a
  | n + 1, i, a => by
    show C (k_els r (k_cn2 (k_for f n (i + 1)) (f i a)))
    have h := hf i a
    cases e : f i a with
    | inl v =>
      rw [e] at h
      exact h
    | inr y => exact k_els_inv hr hf n (i + 1) y
theorem m_findsPlacement_out (σ : Nat → Nat → Int) (p : Int) : (∀ i, i ≠ 123 → i ≠ 131 → i ≠ 132 → m_findsPlacement σ p i = σ i) ∧ ∀ j, j ≠ 19 → m_findsPlacement σ p 123 j = σ 123 j := by
  have hJ := k_it_inv (J := fun (_ : Nat) (x : (Nat → Int) × (Nat → Int) × (Nat → Int)) => ∀ j, j ≠ 19 → x.1 j = σ 123 j) (f := b_findsPlacement_7 σ p) (fun i x h j hj => by
    unfold b_findsPlacement_7 r_findsPlacement_19
    split
    · exact h j hj
    · unfold r_findsPlacement_72
      exact (if_neg hj).trans (h j hj)) 625 0 ((k_u1 (σ 123) 19 (-1)), (σ 131), (σ 132)) (fun j hj => if_neg hj)
  unfold m_findsPlacement r_findsPlacement_7
  exact ⟨fun i h1 h2 h3 => by rw [k_up_ne h3, k_up_ne h2, k_up_ne h1], fun j hj => hJ j hj⟩
theorem m_findsChain_out (σ : Nat → Nat → Int) (p s : Int) : ∀ i, i ≠ 133 → (m_findsChain σ p s).2 i = σ i := by
  unfold m_findsChain
  refine k_els_inv (C := fun t : Int × (Nat → Nat → Int) => ∀ i, i ≠ 133 → t.2 i = σ i) (fun x i h => ?_) (fun i x => ?_) 4 0 (σ 133)
  · unfold r_findsChain_2
    exact k_up_ne h
  · unfold b_findsChain_2
    refine k_els_inv (C := k_inlC (fun t : Int × (Nat → Nat → Int) => ∀ i, i ≠ 133 → t.2 i = σ i)) (fun x => by trivial) (fun i x => ?_) _ 0 _
    unfold b_findsChain_10 r_findsChain_25
    split
    · exact fun i h => k_up_ne h
    · trivial
theorem m_findsArrangement_out (σ : Nat → Nat → Int) : ∀ i, i ≠ 134 → i ≠ 135 → i ≠ 136 → (m_findsArrangement σ).2 i = σ i := fun i h1 h2 h3 => by
  unfold m_findsArrangement r_findsArrangement_9 r_findsArrangement_54 r_findsArrangement_79
  show k_up (k_up (k_up σ 134 _) 135 _) 136 _ i = σ i
  rw [k_up_ne h3, k_up_ne h2, k_up_ne h1]
def m_acts (σ : Nat → Nat → Int) (wh a b c : Int) : Int × (Nat → Nat → Int) := if wh = 0 then m_addSubjectNow σ a else if wh = 1 then m_setBlockCountNow σ a else if wh = 2 then m_openClassNow σ a b else if wh = 3 then m_closeClassNow σ a b else if wh = 4 then m_addPupilNow σ  else if wh = 5 then m_addWishNow σ a b else if wh = 6 then m_setReserveNow σ a b else if wh = 7 then m_enrolNow σ a else if wh = 8 then m_joinNow σ a b else if wh = 9 then m_quitNow σ a b else if wh = 10 then m_changeNow σ a b c else m_arrangeNow σ
end K_M6
