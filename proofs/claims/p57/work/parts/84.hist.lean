/-! ===== PLANS that are kept: copies, and the relation ===== -/
section K_R28
variable {σ ρ τ : Nat → Nat → Int} {r r' : Nat → Int}
theorem k_Ty_19 {f g : Nat → Nat → Int} (h : ∀ i, 1 ≤ i → i < 10 → f i = g i) (hg : k_Ty g) : k_Ty f := by
  unfold k_Ty at hg ⊢
  rw [h 1 (by decide) (by decide), h 2 (by decide) (by decide), h 3 (by decide) (by decide), h 4 (by decide) (by decide), h 5 (by decide) (by decide), h 6 (by decide) (by decide), h 7 (by decide) (by decide), h 8 (by decide) (by decide), h 9 (by decide) (by decide)]
  exact hg
/-- the row and the plan whose cells begin at A -/
def k_PA (r : Nat → Int) (σ : Nat → Nat → Int) (A : Nat) : Prop := k_PR r (σ A) (σ (A + 1)) (σ (A + 2)) (σ (A + 3)) (σ (A + 4)) (σ (A + 5)) (σ (A + 6)) (σ (A + 7)) (σ (A + 8)) ∧ k_Ty (fun i => σ (A + i - 1))
theorem k_PA_1 : k_PA r σ 1 ↔ k_P1 r σ ∧ k_Ty σ := ⟨fun h => ⟨h.1, k_Ty_19 (fun i _ _ => congrArg σ (show i = 1 + i - 1 by omega)) h.2⟩, fun h => ⟨h.1, k_Ty_19 (fun i _ _ => congrArg σ (show 1 + i - 1 = i by omega)) h.2⟩⟩
/-- the place of the u-th kept plan, of n kept ones -/
def g_slot (nx n u : Int) : Int := (nx + 8 - n + u) % 8
end K_R28
