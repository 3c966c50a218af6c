/-! ===== PLANS that are kept: copies, and the relation ===== -/
section K_R28
variable {σ ρ τ : Nat → Nat → Int} {r r' : Nat → Int}
theorem k_Ty_19 {f g : Nat → Nat → Int} (h : ∀ i, 1 ≤ i → i < 10 → f i = g i) (hg : k_Ty g) : k_Ty f := by
  unfold k_Ty at hg ⊢
  rw [h 1 (by decide) (by decide), h 2 (by decide) (by decide), h 3 (by decide) (by decide), h 4 (by decide) (by decide), h 5 (by decide) (by decide), h 6 (by decide) (by decide), h 7 (by decide) (by decide), h 8 (by decide) (by decide), h 9 (by decide) (by decide)]
  exact hg
/-- the row and the plan whose cells begin at A -/
def k_PA (r : Nat → Int) (σ : Nat → Nat → Int) (A : Nat) : Prop := k_PR r (σ A) (σ (A + 1)) (σ (A + 2)) (σ (A + 3)) (σ (A + 4)) (σ (A + 5)) (σ (A + 6)) (σ (A + 7)) (σ (A + 8)) ∧ k_Ty (fun i => σ (A + i - 1))
theorem k_PA_1 : k_PA r σ 1 ↔ k_P1 r σ ∧ k_Ty σ := ⟨fun h => ⟨h.1, k_Ty_19 (fun i _ _ => congrArg σ (show i = 1 + i - 1 by omega)) h.2⟩, fun h => ⟨h.1, k_Ty_19 (fun i _ _ => congrArg σ (show 1 + i - 1 = i by omega)) h.2⟩⟩
theorem k_PR_o {o o' si op ro wc wi re cp cb : Nat → Int} (h : k_PR r o si op ro wc wi re cp cb) (e0 : o' 0 = o 0) (e1 : o' 1 = o 1) (e2 : o' 2 = o 2) (e9 : o' 9 = o 9) : k_PR r o' si op ro wc wi re cp cb := by
  unfold k_PR k_PRo k_PRw k_PRt k_PRc at h ⊢
  rw [e0, e1, e2, e9]
  exact h
theorem k_PA_cong {A : Nat} (h : k_PA r σ A) (e : ∀ i, A ≤ i → i < A + 9 → τ i = σ i) : k_PA r τ A := by
  obtain ⟨h, hT⟩ := h
  refine ⟨?_, k_Ty_19 (fun i h1 h2 => e (A + i - 1) (by omega) (by omega)) hT⟩
  rw [e A (by omega) (by omega), e (A + 1) (by omega) (by omega), e (A + 2) (by omega) (by omega), e (A + 3) (by omega) (by omega), e (A + 4) (by omega) (by omega), e (A + 5) (by omega) (by omega), e (A + 6) (by omega) (by omega), e (A + 7) (by omega) (by omega), e (A + 8) (by omega) (by omega)]
  exact h
theorem u_copy_PA {A B : Nat} (h : k_PA r σ B) : k_PA r (u_copy σ A B) A := by
  have e : ∀ i, A < i → i < A + 9 → u_copy σ A B i = σ (i - A + B) := fun i h1 h2 => by
    unfold u_copy
    rw [if_neg (by omega), if_pos ⟨h1, h2⟩]
  have e0 : u_copy σ A B A = fun j => if j = 0 ∨ j = 1 ∨ j = 2 ∨ j = 9 then σ B j else σ A j := if_pos rfl
  obtain ⟨h, hT⟩ := h
  refine ⟨?_, ?_⟩
  · rw [e (A + 1) (by omega) (by omega), e (A + 2) (by omega) (by omega), e (A + 3) (by omega) (by omega), e (A + 4) (by omega) (by omega), e (A + 5) (by omega) (by omega), e (A + 6) (by omega) (by omega), e (A + 7) (by omega) (by omega), e (A + 8) (by omega) (by omega), e0]
    rw [show A + 1 - A + B = B + 1 by omega, show A + 2 - A + B = B + 2 by omega, show A + 3 - A + B = B + 3 by omega, show A + 4 - A + B = B + 4 by omega, show A + 5 - A + B = B + 5 by omega, show A + 6 - A + B = B + 6 by omega, show A + 7 - A + B = B + 7 by omega, show A + 8 - A + B = B + 8 by omega]
    refine k_PR_o h ?_ ?_ ?_ ?_
    · exact if_pos (by omega)
    · exact if_pos (by omega)
    · exact if_pos (by omega)
    · exact if_pos (by omega)
  · have c : ∀ i, 2 ≤ i → i < 10 → (fun i => u_copy σ A B (A + i - 1)) i = (fun i => σ (B + i - 1)) i := fun i h1 h2 => (e (A + i - 1) (by omega) (by omega)).trans (congrArg σ (by omega))
    have d : ∀ j, j = 0 ∨ j = 1 ∨ j = 2 ∨ j = 9 → (fun i => u_copy σ A B (A + i - 1)) 1 j = (fun i => σ (B + i - 1)) 1 j := fun j hj => by
      show u_copy σ A B (A + 1 - 1) j = σ (B + 1 - 1) j
      rw [show A + 1 - 1 = A by omega, show B + 1 - 1 = B by omega, e0]
      exact if_pos hj
    generalize (fun i => u_copy σ A B (A + i - 1)) = f at c d ⊢
    generalize (fun i => σ (B + i - 1)) = g at c d hT
    unfold k_Ty at hT ⊢
    rw [d 0 (by decide), d 1 (by decide), d 2 (by decide), d 9 (by decide), c 2 (by decide) (by decide), c 3 (by decide) (by decide), c 4 (by decide) (by decide), c 5 (by decide) (by decide), c 6 (by decide) (by decide), c 7 (by decide) (by decide), c 8 (by decide) (by decide), c 9 (by decide) (by decide)]
    exact hT
/-- a plan's row matters below 153 alone, but for what all its numbers are -/
theorem k_PR_r {o si op ro wc wi re cp cb : Nat → Int} (h : k_PR r o si op ro wc wi re cp cb) (h0 : o 0 ≤ 7) (h2 : o 2 ≤ 12) (h9 : o 9 ≤ 3) (hw : ∀ j, wc j ≤ 3) (hM : k_Mo r') (ha : k_al 0 153 r' r) : k_PR r' o si op ro wc wi re cp cb :=
  have sub : ∀ lo hi, hi ≤ 153 → k_al lo hi r' r := fun lo hi h2 j h3 h4 => ha j (by omega) (by omega)
  ⟨hM, k_PRo_r h.2.1 h0 (sub 0 3 (by decide)) (sub 10 45 (by decide)), k_PRw_r h.2.2.1 h2 hw (sub 45 105 (by decide)), k_PRt_r h.2.2.2.1 h2 (sub 105 153 (by decide)), k_PRc_r h.2.2.2.2 h9 (sub 3 10 (by decide))⟩
/-- the place of the u-th kept plan, of n kept ones -/
def g_slot (nx n u : Int) : Int := (nx + 8 - n + u) % 8
def g_tail (x : Nat → Int) (u : Nat) : Nat → Int := fun j => if j < 153 then x (153 * u + j) else 0
def k_Hs (σ ρ : Nat → Nat → Int) : Prop := ρ 123 5 = σ 24 2 ∧ ∀ u : Nat, (u : Int) < σ 24 2 → k_PA (g_tail (ρ 128) u) σ (26 + 9 * (g_slot (σ 24 1) (σ 24 2) (u : Int)).toNat)
/-- and what was saved -/
def k_Sv (σ ρ : Nat → Nat → Int) : Prop := ρ 123 6 = σ 0 10 ∧ (σ 0 10 ≠ 0 → k_PA (ρ 126) σ 98)
theorem k_Hs_cong {σ' ρ' : Nat → Nat → Int} (h : k_Hs σ ρ) (hH : k_Hi σ) (e : ∀ i, 24 ≤ i → i < 98 → σ' i = σ i) (e5 : ρ' 123 5 = ρ 123 5) (e8 : ρ' 128 = ρ 128) : k_Hs σ' ρ' := by
  obtain ⟨h1, h2⟩ := h
  have e24 := e 24 (by decide) (by decide)
  have hn := hH.2.1
  refine ⟨by rw [e5, e24]; exact h1, fun u hu => ?_⟩
  rw [e24] at hu ⊢
  rw [e8]
  refine k_PA_cong (h2 u hu) fun i h3 h4 => e i (by omega) ?_
  have : (g_slot (σ 24 1) (σ 24 2) (u : Int)).toNat < 8 := by
    unfold g_slot
    omega
  omega
theorem k_Sv_cong {σ' ρ' : Nat → Nat → Int} (h : k_Sv σ ρ) (e : ∀ i, 98 ≤ i → i < 107 → σ' i = σ i) (e0 : σ' 0 10 = σ 0 10) (e6 : ρ' 123 6 = ρ 123 6) (e8 : ρ' 126 = ρ 126) : k_Sv σ' ρ' := by
  obtain ⟨h1, h2⟩ := h
  refine ⟨by rw [e6, e0]; exact h1, fun hz => ?_⟩
  rw [e8]
  exact k_PA_cong (h2 (by rw [← e0]; exact hz)) fun i h3 h4 => e i h3 (by omega)
/-- one more is kept -/
theorem q_keep {σ' ρ' : Nat → Nat → Int} (h : k_Hs σ ρ) (hH : k_Hi σ) (hk : k_PA (g_tail (ρ' 128) (if σ 24 2 = 8 then 7 else (σ 24 2).toNat)) σ 1) (hσ : ∀ i, 24 ≤ i → i < 98 → σ' i = u_keepB σ 1 i) (h5 : ρ' 123 5 = if ρ 123 5 = 8 then 8 else ρ 123 5 + 1) (ht : ∀ u : Nat, (u : Int) < (if σ 24 2 = 8 then 7 else σ 24 2) → g_tail (ρ' 128) u = g_tail (ρ 128) (if σ 24 2 = 8 then u + 1 else u)) : k_Hs σ' ρ' := by
  obtain ⟨h1, h2⟩ := h
  obtain ⟨-, hn, hc⟩ := hH
  have e24 : σ' 24 = u_keepB σ 1 24 := hσ 24 (by decide) (by decide)
  have k24 : u_keepB σ 1 24 = k_u1 (k_u1 (σ 24) 1 (if σ 24 1 + 1 < 8 then σ 24 1 + 1 else 0)) 2 (z_min (σ 24 2 + 1) 8) := k_up_same
  have s1 : σ' 24 1 = if σ 24 1 + 1 < 8 then σ 24 1 + 1 else 0 := by
    rw [e24, k24]
    exact (if_neg (by decide)).trans (if_pos rfl)
  have s2 : σ' 24 2 = z_min (σ 24 2 + 1) 8 := by
    rw [e24, k24]
    exact if_pos rfl
  have hmin : z_min (σ 24 2 + 1) 8 = if σ 24 2 = 8 then 8 else σ 24 2 + 1 := by
    unfold z_min
    (repeat' split) <;> omega
  refine ⟨by rw [h5, s2, hmin, h1], fun u hu => ?_⟩
  rw [s2, hmin] at hu
  rw [s1, s2, hmin]
  have hold : ∀ i, 24 < i → i < 98 → (i < 26 + 9 * (σ 24 1).toNat ∨ 26 + 9 * (σ 24 1).toNat + 9 ≤ i) → σ' i = σ i := fun i a b c => by
    rw [hσ i (by omega) b]
    unfold u_keepB
    rw [k_up_ne (by omega)]
    exact u_copy_ne c
  have hnew : k_PA (g_tail (ρ' 128) (if σ 24 2 = 8 then 7 else (σ 24 2).toNat)) σ' (26 + 9 * (σ 24 1).toNat) := by
    refine k_PA_cong (u_copy_PA (A := 26 + 9 * (σ 24 1).toNat) hk) fun i a b => ?_
    rw [hσ i (by omega) (by omega)]
    unfold u_keepB
    exact k_up_ne (by omega)
  by_cases q8 : σ 24 2 = 8
  · rw [if_pos q8] at hu hnew ⊢
    by_cases q : u = 7
    · subst q
      have e : (g_slot (if σ 24 1 + 1 < 8 then σ 24 1 + 1 else 0) 8 ((7 : Nat) : Int)).toNat = (σ 24 1).toNat := by
        unfold g_slot
        split <;> omega
      rw [e]
      exact hnew
    · have h3 := ht u (by rw [if_pos q8]; omega)
      rw [if_pos q8] at h3
      rw [h3]
      have e : (g_slot (if σ 24 1 + 1 < 8 then σ 24 1 + 1 else 0) 8 (u : Int)).toNat = (g_slot (σ 24 1) (σ 24 2) ((u + 1 : Nat) : Int)).toNat := by
        unfold g_slot
        rw [q8]
        split <;> omega
      have hs : (g_slot (σ 24 1) (σ 24 2) ((u + 1 : Nat) : Int)).toNat < 8 ∧ (g_slot (σ 24 1) (σ 24 2) ((u + 1 : Nat) : Int)).toNat ≠ (σ 24 1).toNat := by
        unfold g_slot
        rw [q8]
        omega
      rw [e]
      exact k_PA_cong (h2 (u + 1) (by omega)) fun i a b => hold i (by omega) (by omega) (by omega)
  · rw [if_neg q8] at hu hnew ⊢
    by_cases q : u = (σ 24 2).toNat
    · subst q
      have e : (g_slot (if σ 24 1 + 1 < 8 then σ 24 1 + 1 else 0) (σ 24 2 + 1) (((σ 24 2).toNat : Nat) : Int)).toNat = (σ 24 1).toNat := by
        unfold g_slot
        split <;> omega
      rw [e]
      exact hnew
    · have h3 := ht u (by rw [if_neg q8]; omega)
      rw [if_neg q8] at h3
      rw [h3]
      have e : (g_slot (if σ 24 1 + 1 < 8 then σ 24 1 + 1 else 0) (σ 24 2 + 1) (u : Int)).toNat = (g_slot (σ 24 1) (σ 24 2) (u : Int)).toNat := by
        unfold g_slot
        split <;> omega
      have hs : (g_slot (σ 24 1) (σ 24 2) (u : Int)).toNat < 8 ∧ (g_slot (σ 24 1) (σ 24 2) (u : Int)).toNat ≠ (σ 24 1).toNat := by
        unfold g_slot
        omega
      rw [e]
      exact k_PA_cong (h2 u (by omega)) fun i a b => hold i (by omega) (by omega) (by omega)
end K_R28
