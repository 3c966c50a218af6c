/-! ===== THE MODEL: loops with their specs, ifs, what its row holds, its small methods ===== -/
section K_M0
/-- a loop of n turns from i on -/
def k_it {α : Type} (f : Nat → α → α) : Nat → Nat → α → α
  | 0, _, a => a
  | n + 1, i, a => k_it f n (i + 1) (f i a)
def k_cn2 {ρ α : Type} (g : α → ρ ⊕ α) : ρ ⊕ α → ρ ⊕ α
  | .inl r => .inl r
  | .inr a => g a
/-- a loop that may be left with a value -/
def k_for {ρ α : Type} (f : Nat → α → ρ ⊕ α) : Nat → Nat → α → ρ ⊕ α
  | 0, _, a => .inr a
  | n + 1, i, a => k_cn2 (k_for f n (i + 1)) (f i a)
def k_els {ρ α : Type} (r : α → ρ) : ρ ⊕ α → ρ
  | .inl v => v
  | .inr a => r a
theorem k_it_inv {α : Type} {f : Nat → α → α} {J : Nat → α → Prop} (h : ∀ i x, J i x → J (i + 1) (f i x)) : ∀ (n i : Nat) (a : α), J i a → J (i + n) (k_it f n i a)
  | 0, _, _, h0 => h0
  | n + 1, i, a, h0 => by
    have := k_it_inv h n (i + 1) (f i a) (h i a h0)
    rwa [show i + 1 + n = i + (n + 1) by omega] at this
/-- the same with the last turn outside -/
theorem k_it_succ {α : Type} (f : Nat → α → α) : ∀ (n i : Nat) (a : α), k_it f (n + 1) i a = f (i + n) (k_it f n i a)
  | 0, _, _ => rfl
  | n + 1, i, a => by
    show k_it f (n + 1) (i + 1) (f i a) = _
    rw [k_it_succ f n (i + 1) (f i a), show i + 1 + n = i + (n + 1) by omega]
    rfl
theorem k_it_fold {α : Type} (f : Nat → α → α) (a : α) : ∀ n : Nat, k_it f n 0 a = k_fold n f a
  | 0 => rfl
  | n + 1 => by
    rw [k_it_succ, k_it_fold f a n, Nat.zero_add]
    rfl
theorem k_it_congr {α : Type} {f g : Nat → α → α} : ∀ (n i : Nat) (a : α), (∀ j x, i ≤ j → j < i + n → f j x = g j x) → k_it f n i a = k_it g n i a
  | 0, _, _, _ => rfl
  | n + 1, i, a, h => by
    show k_it f n (i + 1) (f i a) = k_it g n (i + 1) (g i a)
    rw [h i a (Nat.le_refl _) (by omega)]
    exact k_it_congr n (i + 1) _ fun j x h1 h2 => h j x (by omega) (by omega)
variable {E : k_E} {M : k_M} {dp pc k n : Nat} {ls : List (Nat × Value)} {st : List Value} {sh : List k_Sh} {σ : Nat → Nat → Int} {Q : k_Q}
/-- shifts, quotients -/
def z_shr (x i : Int) : Int := ((x.toNat / 2 ^ i.toNat : Nat) : Int)
def z_shl (x i : Int) : Int := ((x.toNat * 2 ^ i.toNat : Nat) : Int)
/-- what the model's row holds: subjects, blocks, pupils, moves; sizes, open classes, counts, wishes, reserves, timetables -/
def k_Mo (r : Nat → Int) : Prop := (0 ≤ r 0 ∧ r 0 ≤ 7) ∧ (1 ≤ r 1 ∧ r 1 ≤ 4) ∧ (0 ≤ r 2 ∧ r 2 ≤ 12) ∧ (-1 ≤ r 3 ∧ r 3 ≤ 3) ∧ (∀ j, -1 ≤ r j ∧ r j ≤ 12) ∧ (∀ j, 10 ≤ j → j < 17 → 0 ≤ r j ∧ r j ≤ 9) ∧ (∀ j, 17 ≤ j → j < 45 → 0 ≤ r j ∧ r j ≤ 1) ∧ (∀ j, 45 ≤ j → j < 57 → 0 ≤ r j ∧ r j ≤ 3) ∧ (∀ j, 57 ≤ j → j < 93 → 0 ≤ r j ∧ r j ≤ 6) ∧ ∀ j, 93 ≤ j → r j ≤ 6
variable {r : Nat → Int}
theorem k_Mo_u (h : k_Mo r) {j : Nat} {z : Int} (hz : (-1 ≤ z ∧ z ≤ 12) ∧ (j = 0 → 0 ≤ z ∧ z ≤ 7) ∧ (j = 1 → 1 ≤ z ∧ z ≤ 4) ∧ (j = 2 → 0 ≤ z) ∧ (j = 3 → z ≤ 3) ∧ (10 ≤ j → j < 17 → 0 ≤ z ∧ z ≤ 9) ∧ (17 ≤ j → j < 45 → 0 ≤ z ∧ z ≤ 1) ∧ (45 ≤ j → j < 57 → 0 ≤ z ∧ z ≤ 3) ∧ (57 ≤ j → j < 93 → 0 ≤ z ∧ z ≤ 6) ∧ (93 ≤ j → z ≤ 6)) : k_Mo (k_u1 r j z) := by
  obtain ⟨h0, h1, h2, h3, h4, h5, h6, h7, h8, h9⟩ := h
  obtain ⟨z0, z1, z2, z3, z4, z5, z6, z7, z8, z9⟩ := hz
  unfold k_Mo k_u1
  refine ⟨?_, ?_, ?_, ?_, fun i => ?_, fun i a b => ?_, fun i a b => ?_, fun i a b => ?_, fun i a b => ?_, fun i a => ?_⟩
  · split <;> omega
  · split <;> omega
  · split <;> omega
  · split <;> omega
  · have := h4 i
    split <;> omega
  · have := h5 i a b
    split <;> omega
  · have := h6 i a b
    split <;> omega
  · have := h7 i a b
    split <;> omega
  · have := h8 i a b
    split <;> omega
  · have := h9 i a
    split <;> omega
theorem k_Mo_opn (h : k_Mo r) {x : Int} (h0 : 17 ≤ x) (h1 : x < 45) : 0 ≤ r x.toNat ∧ r x.toNat ≤ 1 := h.2.2.2.2.2.2.1 _ (by omega) (by omega)
theorem k_Mo_tab (h : k_Mo r) {x : Int} (h0 : 105 ≤ x) (_ : x < 153) : -1 ≤ r x.toNat ∧ r x.toNat ≤ 6 := ⟨(h.2.2.2.2.1 _).1, h.2.2.2.2.2.2.2.2.2 _ (by omega)⟩
end K_M0
