/-! ===== SETS OF BLOCKS: served by search and by sets ===== -/
section K_R21
variable {σ ρ τ : Nat → Nat → Int} {r : Nat → Int}
theorem k_fold_congP {α : Type} {P : α → Prop} {f g : Nat → α → α} : ∀ (n : Nat) (a : α), P a → (∀ i x, i < n → P x → f i x = g i x ∧ P (g i x)) → k_fold n f a = k_fold n g a ∧ P (k_fold n g a)
  | 0, _, h, _ => ⟨rfl, h⟩
  | n + 1, a, h, hs => by
    obtain ⟨i1, i2⟩ := k_fold_congP n a h fun i x hi => hs i x (by omega)
    have := hs n (k_fold n g a) (by omega) i2
    exact ⟨(congrArg (f n) i1).trans this.1, this.2⟩
theorem k_fold_stop {α : Type} (F : Nat → α → α) (x : α) (m : Nat) : ∀ n : Nat, m ≤ n → (∀ i y, m ≤ i → i < n → F i y = y) → k_fold n F x = k_fold m F x
  | 0, h, _ => by
    have : m = 0 := by omega
    subst this
    rfl
  | n + 1, h, hF => by
    by_cases e : m = n + 1
    · rw [e]
    · show F n (k_fold n F x) = _
      rw [hF n _ (by omega) (by omega)]
      exact k_fold_stop F x m n (by omega) fun i y h1 h2 => hF i y h1 (by omega)
theorem k_for_fold {R α : Type} {f : Nat → α → R ⊕ α} {g : Nat → α → α} : ∀ (n i : Nat) (a : α), (∀ j x, i ≤ j → j < i + n → f j x = .inr (g j x)) → k_for f n i a = .inr (k_it g n i a)
  | 0, _, _, _ => rfl
  | n + 1, i, a, h => by
    show k_cn2 _ (f i a) = _
    rw [h i a (Nat.le_refl i) (by omega)]
    exact k_for_fold n (i + 1) (g i a) fun j x h1 h2 => h j x (by omega) (by omega)
theorem z_or_0 {x : Int} (h : 0 ≤ x) : z_or x 0 = x := by
  unfold z_or
  have : (0 : Int).toNat = 0 := rfl
  rw [this, Nat.or_zero]
  omega
theorem z_bit_nat (t : Nat) (b : Int) : z_and (z_shr (t : Int) b) 1 = 0 ↔ ¬ z_bit (t : Int) b = true := by
  rw [← z_bit_shr]
  have h : z_and (z_shr (t : Int) b) 1 = 0 ∨ z_and (z_shr (t : Int) b) 1 = 1 := by
    unfold z_and
    have e : (z_shr (t : Int) b).toNat &&& (1 : Int).toNat = (z_shr (t : Int) b).toNat % 2 := Nat.and_one_is_mod _
    rw [e]
    omega
  omega
/-- sets with one block more -/
theorem q_more {p s ways nr us : Int} (hr : 1 ≤ r 1 ∧ r 1 ≤ 4) (hus : ∀ b : Nat, b < 4 → (z_bit us (b : Int) = true ↔ (b : Int) < r 1 ∧ (if nr = 0 then r (17 + 4 * s + (b : Int)).toNat = 1 else m_hasRoom r s (b : Int) p = true))) : m_more r p s ways nr = f_swo ways us := by
  unfold m_more r_more_6 f_swo f_swoN
  rw [k_it_fold]
  refine (k_fold_congP (P := fun x : Int => 0 ≤ x) 16 0 (Int.le_refl 0) fun t x ht hx => ?_).1
  have hnn : ∀ n : Nat, 0 ≤ f_swoI ways us t x n := fun n => k_fold_inv (P := fun y : Int => 0 ≤ y) hx (fun i y hy => by
    split
    · exact z_or_nn _ _
    · exact hy) n
  refine ⟨?_, hnn 4⟩
  unfold b_more_6 r_more_16
  by_cases hw : z_bit ways (t : Int) = true
  · have hb : ∀ (b : Nat) (y : Int), b < (r 1).toNat → b_more_16 r p s ways nr t x b y = .inr (if z_bit us (b : Int) = true ∧ ¬ z_bit (t : Int) (b : Int) = true then z_or y (z_one (z_or (t : Int) (z_one (b : Int)))) else z_or y 0) := fun b y hb => by
      have hu := hus b (by omega)
      unfold b_more_16
      rw [if_pos ((z_bit_shr _ _).mpr hw)]
      by_cases hn : nr = 0
      · rw [if_pos hn] at hu ⊢
        by_cases q : r (17 + 4 * s + (b : Int)).toNat = 1
        · rw [if_pos q]
          by_cases q2 : z_bit (t : Int) (b : Int) = true
          · rw [if_neg fun z => (z_bit_nat t b).mp z q2, if_neg fun z => z.2 q2]
          · rw [if_pos ((z_bit_nat t b).mpr q2), if_pos ⟨hu.mpr ⟨by omega, q⟩, q2⟩]
        · rw [if_neg q, if_neg fun z => q (hu.mp z.1).2]
      · rw [if_neg hn] at hu ⊢
        by_cases q : m_hasRoom r s (b : Int) p = true
        · rw [if_pos q]
          by_cases q2 : z_bit (t : Int) (b : Int) = true
          · rw [if_neg fun z => (z_bit_nat t b).mp z q2, if_neg fun z => z.2 q2]
          · rw [if_pos ((z_bit_nat t b).mpr q2), if_pos ⟨hu.mpr ⟨by omega, q⟩, q2⟩]
        · rw [if_neg q, if_neg fun z => q (hu.mp z.1).2]
    rw [k_for_fold (g := fun b y => if z_bit us (b : Int) = true ∧ ¬ z_bit (t : Int) (b : Int) = true then z_or y (z_one (z_or (t : Int) (z_one (b : Int)))) else z_or y 0) _ _ _ fun j y _ hj => hb j y (by omega)]
    show k_it _ _ 0 x = _
    rw [k_it_fold]
    unfold f_swoI
    rw [k_fold_stop (fun (b : Nat) a => if z_bit ways (t : Int) = true ∧ z_bit (z_diff us (t : Int)) (b : Int) = true then z_or a (z_one (z_or (t : Int) (z_one (b : Int)))) else a) x (r 1).toNat 4 (by omega) fun i y h1 h2 => if_neg fun z => by
      rw [z_bit_diff, Bool.and_eq_true] at z
      have := ((hus i h2).mp z.2.1).1
      omega]
    refine (k_fold_congP (P := fun y : Int => 0 ≤ y) _ x hx fun b y hb hy => ?_).1
    have e : (z_bit ways (t : Int) = true ∧ z_bit (z_diff us (t : Int)) (b : Int) = true) ↔ (z_bit us (b : Int) = true ∧ ¬ z_bit (t : Int) (b : Int) = true) := by
      rw [z_bit_diff, Bool.and_eq_true, Bool.not_eq_true', Bool.not_eq_true]
      exact ⟨fun z => z.2, fun z => ⟨hw, z⟩⟩
    by_cases q : z_bit us (b : Int) = true ∧ ¬ z_bit (t : Int) (b : Int) = true
    · rw [if_pos q, if_pos (e.mpr q)]
      exact ⟨rfl, z_or_nn _ _⟩
    · rw [if_neg q, if_neg fun z => q (e.mp z)]
      exact ⟨z_or_0 hy, hy⟩
  · have e1 : k_for (b_more_16 r p s ways nr t x) (r 1).toNat 0 x = .inl x := by
      obtain ⟨m, hm⟩ : ∃ m : Nat, (r 1).toNat = m + 1 := ⟨(r 1).toNat - 1, by omega⟩
      rw [hm]
      show k_cn2 _ (b_more_16 r p s ways nr t x 0 x) = _
      unfold b_more_16
      rw [if_neg fun z => hw ((z_bit_shr _ _).mp z)]
      rfl
    rw [e1]
    show x = _
    unfold f_swoI
    rw [k_fold_stop (fun (b : Nat) a => if z_bit ways (t : Int) = true ∧ z_bit (z_diff us (t : Int)) (b : Int) = true then z_or a (z_one (z_or (t : Int) (z_one (b : Int)))) else a) x 0 4 (by omega) fun i y h1 h2 => if_neg fun z => hw z.1]
    rfl
theorem z_swoI (sets blocks u : Int) (hu : 0 ≤ u) (t : Nat) (a : Int) : ∀ n : Nat, z_bit (f_swoI sets blocks t a n) u = true ↔ z_bit a u = true ∨ ∃ b : Nat, b < n ∧ (z_bit sets (t : Int) = true ∧ z_bit (z_diff blocks (t : Int)) (b : Int) = true) ∧ u = z_or (t : Int) (z_one (b : Int))
  | 0 => ⟨Or.inl, fun h => h.elim id fun ⟨b, h, _⟩ => absurd h (Nat.not_lt_zero b)⟩
  | n + 1 => by
    have ih := z_swoI sets blocks u hu t a n
    show z_bit (if z_bit sets (t : Int) = true ∧ z_bit (z_diff blocks (t : Int)) (n : Int) = true then z_or (f_swoI sets blocks t a n) (z_one (z_or (t : Int) (z_one (n : Int)))) else f_swoI sets blocks t a n) u = true ↔ _
    by_cases q : z_bit sets (t : Int) = true ∧ z_bit (z_diff blocks (t : Int)) (n : Int) = true
    · rw [if_pos q, z_bit_or, Bool.or_eq_true, ih, z_bit_one (z_or_nn _ _) hu, decide_eq_true_eq]
      constructor
      · rintro ((h | ⟨b, b1, b2⟩) | h)
        · exact Or.inl h
        · exact Or.inr ⟨b, by omega, b2⟩
        · exact Or.inr ⟨n, by omega, q, h.symm⟩
      · rintro (h | ⟨b, b1, b2, b3⟩)
        · exact Or.inl (Or.inl h)
        · by_cases e : b = n
          · subst e
            exact Or.inr b3.symm
          · exact Or.inl (Or.inr ⟨b, by omega, b2, b3⟩)
    · rw [if_neg q, ih]
      refine or_congr_right ⟨fun ⟨b, b1, b2⟩ => ⟨b, by omega, b2⟩, fun ⟨b, b1, b2⟩ => ?_⟩
      by_cases e : b = n
      · subst e
        exact absurd b2.1 q
      · exact ⟨b, by omega, b2⟩
theorem z_swo (sets blocks u : Int) (hu : 0 ≤ u) : z_bit (f_swo sets blocks) u = true ↔ ∃ t b : Nat, t < 16 ∧ b < 4 ∧ (z_bit sets (t : Int) = true ∧ z_bit (z_diff blocks (t : Int)) (b : Int) = true) ∧ u = z_or (t : Int) (z_one (b : Int)) := by
  have h : ∀ n : Nat, z_bit (f_swoN sets blocks n) u = true ↔ ∃ t b : Nat, t < n ∧ b < 4 ∧ (z_bit sets (t : Int) = true ∧ z_bit (z_diff blocks (t : Int)) (b : Int) = true) ∧ u = z_or (t : Int) (z_one (b : Int)) := fun n => by
    induction n with
    | zero =>
      show z_bit 0 u = true ↔ _
      rw [z_bit_0]
      exact ⟨fun h => (by cases h), fun ⟨t, b, h, _⟩ => absurd h (Nat.not_lt_zero t)⟩
    | succ n ih =>
      show z_bit (f_swoI sets blocks n (f_swoN sets blocks n) 4) u = true ↔ _
      rw [z_swoI sets blocks u hu, ih]
      constructor
      · rintro (⟨t, b, h1, h2⟩ | ⟨b, h1, h2⟩)
        · exact ⟨t, b, by omega, h2⟩
        · exact ⟨n, b, by omega, h1, h2⟩
      · rintro ⟨t, b, h1, h2⟩
        by_cases e : t = n
        · subst e
          exact Or.inr ⟨b, h2⟩
        · exact Or.inl ⟨t, b, by omega, h2⟩
  exact h 16
end K_R21
