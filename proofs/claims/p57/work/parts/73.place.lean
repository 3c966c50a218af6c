/-! ===== PLACEMENTS: the best one by search and by trial of 625 codes ===== -/
section K_R17
variable {σ ρ τ : Nat → Nat → Int} {r : Nat → Int}
theorem z_bit_shr (t a : Int) : z_and (z_shr t a) 1 = 1 ↔ z_bit t a = true := by
  unfold z_and z_shr z_bit
  rw [Nat.testBit_eq_decide_div_mod_eq, decide_eq_true_eq]
  have e : ((t.toNat / 2 ^ a.toNat : Nat) : Int).toNat &&& (1 : Int).toNat = t.toNat / 2 ^ a.toNat % 2 := Nat.and_one_is_mod _
  rw [e]
  omega
theorem k_for_succ {R α : Type} (f : Nat → α → R ⊕ α) : ∀ (n i : Nat) (a : α), k_for f (n + 1) i a = k_cn2 (f (i + n)) (k_for f n i a)
  | 0, i, a => by
    show k_cn2 _ (f i a) = k_cn2 _ (.inr a)
    cases h : f i a with
    | inl v => exact h.symm
    | inr x => exact h.symm
  | n + 1, i, a => by
    show k_cn2 (k_for f (n + 1) (i + 1)) (f i a) = k_cn2 _ (k_cn2 (k_for f n (i + 1)) (f i a))
    cases h : f i a with
    | inl v => rfl
    | inr x =>
      show k_for f (n + 1) (i + 1) x = k_cn2 _ (k_for f n (i + 1) x)
      rw [k_for_succ f n (i + 1) x, show i + 1 + n = i + (n + 1) by omega]
def g_subj (r : Nat → Int) (p : Int) (i : Nat) : Int := if i = 3 then r (93 + p).toNat else r (57 + 3 * p + (i : Int)).toNat
theorem u_roomy11 (σ : Nat → Nat → Int) (p : Int) {i : Nat} (hi : i < 4) : u_roomy σ p 11 i = if i = 3 then f_roomy σ (σ 7 p.toNat) (z_one p) else f_useR σ p i := by
  have e : u_roomy σ p 11 = k_u1 (f_useRN σ p 3) 3 (f_roomy σ (σ 7 p.toNat) (z_one p)) := rfl
  rw [e]
  unfold k_u1
  by_cases q : i = 3
  · rw [if_pos q, if_pos q]
  · rw [if_neg q, if_neg q]
    unfold f_useRN
    rw [z_foldu, if_pos (by omega)]
theorem q_use (hR : k_P1 r σ) (hI : k_Ty σ) {p : Int} (hp : 0 ≤ p ∧ p < σ 1 2) {i : Nat} (hi : i < 4) {b : Int} (hb : 0 ≤ b ∧ b < 4) : z_bit (u_roomy σ p 11 i) b = true ↔ (i = 3 ∨ (i : Int) < r (45 + p).toNat) ∧ g_subj r p i ≠ -1 ∧ b < r 1 ∧ m_hasRoom r (g_subj r p i) b p = true := by
  have hB := hI.2.1
  have e1 : r 1 = σ 1 1 := hR.2.1.1.2.1
  have hw := hR.2.2.1.1 p hp.1 hp.2
  have hlt : ∀ s : Int, z_bit (f_roomy σ s (z_one p)) b = true → b < σ 1 1 := fun s h => by
    have := ((z_roomyN σ s (z_one p) b hb.1 (σ 1 1).toNat).mp h).1
    omega
  rw [u_roomy11 σ p hi, hw.1, e1]
  unfold g_subj
  by_cases q : i = 3
  · rw [if_pos q, if_pos q, hw.2.1]
    by_cases q2 : σ 7 p.toNat = -1
    · rw [q2]
      constructor
      · intro h
        have h2 := ((z_roomyN σ (-1) (z_one p) b hb.1 (σ 1 1).toNat).mp h).2.1
        have := (q_openB hR hb.1 h2).1
        omega
      · intro h
        exact absurd rfl h.2.1
    · have h7 := hI.2.2.2.2.2.2.2.2.1 p.toNat
      have hs : 0 ≤ σ 7 p.toNat ∧ σ 7 p.toNat < σ 1 0 := ⟨by omega, hw.2.2⟩
      have := q_roomy hR hI hp hs hb
      exact ⟨fun h => ⟨Or.inl q, q2, hlt _ h, this.mp h⟩, fun h => this.mpr h.2.2.2⟩
  · rw [if_neg q, if_neg q]
    unfold f_useR
    by_cases q2 : (i : Int) < σ 5 p.toNat
    · rw [if_pos q2]
      obtain ⟨w1, w2, w3⟩ := q_wish hR hI hp (k := (i : Int)) ⟨by omega, q2⟩
      have := q_roomy hR hI hp ⟨w2, w3⟩ hb
      rw [← w1]
      exact ⟨fun h => ⟨Or.inr q2, by omega, hlt _ h, this.mp h⟩, fun h => this.mpr h.2.2.2⟩
    · rw [if_neg q2, z_bit_0]
      exact ⟨fun h => (by cases h), fun h => h.1.elim (fun y => absurd y q) (fun y => absurd y q2)⟩
theorem q_worth_step (hR : k_P1 r σ) (hI : k_Ty σ) {p : Int} (hp : 0 ≤ p ∧ p < σ 1 2) {a : Nat → Int} {i : Nat} (hi : i < 4) (ha : 0 ≤ a i ∧ a i ≤ 4) (t sc : Int) : b_worth_7 r a p i (t, sc) = if a i = 4 then .inr (t, sc) else if z_bit (z_diff (u_roomy σ p 11 i) t) (a i) = true then .inr (z_or t (z_one (a i)), sc + z_one (3 - (i : Int))) else .inl (-1) := by
  unfold b_worth_7
  rw [Int.toNat_natCast]
  by_cases h4 : a i = 4
  · rw [if_pos h4, if_pos h4]
  · rw [if_neg h4, if_neg h4]
    have hu := q_use hR hI hp hi (b := a i) ⟨ha.1, by omega⟩
    unfold g_subj at hu
    have hbit : z_bit (z_diff (u_roomy σ p 11 i) t) (a i) = true ↔ z_bit (u_roomy σ p 11 i) (a i) = true ∧ ¬ z_bit t (a i) = true := by
      rw [z_bit_diff, Bool.and_eq_true, Bool.not_eq_true', Bool.not_eq_true]
    by_cases q : i = 3
    · subst q
      rw [if_pos rfl] at hu
      rw [if_pos (show ((3 : Nat) : Int) = 3 from rfl)]
      by_cases c1 : r (93 + p).toNat = -1
      · rw [if_pos c1, if_neg fun y => (hu.mp (hbit.mp y).1).2.1 c1]
      · rw [if_neg c1]
        by_cases c2 : a 3 < r 1
        · rw [if_pos c2]
          by_cases c3 : z_bit t (a 3) = true
          · rw [if_pos ((z_bit_shr _ _).mpr c3), if_neg fun y => (hbit.mp y).2 c3]
          · rw [if_neg fun y => c3 ((z_bit_shr _ _).mp y)]
            by_cases c4 : m_hasRoom r (r (93 + p).toNat) (a 3) p = true
            · rw [if_pos c4, if_pos (hbit.mpr ⟨hu.mpr ⟨Or.inl rfl, c1, c2, c4⟩, c3⟩), if_pos (show ((3 : Nat) : Int) = 3 from rfl)]
              rfl
            · rw [if_neg c4, if_neg fun y => c4 (hu.mp (hbit.mp y).1).2.2.2]
        · rw [if_neg c2, if_neg fun y => c2 (hu.mp (hbit.mp y).1).2.2.1]
    · rw [if_neg q] at hu
      rw [if_neg (show ¬ (i : Int) = 3 by omega)]
      by_cases c0 : (i : Int) < r (45 + p).toNat
      · rw [if_pos c0]
        by_cases c1 : r (57 + 3 * p + (i : Int)).toNat = -1
        · rw [if_pos c1, if_neg fun y => (hu.mp (hbit.mp y).1).2.1 c1]
        · rw [if_neg c1]
          by_cases c2 : a i < r 1
          · rw [if_pos c2]
            by_cases c3 : z_bit t (a i) = true
            · rw [if_pos ((z_bit_shr _ _).mpr c3), if_neg fun y => (hbit.mp y).2 c3]
            · rw [if_neg fun y => c3 ((z_bit_shr _ _).mp y)]
              by_cases c4 : m_hasRoom r (r (57 + 3 * p + (i : Int)).toNat) (a i) p = true
              · rw [if_pos c4, if_pos (hbit.mpr ⟨hu.mpr ⟨Or.inr c0, c1, c2, c4⟩, c3⟩), if_neg (show ¬ (i : Int) = 3 by omega)]
                have hz : z_shr 8 (i : Int) = z_one (3 - (i : Int)) := by
                  have : i = 0 ∨ i = 1 ∨ i = 2 := by omega
                  rcases this with rfl | rfl | rfl <;> rfl
                rw [hz]
              · rw [if_neg c4, if_neg fun y => c4 (hu.mp (hbit.mp y).1).2.2.2]
          · rw [if_neg c2, if_neg fun y => c2 (hu.mp (hbit.mp y).1).2.2.1]
      · rw [if_neg c0, if_neg fun y => (hu.mp (hbit.mp y).1).1.elim q c0]
/-- the lacking wish, and the worth, look at the first entries alone -/
theorem z_lacks (r : Nat → Int) (a : Nat → Int) (p : Int) : m_lacksWish r a p = true ↔ ∃ k : Nat, k < (r (45 + p).toNat).toNat ∧ a k = 4 := by
  have h : ∀ n : Nat, (k_it (b_lacksWish_4 r a p) n 0 0 = 0 ∨ k_it (b_lacksWish_4 r a p) n 0 0 = 1) ∧ (k_it (b_lacksWish_4 r a p) n 0 0 = 1 ↔ ∃ k : Nat, k < n ∧ a k = 4) := by
    intro n
    induction n with
    | zero => exact ⟨Or.inl rfl, fun h => absurd (show (0 : Int) = 1 from h) (by decide), fun ⟨k, h, _⟩ => absurd h (Nat.not_lt_zero k)⟩
    | succ n ih =>
      rw [k_it_succ, Nat.zero_add]
      generalize k_it (b_lacksWish_4 r a p) n 0 0 = x at ih ⊢
      obtain ⟨i1, i2⟩ := ih
      unfold b_lacksWish_4
      rw [Int.toNat_natCast]
      by_cases q : x = 0
      · rw [if_pos q]
        by_cases w : a n = 4
        · rw [if_pos w]
          exact ⟨Or.inr rfl, fun _ => ⟨n, by omega, w⟩, fun _ => rfl⟩
        · rw [if_neg w]
          refine ⟨Or.inl rfl, fun h => absurd h (by decide), fun ⟨k, h1, h2⟩ => ?_⟩
          have : k ≠ n := fun z => w (z ▸ h2)
          have := i2.mpr ⟨k, by omega, h2⟩
          omega
      · rw [if_neg q]
        obtain ⟨k, h1, h2⟩ := i2.mp (i1.resolve_left q)
        exact ⟨Or.inr rfl, fun _ => ⟨k, by omega, h2⟩, fun _ => rfl⟩
  unfold m_lacksWish r_lacksWish_4
  rw [decide_eq_true_eq]
  exact (h _).2
theorem k_for_cong {R α : Type} {f g : Nat → α → R ⊕ α} : ∀ (n i : Nat) (a : α), (∀ j x, i ≤ j → j < i + n → f j x = g j x) → k_for f n i a = k_for g n i a
  | 0, _, _, _ => rfl
  | n + 1, i, a, h => by
    show k_cn2 (k_for f n (i + 1)) (f i a) = k_cn2 (k_for g n (i + 1)) (g i a)
    rw [h i a (Nat.le_refl i) (by omega)]
    cases g i a with
    | inl v => rfl
    | inr x => exact k_for_cong n (i + 1) x fun j y h1 h2 => h j y (by omega) (by omega)
theorem b_worth_a {a a' : Nat → Int} {p : Int} {i : Nat} (h : a i = a' i) (x : Int × Int) : b_worth_7 r a p i x = b_worth_7 r a' p i x := by
  unfold b_worth_7
  rw [Int.toNat_natCast, h]
theorem m_worth_a {a a' : Nat → Int} {p : Int} (hm : r (45 + p).toNat ≤ 3) (h : ∀ i, i < 4 → a i = a' i) : m_worth r a p = m_worth r a' p := by
  have hl : m_lacksWish r a p = m_lacksWish r a' p := by
    rw [Bool.eq_iff_iff, z_lacks, z_lacks]
    constructor
    · rintro ⟨k, h1, h2⟩
      exact ⟨k, h1, (h k (by omega)) ▸ h2⟩
    · rintro ⟨k, h1, h2⟩
      exact ⟨k, h1, (h k (by omega)).trans h2⟩
  unfold m_worth
  rw [k_for_cong (g := b_worth_7 r a' p) 4 0 (0, 0) fun j x _ hj => b_worth_a (h j (by omega)) x]
  have : r_worth_7 r a p = r_worth_7 r a' p := by
    funext x
    unfold r_worth_7
    rw [h 3 (by omega), hl]
  rw [this]
end K_R17
