/-! ===== PLACEMENTS: the model's 625 codes ===== -/
section K_R19
variable {σ ρ τ : Nat → Nat → Int} {r : Nat → Int}
theorem k_it_blocks {α : Type} (f : Nat → α → α) (m i : Nat) (x : α) : ∀ q : Nat, k_it f (m * q) i x = k_fold q (fun d y => k_it f m (i + d * m) y) x
  | 0 => rfl
  | q + 1 => by
    rw [Nat.mul_succ, k_it_split f m (m * q) i x, k_it_blocks f m i x q, Nat.mul_comm m q]
    rfl
abbrev G_X : Type := (Nat → Int) × (Nat → Int) × (Nat → Int)
def G_Rm (f0 : Nat → Int) (x : G_X) (B : G_B) : Prop := x.1 19 = B.2 ∧ (∀ k, k < 4 → x.2.2 k = B.1 k) ∧ ∀ j, j ≠ 19 → x.1 j = f0 j
theorem q_code {p : Int} (hm : ρ 124 (45 + p).toNat ≤ 3) (f0 : Nat → Int) {a : Nat → Int} (c : Nat) {x : G_X} {B : G_B} (ha : ∀ k, k < 4 → a k = ((c / 5 ^ (3 - k) % 5 : Nat) : Int)) (h : G_Rm f0 x B) : G_Rm f0 (b_findsPlacement_7 ρ p c x) (G_leaf (ρ 124) p a B) := by
  obtain ⟨h1, h2, h3⟩ := h
  unfold b_findsPlacement_7 r_findsPlacement_19
  have hat : ∀ k, k < 4 → (k_it (b_findsPlacement_19 ρ p c x) 4 0 ((c : Int), x.2.1)).2 k = a k := fun k hk => by
    have e : (k_it (b_findsPlacement_19 ρ p c x) 4 0 ((c : Int), x.2.1)).2 = k_u1 (k_u1 (k_u1 (k_u1 x.2.1 (3 - ((0 : Nat) : Int)).toNat ((c : Int) % 5)) (3 - ((1 : Nat) : Int)).toNat ((c : Int) / 5 % 5)) (3 - ((2 : Nat) : Int)).toNat ((c : Int) / 5 / 5 % 5)) (3 - ((3 : Nat) : Int)).toNat ((c : Int) / 5 / 5 / 5 % 5) := rfl
    rw [e, ha k hk]
    have : k = 0 ∨ k = 1 ∨ k = 2 ∨ k = 3 := by omega
    rcases this with rfl | rfl | rfl | rfl
    · show (c : Int) / 5 / 5 / 5 % 5 = ((c / 125 % 5 : Nat) : Int)
      omega
    · show (c : Int) / 5 / 5 % 5 = ((c / 25 % 5 : Nat) : Int)
      omega
    · show (c : Int) / 5 % 5 = ((c / 5 % 5 : Nat) : Int)
      omega
    · show (c : Int) % 5 = ((c / 1 % 5 : Nat) : Int)
      omega
  generalize (k_it (b_findsPlacement_19 ρ p c x) 4 0 ((c : Int), x.2.1)) = y at hat ⊢
  rw [m_worth_a hm hat, h1]
  unfold G_leaf
  by_cases q : m_worth (ρ 124) a p ≤ B.2
  · rw [if_pos q, if_pos q]
    exact ⟨h1, h2, h3⟩
  · rw [if_neg q, if_neg q]
    unfold r_findsPlacement_72
    refine ⟨?_, fun k hk => ?_, fun j hj => ?_⟩
    · dsimp only
      rw [m_worth_a hm hat]
      exact if_pos rfl
    · refine Eq.trans ?_ (hat k hk)
      have : k = 0 ∨ k = 1 ∨ k = 2 ∨ k = 3 := by omega
      rcases this with rfl | rfl | rfl | rfl <;> rfl
    · dsimp only
      exact (if_neg hj).trans (h3 j hj)
theorem q_codes {p : Int} (hm : ρ 124 (45 + p).toNat ≤ 3) (f0 : Nat → Int) : ∀ (n c : Nat) (a : Nat → Int) (x : G_X) (B : G_B), n ≤ 4 → (∀ k, k < 4 - n → a k = ((c / 5 ^ (3 - n - k) % 5 : Nat) : Int)) → G_Rm f0 x B → G_Rm f0 (k_it (b_findsPlacement_7 ρ p) (5 ^ n) (c * 5 ^ n) x) (G_ext (ρ 124) p n a B)
  | 0, c, a, x, B, _, ha, h => by
    rw [Nat.pow_zero, Nat.mul_one]
    exact q_code hm f0 c (fun k hk => by rw [ha k (by omega)]) h
  | n + 1, c, a, x, B, hn, ha, h => by
    rw [Nat.pow_succ, k_it_blocks]
    show G_Rm f0 _ (k_fold 5 (fun d B => G_ext (ρ 124) p n (k_u1 a (3 - n) (d : Int)) B) B)
    have hf : ∀ m : Nat, m ≤ 5 → G_Rm f0 (k_fold m (fun d y => k_it (b_findsPlacement_7 ρ p) (5 ^ n) (c * (5 ^ n * 5) + d * 5 ^ n) y) x) (k_fold m (fun d B => G_ext (ρ 124) p n (k_u1 a (3 - n) (d : Int)) B) B) := fun m => by
      induction m with
      | zero => exact fun _ => h
      | succ m ih =>
        intro hm5
        show G_Rm f0 (k_it (b_findsPlacement_7 ρ p) (5 ^ n) (c * (5 ^ n * 5) + m * 5 ^ n) _) (G_ext (ρ 124) p n (k_u1 a (3 - n) (m : Int)) _)
        rw [show c * (5 ^ n * 5) + m * 5 ^ n = (5 * c + m) * 5 ^ n by rw [Nat.add_mul, Nat.mul_comm (5 ^ n) 5, ← Nat.mul_assoc, Nat.mul_comm c 5]]
        refine q_codes hm f0 n (5 * c + m) (k_u1 a (3 - n) (m : Int)) _ _ (by omega) (fun k hk => ?_) (ih (by omega))
        by_cases e : k = 3 - n
        · subst e
          rw [show k_u1 a (3 - n) (m : Int) (3 - n) = (m : Int) from if_pos rfl, Nat.sub_self, Nat.pow_zero, Nat.div_one]
          omega
        · rw [show k_u1 a (3 - n) (m : Int) k = a k from if_neg e, ha k (by omega)]
          have e2 : 3 - n - k = (3 - (n + 1) - k) + 1 := by omega
          rw [e2, Nat.pow_succ, Nat.mul_comm (5 ^ (3 - (n + 1) - k)) 5, ← Nat.div_div_eq_div_mul, show (5 * c + m) / 5 = c by omega]
    exact hf 5 (Nat.le_refl 5)
/-- the best placement is the same -/
theorem q_best (hR : k_P1 (ρ 124) σ) (hI : k_Ty σ) {p : Int} (hp : 0 ≤ p ∧ p < σ 1 2) : 0 ≤ (f_best (u_roomy σ p)).2.2 ∧ (m_findsPlacement ρ p) 123 19 = (f_best (u_roomy σ p)).2.2 ∧ ∃ a : Nat → Int, (∀ k, k < 4 → (f_best (u_roomy σ p)).2.1 k = g_dg (a k) ∧ (0 ≤ a k ∧ a k ≤ 4) ∧ (m_findsPlacement ρ p) 132 k = a k) ∧ m_worth (ρ 124) a p = (f_best (u_roomy σ p)).2.2 := by
  have hm := (hR.2.2.1.1 p hp.1 hp.2).1
  have h5 := hI.2.2.2.2.2.2.1 p.toNat
  have hw3 : ρ 124 (45 + p).toNat ≤ 3 := by omega
  have hc := q_codes (p := p) hw3 (ρ 123) 4 0 (fun _ => 0) ((k_u1 (ρ 123) 19 (-1)), (ρ 131), (ρ 132)) (ρ 132, -1) (Nat.le_refl 4) (fun k hk => absurd hk (by omega)) ⟨show k_u1 (ρ 123) 19 (-1) 19 = -1 from if_pos rfl, fun _ _ => rfl, fun j hj => if_neg hj⟩
  have he := q_ext hR hI hp 4 (fun _ => 0) 0 0 (u_roomy σ p 12, u_roomy σ p 13, -1) (ρ 132, -1) (Nat.le_refl 4) (fun k hk => absurd hk (by omega)) rfl (fun h => by cases h) (fun k hk => absurd hk (by omega)) (Int.le_refl 0) ⟨rfl, Int.le_refl _, fun y => absurd rfl y⟩
  have hg := G_ge (r := ρ 124) p 4 (fun _ => 0) (ρ 132, -1)
  have hlast : m_worth (ρ 124) (G_last 4 (fun _ => 0)) p = 0 := by
    rw [m_worth_a (a' := fun _ => 4) hw3 (fun i hi => ?_)]
    · have hs : ∀ i : Nat, b_worth_7 (ρ 124) (fun _ => 4) p i (0, 0) = .inr (0, 0) := fun i => if_pos rfl
      have e : m_worth (ρ 124) (fun _ => 4) p = k_els (r_worth_7 (ρ 124) (fun _ => 4) p) (k_for (b_worth_7 (ρ 124) (fun _ => 4) p) 4 0 (0, 0)) := rfl
      have e4 : k_for (b_worth_7 (ρ 124) (fun _ => 4) p) 4 0 (0, 0) = .inr (0, 0) := by
        rw [k_for_succ, k_for_succ, k_for_succ, k_for_succ]
        show k_cn2 _ (k_cn2 _ (k_cn2 _ (b_worth_7 (ρ 124) (fun _ => 4) p 0 (0, 0)))) = _
        rw [hs]
        show k_cn2 _ (k_cn2 _ (b_worth_7 (ρ 124) (fun _ => 4) p 1 (0, 0))) = _
        rw [hs]
        show k_cn2 _ (b_worth_7 (ρ 124) (fun _ => 4) p 2 (0, 0)) = _
        rw [hs]
        exact hs 3
      rw [e, e4]
      show r_worth_7 (ρ 124) (fun _ => 4) p (0, 0) = 0
      unfold r_worth_7
      exact if_neg (show ¬ (4 : Int) < 4 by decide)
    · have : i = 0 ∨ i = 1 ∨ i = 2 ∨ i = 3 := by omega
      rcases this with rfl | rfl | rfl | rfl <;> rfl
  rw [hlast] at hg
  have eb : f_best (u_roomy σ p) = g_ext (u_roomy σ p 11) (u_roomy σ p 10 4) 4 0 0 (u_roomy σ p 12, u_roomy σ p 13, -1) := rfl
  rw [Nat.zero_mul] at hc
  have e625 : m_findsPlacement ρ p = r_findsPlacement_7 ρ p (k_it (b_findsPlacement_7 ρ p) (5 ^ 4) 0 ((k_u1 (ρ 123) 19 (-1)), (ρ 131), (ρ 132))) := rfl
  rw [eb, e625]
  generalize k_it (b_findsPlacement_7 ρ p) (5 ^ 4) 0 ((k_u1 (ρ 123) 19 (-1)), (ρ 131), (ρ 132)) = x at hc ⊢
  generalize g_ext (u_roomy σ p 11) (u_roomy σ p 10 4) 4 0 0 (u_roomy σ p 12, u_roomy σ p 13, -1) = S at he ⊢
  generalize G_ext (ρ 124) p 4 (fun _ => 0) (ρ 132, -1) = B at hc he hg
  obtain ⟨⟨s1, s2, s3⟩, -⟩ := he
  obtain ⟨c1, c2, c3⟩ := hc
  obtain ⟨s4, s5⟩ := s3 (by omega)
  refine ⟨by omega, ?_, B.1, fun k hk => ⟨(s4 k hk).1, (s4 k hk).2, ?_⟩, s5.trans s1.symm⟩
  · show k_up (k_up (k_up ρ 123 x.1) 131 x.2.1) 132 x.2.2 123 19 = _
    rw [k_up_ne (by decide), k_up_ne (by decide), k_up_same, c1, s1]
  · show k_up (k_up (k_up ρ 123 x.1) 131 x.2.1) 132 x.2.2 132 k = _
    rw [k_up_same]
    exact c2 k hk
end K_R19
