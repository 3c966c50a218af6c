/-! ===== PLACEMENTS: one search that both are ===== -/
section K_R18
variable {σ ρ τ : Nat → Nat → Int} {r : Nat → Int}
abbrev G_B : Type := (Nat → Int) × Int
def G_leaf (r : Nat → Int) (p : Int) (a : Nat → Int) (B : G_B) : G_B := if m_worth r a p ≤ B.2 then B else (a, m_worth r a p)
def G_ext (r : Nat → Int) (p : Int) : Nat → (Nat → Int) → G_B → G_B
  | 0, a, B => G_leaf r p a B
  | n + 1, a, B => k_fold 5 (fun d B => G_ext r p n (k_u1 a (3 - n) (d : Int)) B) B
theorem G_mono (p : Int) : ∀ (n : Nat) (a : Nat → Int) (B : G_B), B.2 ≤ (G_ext r p n a B).2
  | 0, a, B => by
    show B.2 ≤ (G_leaf r p a B).2
    unfold G_leaf
    split
    · exact Int.le_refl _
    · show B.2 ≤ m_worth r a p
      omega
  | n + 1, a, B => by
    have h : ∀ m : Nat, B.2 ≤ (k_fold m (fun d B => G_ext r p n (k_u1 a (3 - n) (d : Int)) B) B).2 := fun m => by
      induction m with
      | zero => exact Int.le_refl _
      | succ m ih => exact Int.le_trans ih (G_mono p n _ _)
    exact h 5
def G_last : Nat → (Nat → Int) → Nat → Int
  | 0, a => a
  | n + 1, a => G_last n (k_u1 a (3 - n) 4)
theorem G_ge (p : Int) : ∀ (n : Nat) (a : Nat → Int) (B : G_B), m_worth r (G_last n a) p ≤ (G_ext r p n a B).2
  | 0, a, B => by
    show m_worth r a p ≤ (G_leaf r p a B).2
    unfold G_leaf
    split
    · assumption
    · exact Int.le_refl _
  | n + 1, a, B => G_ge p n (k_u1 a (3 - n) 4) (k_fold 4 (fun d B => G_ext r p n (k_u1 a (3 - n) (d : Int)) B) B)
theorem G_no (p : Int) : ∀ (n : Nat) (a : Nat → Int) (B : G_B), n ≤ 4 → (∀ k, k < 4 - n → 0 ≤ a k ∧ a k ≤ 4) → (∀ a' : Nat → Int, (∀ k, k < 4 - n → a' k = a k) → (∀ k, k < 4 → 0 ≤ a' k ∧ a' k ≤ 4) → m_worth r a' p = -1) → -1 ≤ B.2 → G_ext r p n a B = B
  | 0, a, B, _, hr, h, hB => by
    show G_leaf r p a B = B
    unfold G_leaf
    rw [h a (fun _ _ => rfl) hr, if_pos hB]
  | n + 1, a, B, hn, hr, h, hB => by
    have hf : ∀ m : Nat, m ≤ 5 → k_fold m (fun d B => G_ext r p n (k_u1 a (3 - n) (d : Int)) B) B = B := fun m => by
      induction m with
      | zero => exact fun _ => rfl
      | succ m ih =>
        intro hm
        show G_ext r p n (k_u1 a (3 - n) (m : Int)) (k_fold m _ B) = B
        rw [ih (by omega)]
        refine G_no p n _ B (by omega) (fun k hk => ?_) (fun a' ha hr' => h a' (fun k hk => (ha k (by omega)).trans (if_neg (by omega))) hr') hB
        unfold k_u1
        split
        · omega
        · exact hr k (by omega)
    exact hf 5 (Nat.le_refl 5)
def g_dg (x : Int) : Int := if x = 4 then -1 else x
def G_Rel (r : Nat → Int) (p : Int) (S : g_S) (B : G_B) : Prop := S.2.2 = B.2 ∧ -1 ≤ B.2 ∧ (B.2 ≠ -1 → (∀ k, k < 4 → S.2.1 k = g_dg (B.1 k) ∧ 0 ≤ B.1 k ∧ B.1 k ≤ 4) ∧ m_worth r B.1 p = B.2)
theorem q_full (hR : k_P1 r σ) (hI : k_Ty σ) {p : Int} (hp : 0 ≤ p ∧ p < σ 1 2) {a : Nat → Int} : ∀ n : Nat, n ≤ 3 → (∀ k, k < n → 0 ≤ a k ∧ a k ≤ 4) → ∀ t sc : Int, k_for (b_worth_7 r a p) n 0 (0, 0) = .inr (t, sc) → sc ≤ f_fullN σ p n ∧ (sc < f_fullN σ p n ↔ ∃ k : Nat, k < n ∧ (k : Int) < r (45 + p).toNat ∧ a k = 4)
  | 0, _, _, t, sc, h => by
    have : ((0 : Int), (0 : Int)) = (t, sc) := Sum.inr.inj h
    have e : sc = 0 := (congrArg Prod.snd this).symm
    subst e
    exact ⟨Int.le_refl 0, fun y => absurd y (Int.lt_irrefl 0), fun ⟨k, h, _⟩ => absurd h (Nat.not_lt_zero k)⟩
  | n + 1, hn, hr, t, sc, h => by
    rw [k_for_succ, Nat.zero_add] at h
    cases hx : k_for (b_worth_7 r a p) n 0 (0, 0) with
    | inl v =>
      rw [hx] at h
      cases h
    | inr x =>
      obtain ⟨t', sc'⟩ := x
      rw [hx] at h
      have h : b_worth_7 r a p n (t', sc') = .inr (t, sc) := h
      obtain ⟨i1, i2⟩ := q_full hR hI hp n (by omega) (fun k hk => hr k (by omega)) t' sc' hx
      rw [q_worth_step hR hI hp (by omega) (hr n (by omega))] at h
      have ef : f_fullN σ p (n + 1) = f_fullN σ p n + (if (n : Int) < σ 5 p.toNat then z_one (3 - (n : Int)) else 0) := rfl
      rw [ef]
      have hm := (hR.2.2.1.1 p hp.1 hp.2).1
      have hz : 0 < z_one (3 - (n : Int)) := by
        have : n = 0 ∨ n = 1 ∨ n = 2 := by omega
        rcases this with rfl | rfl | rfl <;> decide
      have hbig : ∀ P : Prop, (∃ k : Nat, k < n + 1 ∧ (k : Int) < r (45 + p).toNat ∧ a k = 4) ↔ (∃ k : Nat, k < n ∧ (k : Int) < r (45 + p).toNat ∧ a k = 4) ∨ ((n : Int) < r (45 + p).toNat ∧ a n = 4) := fun _ => by
        constructor
        · rintro ⟨k, k1, k2⟩
          by_cases e : k = n
          · exact Or.inr (e ▸ k2)
          · exact Or.inl ⟨k, by omega, k2⟩
        · rintro (⟨k, k1, k2⟩ | k2)
          · exact ⟨k, by omega, k2⟩
          · exact ⟨n, by omega, k2⟩
      rw [hbig True, ← i2, ← hm]
      by_cases q : a n = 4
      · rw [if_pos q] at h
        have e : sc' = sc := congrArg Prod.snd (Sum.inr.inj h)
        subst e
        by_cases w : (n : Int) < r (45 + p).toNat
        · rw [if_pos w]
          exact ⟨by omega, fun _ => Or.inr ⟨w, q⟩, fun _ => by omega⟩
        · rw [if_neg w]
          exact ⟨by omega, fun y => Or.inl (by omega), fun y => y.elim (fun z => by omega) (fun z => absurd z.1 w)⟩
      · rw [if_neg q] at h
        by_cases hb : z_bit (z_diff (u_roomy σ p 11 n) t') (a n) = true
        · rw [if_pos hb] at h
          have e : sc' + z_one (3 - (n : Int)) = sc := congrArg Prod.snd (Sum.inr.inj h)
          subst e
          rw [z_bit_diff, Bool.and_eq_true] at hb
          have hw := ((q_use hR hI hp (i := n) (by omega) (b := a n) (by have := hr n (by omega); omega)).mp hb.1).1
          have hw : (n : Int) < r (45 + p).toNat := hw.resolve_left (by omega)
          rw [if_pos hw]
          exact ⟨by omega, fun y => Or.inl (by omega), fun y => y.elim (fun z => by omega) (fun z => absurd z.2 q)⟩
        · rw [if_neg hb] at h
          cases h
theorem q_ext (hR : k_P1 r σ) (hI : k_Ty σ) {p : Int} (hp : 0 ≤ p ∧ p < σ 1 2) : ∀ (n : Nat) (a : Nat → Int) (t sc : Int) (S : g_S) (B : G_B), n ≤ 4 → (∀ k, k < 4 - n → 0 ≤ a k ∧ a k ≤ 4) → k_for (b_worth_7 r a p) (4 - n) 0 (0, 0) = .inr (t, sc) → (n = 0 → a 3 < 4 → m_lacksWish r a p = true) → (∀ k, k < 4 - n → S.1 k = g_dg (a k)) → 0 ≤ sc → G_Rel r p S B → G_Rel r p (g_ext (u_roomy σ p 11) (u_roomy σ p 10 4) n t sc S) (G_ext r p n a B) ∧ ∀ k, k < 4 - n → (g_ext (u_roomy σ p 11) (u_roomy σ p 10 4) n t sc S).1 k = S.1 k
  | 0, a, t, sc, S, B, _, hr, hf, hl, ht, h0, hB => by
    have hw : m_worth r a p = sc := by
      have e : m_worth r a p = k_els (r_worth_7 r a p) (k_for (b_worth_7 r a p) 4 0 (0, 0)) := rfl
      rw [e, show k_for (b_worth_7 r a p) 4 0 (0, 0) = .inr (t, sc) from hf]
      show r_worth_7 r a p (t, sc) = sc
      unfold r_worth_7
      split
      · rename_i h3
        rw [if_pos (hl rfl h3)]
      · rfl
    show G_Rel r p (if S.2.2 < sc then (S.1, S.1, sc) else S) (G_leaf r p a B) ∧ ∀ k, k < 4 → (if S.2.2 < sc then (S.1, S.1, sc) else S).1 k = S.1 k
    unfold G_leaf
    rw [hw, hB.1]
    by_cases q : B.2 < sc
    · rw [if_pos q, if_neg (by omega)]
      refine ⟨⟨rfl, ?_, fun _ => ⟨fun k hk => ⟨ht k hk, hr k hk⟩, hw⟩⟩, fun _ _ => rfl⟩
      show -1 ≤ sc
      omega
    · rw [if_neg q, if_pos (by omega)]
      exact ⟨hB, fun _ _ => rfl⟩
  | n + 1, a, t, sc, S, B, hn, hr, hf, hl, ht, h0, hB => by
    have hn4 : 4 - n = 4 - (n + 1) + 1 := by omega
    have hi : 4 - (n + 1) = 3 - n := by omega
    have hrd : ∀ d : Int, 0 ≤ d → d ≤ 4 → ∀ k, k < 4 - n → 0 ≤ k_u1 a (3 - n) d k ∧ k_u1 a (3 - n) d k ≤ 4 := fun d d0 d4 k hk => by
      unfold k_u1
      split
      · exact ⟨d0, d4⟩
      · exact hr k (by omega)
    have hpre : ∀ (a' : Nat → Int), (∀ k, k < 3 - n → a' k = a k) → k_for (b_worth_7 r a' p) (3 - n) 0 (0, 0) = .inr (t, sc) := fun a' h => by
      rw [← hi] at h ⊢
      rw [← hf]
      exact k_for_cong _ _ _ fun j x _ hj => b_worth_a (h j (by omega)) x
    have hstep : ∀ (a' : Nat → Int), (∀ k, k < 3 - n → a' k = a k) → (0 ≤ a' (3 - n) ∧ a' (3 - n) ≤ 4) → k_for (b_worth_7 r a' p) (4 - n) 0 (0, 0) = if a' (3 - n) = 4 then .inr (t, sc) else if z_bit (z_diff (u_roomy σ p 11 (3 - n)) t) (a' (3 - n)) = true then .inr (z_or t (z_one (a' (3 - n))), sc + z_one (n : Int)) else .inl (-1) := fun a' h h' => by
      rw [show 4 - n = (3 - n) + 1 by omega, k_for_succ, hpre a' h, Nat.zero_add]
      show b_worth_7 r a' p (3 - n) (t, sc) = _
      rw [q_worth_step hR hI hp (by omega) h', show 3 - ((3 - n : Nat) : Int) = (n : Int) by omega]
    -- an assignment that cannot be
    have hbad : ∀ (b : Nat), b < 4 → ¬ z_bit (g_blk (u_roomy σ p 11) (u_roomy σ p 10 4) n t sc) (b : Int) = true → ∀ B' : G_B, -1 ≤ B'.2 → G_ext r p n (k_u1 a (3 - n) (b : Int)) B' = B' := fun b hb hz B' hB' => by
      refine G_no p n _ B' (by omega) (hrd b (by omega) (by omega)) (fun a' ha' hr' => ?_) hB'
      have e3 : a' (3 - n) = (b : Int) := (ha' (3 - n) (by omega)).trans (if_pos rfl)
      have hs := hstep a' (fun k hk => (ha' k (by omega)).trans (if_neg (by omega))) (hr' (3 - n) (by omega))
      rw [e3, if_neg (by omega)] at hs
      unfold g_blk at hz
      by_cases q : z_bit (z_diff (u_roomy σ p 11 (3 - n)) t) (b : Int) = true
      · rw [if_pos q] at hs
        by_cases w : 0 < n ∨ sc < u_roomy σ p 10 4
        · rw [if_pos w] at hz
          exact absurd q hz
        · have hn0 : n = 0 := by omega
          subst hn0
          have hlk : ¬ m_lacksWish r a' p = true := fun y => by
            obtain ⟨k, k1, k2⟩ := (z_lacks r a' p).mp y
            have hm := (hR.2.2.1.1 p hp.1 hp.2).1
            have h5 := hI.2.2.2.2.2.2.1 p.toNat
            have hfu := (q_full hR hI hp (a := a') 3 (by omega) (fun k hk => hr' k (by omega)) t sc (hpre a' (fun k hk => (ha' k (by omega)).trans (if_neg (by omega))))).2.mpr ⟨k, by omega, by omega, k2⟩
            exact w (Or.inr hfu)
          have e : m_worth r a' p = k_els (r_worth_7 r a' p) (k_for (b_worth_7 r a' p) 4 0 (0, 0)) := rfl
          rw [e, hs]
          show r_worth_7 r a' p _ = -1
          unfold r_worth_7
          rw [if_pos (show a' 3 < 4 by have : a' 3 = (b : Int) := e3; omega), if_neg hlk]
      · rw [if_neg q] at hs
        have hv : k_for (b_worth_7 r a' p) 4 0 (0, 0) = .inl (-1) := by
          have hall : ∀ m : Nat, k_for (b_worth_7 r a' p) (4 - n + m) 0 (0, 0) = .inl (-1) := fun m => by
            induction m with
            | zero => exact hs
            | succ m ih =>
              rw [show 4 - n + (m + 1) = (4 - n + m) + 1 by omega, k_for_succ, ih]
              rfl
          have := hall n
          rwa [show 4 - n + n = 4 by omega] at this
        have e : m_worth r a' p = k_els (r_worth_7 r a' p) (k_for (b_worth_7 r a' p) 4 0 (0, 0)) := rfl
        rw [e, hv]
        rfl
    have hfold : ∀ m : Nat, m ≤ 4 → G_Rel r p (k_fold m (fun b T => if z_bit (g_blk (u_roomy σ p 11) (u_roomy σ p 10 4) n t sc) (b : Int) = true then g_ext (u_roomy σ p 11) (u_roomy σ p 10 4) n (z_or t (z_one (b : Int))) (sc + z_one (n : Int)) (k_u1 T.1 (3 - n) (b : Int), T.2) else T) S) (k_fold m (fun d B => G_ext r p n (k_u1 a (3 - n) (d : Int)) B) B) ∧ ∀ k, k < 3 - n → (k_fold m (fun b T => if z_bit (g_blk (u_roomy σ p 11) (u_roomy σ p 10 4) n t sc) (b : Int) = true then g_ext (u_roomy σ p 11) (u_roomy σ p 10 4) n (z_or t (z_one (b : Int))) (sc + z_one (n : Int)) (k_u1 T.1 (3 - n) (b : Int), T.2) else T) S).1 k = S.1 k := fun m => by
      induction m with
      | zero => exact fun _ => ⟨hB, fun _ _ => rfl⟩
      | succ m ih =>
        intro hm
        obtain ⟨i1, i2⟩ := ih (by omega)
        have eS : k_fold (m + 1) (fun b T => if z_bit (g_blk (u_roomy σ p 11) (u_roomy σ p 10 4) n t sc) (b : Int) = true then g_ext (u_roomy σ p 11) (u_roomy σ p 10 4) n (z_or t (z_one (b : Int))) (sc + z_one (n : Int)) (k_u1 T.1 (3 - n) (b : Int), T.2) else T) S = (fun T : g_S => if z_bit (g_blk (u_roomy σ p 11) (u_roomy σ p 10 4) n t sc) (m : Int) = true then g_ext (u_roomy σ p 11) (u_roomy σ p 10 4) n (z_or t (z_one (m : Int))) (sc + z_one (n : Int)) (k_u1 T.1 (3 - n) (m : Int), T.2) else T) (k_fold m (fun b T => if z_bit (g_blk (u_roomy σ p 11) (u_roomy σ p 10 4) n t sc) (b : Int) = true then g_ext (u_roomy σ p 11) (u_roomy σ p 10 4) n (z_or t (z_one (b : Int))) (sc + z_one (n : Int)) (k_u1 T.1 (3 - n) (b : Int), T.2) else T) S) := rfl
        have eB : k_fold (m + 1) (fun d B => G_ext r p n (k_u1 a (3 - n) (d : Int)) B) B = G_ext r p n (k_u1 a (3 - n) (m : Int)) (k_fold m (fun d B => G_ext r p n (k_u1 a (3 - n) (d : Int)) B) B) := rfl
        rw [eS, eB]
        generalize k_fold m (fun b T => if z_bit (g_blk (u_roomy σ p 11) (u_roomy σ p 10 4) n t sc) (b : Int) = true then g_ext (u_roomy σ p 11) (u_roomy σ p 10 4) n (z_or t (z_one (b : Int))) (sc + z_one (n : Int)) (k_u1 T.1 (3 - n) (b : Int), T.2) else T) S = T at i1 i2 ⊢
        generalize k_fold m (fun d B => G_ext r p n (k_u1 a (3 - n) (d : Int)) B) B = B' at i1 ⊢
        dsimp only
        by_cases hz : z_bit (g_blk (u_roomy σ p 11) (u_roomy σ p 10 4) n t sc) (m : Int) = true
        · rw [if_pos hz]
          have e3 : k_u1 a (3 - n) (m : Int) (3 - n) = (m : Int) := if_pos rfl
          have hs := hstep (k_u1 a (3 - n) (m : Int)) (fun k hk => if_neg (by omega)) (by rw [e3]; omega)
          rw [e3, if_neg (by omega)] at hs
          have hz2 : z_bit (z_diff (u_roomy σ p 11 (3 - n)) t) (m : Int) = true ∧ (0 < n ∨ sc < u_roomy σ p 10 4) := by
            unfold g_blk at hz
            split at hz
            · exact ⟨hz, by assumption⟩
            · rw [z_bit_0] at hz
              cases hz
          rw [if_pos hz2.1] at hs
          have hone : 0 ≤ z_one (n : Int) := Int.natCast_nonneg _
          have hx := q_ext hR hI hp n (k_u1 a (3 - n) (m : Int)) (z_or t (z_one (m : Int))) (sc + z_one (n : Int)) (k_u1 T.1 (3 - n) (m : Int), T.2) B' (by omega) (hrd m (by omega) (by omega)) hs (fun hn0 _ => by
            subst hn0
            have hfu := (q_full hR hI hp (a := k_u1 a 3 (m : Int)) 3 (by omega) (fun k hk => hrd m (by omega) (by omega) k (by omega)) t sc (hpre _ (fun k hk => if_neg (by omega)))).2.mp (hz2.2.resolve_left (by omega))
            obtain ⟨k, k1, k2, k3⟩ := hfu
            exact (z_lacks r _ p).mpr ⟨k, by omega, k3⟩) (fun k hk => by
            show k_u1 T.1 (3 - n) (m : Int) k = g_dg (k_u1 a (3 - n) (m : Int) k)
            unfold k_u1
            split
            · unfold g_dg
              rw [if_neg (by omega)]
            · rw [i2 k (by omega)]
              exact ht k (by omega)) (by omega) i1
          refine ⟨hx.1, fun k hk => (hx.2 k (by omega)).trans ?_⟩
          exact (if_neg (by omega)).trans (i2 k hk)
        · rw [if_neg hz, hbad m (by omega) hz B' i1.2.1]
          exact ⟨i1, i2⟩
    obtain ⟨f1, f2⟩ := hfold 4 (Nat.le_refl 4)
    have eS : g_ext (u_roomy σ p 11) (u_roomy σ p 10 4) (n + 1) t sc S = (fun T : g_S => g_ext (u_roomy σ p 11) (u_roomy σ p 10 4) n t sc (k_u1 T.1 (3 - n) (-1), T.2)) (k_fold 4 (fun b T => if z_bit (g_blk (u_roomy σ p 11) (u_roomy σ p 10 4) n t sc) (b : Int) = true then g_ext (u_roomy σ p 11) (u_roomy σ p 10 4) n (z_or t (z_one (b : Int))) (sc + z_one (n : Int)) (k_u1 T.1 (3 - n) (b : Int), T.2) else T) S) := rfl
    have eB : G_ext r p (n + 1) a B = G_ext r p n (k_u1 a (3 - n) 4) (k_fold 4 (fun d B => G_ext r p n (k_u1 a (3 - n) (d : Int)) B) B) := rfl
    rw [eS, eB]
    generalize k_fold 4 (fun b T => if z_bit (g_blk (u_roomy σ p 11) (u_roomy σ p 10 4) n t sc) (b : Int) = true then g_ext (u_roomy σ p 11) (u_roomy σ p 10 4) n (z_or t (z_one (b : Int))) (sc + z_one (n : Int)) (k_u1 T.1 (3 - n) (b : Int), T.2) else T) S = T at f1 f2 ⊢
    generalize k_fold 4 (fun d B => G_ext r p n (k_u1 a (3 - n) (d : Int)) B) B = B' at f1 ⊢
    dsimp only
    have e3 : k_u1 a (3 - n) 4 (3 - n) = 4 := if_pos rfl
    have hs := hstep (k_u1 a (3 - n) 4) (fun k hk => if_neg (by omega)) (by rw [e3]; omega)
    rw [if_pos e3] at hs
    have hx := q_ext hR hI hp n (k_u1 a (3 - n) 4) t sc (k_u1 T.1 (3 - n) (-1), T.2) B' (by omega) (hrd 4 (by omega) (by omega)) hs (fun hn0 h4 => by
      subst hn0
      have : k_u1 a 3 4 3 = 4 := e3
      have h4 : k_u1 a 3 4 3 < 4 := h4
      omega) (fun k hk => by
      show k_u1 T.1 (3 - n) (-1) k = g_dg (k_u1 a (3 - n) 4 k)
      unfold k_u1
      split
      · rfl
      · rw [f2 k (by omega)]
        exact ht k (by omega)) h0 f1
    refine ⟨hx.1, fun k hk => (hx.2 k (by omega)).trans ?_⟩
    exact (if_neg (by omega)).trans (f2 k (by omega))
end K_R18
