/-! ===== ARRANGEMENTS: the model's codes ===== -/
section K_R25
variable {σ ρ τ : Nat → Nat → Int} {r : Nat → Int} {cm : Nat → Int}
theorem a_cost_cm {cm' : Nat → Int} (a : Nat → Int) (N : Nat) (h : ∀ s o, s < N → o < s → cm (s * 7 + o) = cm' (s * 7 + o)) : a_cost cm a N = a_cost cm' a N := k_fold_cong N fun s hs x => by
  have : a_row cm a s (a s) = a_row cm' a s (a s) := k_fold_cong s fun o ho y => by rw [h s o hs ho]
  rw [this]
theorem A_le {N B : Nat} (h36 : ∀ a : Nat → Int, a_cost cm a N ≤ 36) (hB : 1 ≤ B) : ∀ (n : Nat) (a : Nat → Int) (T : A_T), (A_ext cm N B n a T).2 ≤ 36
  | 0, a, T => by
    have := h36 a
    show (if a_cost cm a N < T.2 then (a, a_cost cm a N) else T).2 ≤ 36
    split
    · exact this
    · omega
  | n + 1, a, T => by
    obtain ⟨m, rfl⟩ : ∃ m, B = m + 1 := ⟨B - 1, by omega⟩
    exact A_le h36 hB n _ _
abbrev A_X : Type := Int × (Nat → Int) × (Nat → Int)
def A_Rm (N : Nat) (x : A_X) (T : A_T) : Prop := (x.1 = -1 ∧ T.2 = 37) ∨ (x.1 = T.2 ∧ 0 ≤ T.2 ∧ ∀ i, i < N → x.2.2 i = T.1 i)
theorem q_acode {x9 : Nat → Int} {x54 : Int} {N B : Nat} (h0 : ρ 124 0 = (N : Int)) (h1 : ρ 124 1 = (B : Int)) (hN : N ≤ 7) (h36 : ∀ a : Nat → Int, a_cost cm a N ≤ 36) (hcm : ∀ j, 0 ≤ cm j ∧ cm j ≤ 12) (hx9 : ∀ s o, s < N → o < s → x9 (s * 7 + o) = cm (s * 7 + o)) {a : Nat → Int} (c : Nat) {x : A_X} {T : A_T} (ha : ∀ k, k < N → a k = ((c / B ^ (N - 1 - k) % B : Nat) : Int)) (h : A_Rm N x T) : A_Rm N (b_findsArrangement_79 ρ x9 x54 c x) (A_leaf cm N a T) := by
  unfold b_findsArrangement_79
  rw [h0, Int.toNat_natCast]
  have hat : ∀ m : Nat, m ≤ N → (k_it (b_findsArrangement_94 ρ x9 x54 c x) m 0 ((c : Int), x.2.1)).1 = ((c / B ^ m : Nat) : Int) ∧ ∀ k, N - m ≤ k → k < N → (k_it (b_findsArrangement_94 ρ x9 x54 c x) m 0 ((c : Int), x.2.1)).2 k = a k := fun m => by
    induction m with
    | zero => exact fun _ => ⟨by rw [Nat.pow_zero, Nat.div_one]; rfl, fun k h1 h2 => by omega⟩
    | succ m ih =>
      intro hm
      obtain ⟨i1, i2⟩ := ih (by omega)
      rw [k_it_succ, Nat.zero_add]
      generalize k_it (b_findsArrangement_94 ρ x9 x54 c x) m 0 ((c : Int), x.2.1) = y at i1 i2 ⊢
      unfold b_findsArrangement_94
      rw [h0, h1, i1]
      refine ⟨?_, fun k hk1 hk2 => ?_⟩
      · dsimp only
        rw [Nat.pow_succ, ← Nat.div_div_eq_div_mul]
        rfl
      · dsimp only
        by_cases e : k = N - 1 - m
        · rw [show k_u1 y.2 ((N : Int) - 1 - (m : Int)).toNat (((c / B ^ m : Nat) : Int) % (B : Int)) k = ((c / B ^ m : Nat) : Int) % (B : Int) from if_pos (by omega), ha k hk2, e, show N - 1 - (N - 1 - m) = m by omega]
          rfl
        · rw [show k_u1 y.2 ((N : Int) - 1 - (m : Int)).toNat (((c / B ^ m : Nat) : Int) % (B : Int)) k = y.2 k from if_neg (by omega)]
          exact i2 k (by omega) hk2
  have hat := fun k hk => (hat N (Nat.le_refl N)).2 k (by omega) hk
  generalize k_it (b_findsArrangement_94 ρ x9 x54 c x) N 0 ((c : Int), x.2.1) = y at hat ⊢
  unfold r_findsArrangement_94
  rw [h0, Int.toNat_natCast]
  have hcost : k_it (b_findsArrangement_138 ρ x9 x54 c x y) N 0 0 = a_cost cm a N := by
    rw [k_it_fold, ← a_cost_cm a N hx9, a_cost_cong fun o ho => (hat o ho).symm]
    refine k_fold_cong N fun s hs z => ?_
    unfold b_findsArrangement_138 r_findsArrangement_147
    rw [Int.toNat_natCast, k_it_fold]
    have hz : ∀ m : Nat, k_fold m (b_findsArrangement_147 ρ x9 x54 c x y s z) z = z + k_fold m (fun o x => x + if y.2 o = y.2 s then x9 (s * 7 + o) else 0) 0 := fun m => by
      induction m with
      | zero => exact (Int.add_zero z).symm
      | succ m ih =>
        show b_findsArrangement_147 ρ x9 x54 c x y s z m (k_fold m (b_findsArrangement_147 ρ x9 x54 c x y s z) z) = z + (k_fold m (fun o x => x + if y.2 o = y.2 s then x9 (s * 7 + o) else 0) 0 + if y.2 m = y.2 s then x9 (s * 7 + m) else 0)
        rw [ih]
        unfold b_findsArrangement_147
        rw [Int.toNat_natCast, Int.toNat_natCast, show (7 * (s : Int) + (m : Int)).toNat = s * 7 + m by omega]
        by_cases q : y.2 s = y.2 m
        · rw [if_pos q, if_pos q.symm, Int.add_assoc]
        · rw [if_neg q, if_neg fun w => q w.symm, Int.add_assoc]
    exact hz s
  rw [hcost]
  have hr := a_cost_r hcm a N hN
  have h36a := h36 a
  unfold A_leaf r_findsArrangement_138
  rw [h0, Int.toNat_natCast]
  have hrow : ∀ (g : Nat → Int) (F : Nat → (Nat → Int) → Nat → Int), (∀ i z, F i z = k_u1 z ((i : Int)).toNat (y.2 ((i : Int)).toNat)) → ∀ i, i < N → k_it F N 0 g i = a i := fun g F hF i hi => by
    rw [k_it_fold, k_fold_cong (g := fun k h => k_u1 h k (y.2 k)) N fun j _ z => by rw [hF, Int.toNat_natCast], z_foldu, if_pos hi]
    exact hat i hi
  rcases h with ⟨g1, g2⟩ | ⟨g1, g2, g3⟩
  · rw [if_pos g1, if_pos (by omega)]
    refine Or.inr ⟨rfl, hr.1, fun i hi => ?_⟩
    exact hrow _ _ (fun _ _ => rfl) i hi
  · rw [if_neg (by omega), g1]
    by_cases q : a_cost cm a N < T.2
    · rw [if_pos q, if_pos q]
      refine Or.inr ⟨rfl, hr.1, fun i hi => ?_⟩
      exact hrow _ _ (fun _ _ => rfl) i hi
    · rw [if_neg q, if_neg q]
      exact Or.inr ⟨rfl, g2, g3⟩
theorem q_acodes {x9 : Nat → Int} {x54 : Int} {N B : Nat} (h0 : ρ 124 0 = (N : Int)) (h1 : ρ 124 1 = (B : Int)) (hN : N ≤ 7) (h36 : ∀ a : Nat → Int, a_cost cm a N ≤ 36) (hcm : ∀ j, 0 ≤ cm j ∧ cm j ≤ 12) (hB : 1 ≤ B) (hx9 : ∀ s o, s < N → o < s → x9 (s * 7 + o) = cm (s * 7 + o)) : ∀ (n c : Nat) (a : Nat → Int) (x : A_X) (T : A_T), n ≤ N → (∀ k, k < N - n → a k = ((c / B ^ (N - 1 - n - k) % B : Nat) : Int)) → A_Rm N x T → A_Rm N (k_it (b_findsArrangement_79 ρ x9 x54) (B ^ n) (c * B ^ n) x) (A_ext cm N B n a T)
  | 0, c, a, x, T, _, ha, h => by
    rw [Nat.pow_zero, Nat.mul_one]
    exact q_acode h0 h1 hN h36 hcm hx9 c (fun k hk => by rw [ha k (by omega), Nat.sub_zero]) h
  | n + 1, c, a, x, T, hn, ha, h => by
    rw [Nat.pow_succ, k_it_blocks]
    show A_Rm N _ (k_fold B (fun d T => A_ext cm N B n (k_u1 a (N - (n + 1)) (d : Int)) T) T)
    have hf : ∀ m : Nat, m ≤ B → A_Rm N (k_fold m (fun d y => k_it (b_findsArrangement_79 ρ x9 x54) (B ^ n) (c * (B ^ n * B) + d * B ^ n) y) x) (k_fold m (fun d T => A_ext cm N B n (k_u1 a (N - (n + 1)) (d : Int)) T) T) := fun m => by
      induction m with
      | zero => exact fun _ => h
      | succ m ih =>
        intro hm5
        show A_Rm N (k_it (b_findsArrangement_79 ρ x9 x54) (B ^ n) (c * (B ^ n * B) + m * B ^ n) _) (A_ext cm N B n (k_u1 a (N - (n + 1)) (m : Int)) _)
        rw [show c * (B ^ n * B) + m * B ^ n = (B * c + m) * B ^ n by rw [Nat.add_mul, Nat.mul_comm (B ^ n) B, ← Nat.mul_assoc, Nat.mul_comm c B]]
        refine q_acodes h0 h1 hN h36 hcm hB hx9 n (B * c + m) (k_u1 a (N - (n + 1)) (m : Int)) _ _ (by omega) (fun k hk => ?_) (ih (by omega))
        by_cases e : k = N - (n + 1)
        · subst e
          rw [show k_u1 a (N - (n + 1)) (m : Int) (N - (n + 1)) = (m : Int) from if_pos rfl, show N - 1 - n - (N - (n + 1)) = 0 by omega, Nat.pow_zero, Nat.div_one, Nat.mul_add_mod, Nat.mod_eq_of_lt (by omega)]
        · rw [show k_u1 a (N - (n + 1)) (m : Int) k = a k from if_neg e, ha k (by omega)]
          have e2 : N - 1 - n - k = (N - 1 - (n + 1) - k) + 1 := by omega
          rw [e2, Nat.pow_succ, Nat.mul_comm (B ^ (N - 1 - (n + 1) - k)) B, ← Nat.div_div_eq_div_mul, Nat.mul_add_div (by omega), Nat.div_eq_of_lt (show m < B by omega), show c + 0 = c from rfl]
    exact hf B (Nat.le_refl B)
/-- the best arrangement is the same -/
theorem q_arr (hR : k_P1 (ρ 124) σ) (hI : k_Ty σ) (hA : k_Ar σ) : ((f_abest σ).2.2.2 = (m_findsArrangement ρ).1 ∧ 0 ≤ (f_abest σ).2.2.2 ∧ (f_abest σ).2.2.2 ≤ 588) ∧ (f_atry σ).1 = (m_findsArrangement ρ).1 ∧ ∀ s : Nat, s < (σ 1 0).toNat → (m_findsArrangement ρ).2 136 s = (f_abest σ).2.1 s ∧ 0 ≤ (f_abest σ).2.1 s ∧ (f_abest σ).2.1 s < σ 1 1 := by
  obtain ⟨e0, e1, e2⟩ := hR.2.1.1
  have hS := hI.1
  have hB := hI.2.1
  obtain ⟨N, hN⟩ : ∃ N : Nat, σ 1 0 = (N : Int) := ⟨(σ 1 0).toNat, by omega⟩
  obtain ⟨B, hBB⟩ : ∃ B : Nat, σ 1 1 = (B : Int) := ⟨(σ 1 1).toNat, by omega⟩
  have h0 : ρ 124 0 = (N : Int) := e0.trans hN
  have h1 : ρ 124 1 = (B : Int) := e1.trans hBB
  have hcm := g_comm_r hI hA.1
  have h36 : ∀ a : Nat → Int, a_cost (g_comm σ (σ 1 2).toNat) a N ≤ 36 := fun a => a_cost36 hI hA.1 a (by omega)
  have hcs := g_comm_eq σ (σ 1 2).toNat
  have hboth := fun s o : Nat => q_both hR hI (s := (s : Int)) (o := (o : Int)) (by omega) (by omega)
  have e54 : ∀ n : Nat, ∀ x9, k_it (b_findsArrangement_54 ρ x9) n 0 1 = ((B ^ n : Nat) : Int) := fun n x9 => by
    induction n with
    | zero => rfl
    | succ n ih =>
      rw [k_it_succ, ih]
      unfold b_findsArrangement_54
      rw [h1, Nat.pow_succ]
      rfl
  have e9 : ∀ n : Nat, n ≤ N → ∀ s o, s < n → o < s → k_it (b_findsArrangement_9 ρ) n 0 (ρ 134) (s * 7 + o) = m_common (ρ 124) (s : Int) (o : Int) := fun n => by
    induction n with
    | zero => exact fun _ s o h _ => absurd h (Nat.not_lt_zero s)
    | succ n ih =>
      intro hn s o hs ho
      have ih := ih (by omega)
      rw [k_it_succ, Nat.zero_add]
      generalize k_it (b_findsArrangement_9 ρ) n 0 (ρ 134) = z at ih ⊢
      unfold b_findsArrangement_9 r_findsArrangement_16
      rw [Int.toNat_natCast]
      have e16 : ∀ m : Nat, m ≤ n → k_it (b_findsArrangement_16 ρ n z) m 0 z (s * 7 + o) = if s = n ∧ o < m then m_common (ρ 124) (s : Int) (o : Int) else z (s * 7 + o) := fun m => by
        induction m with
        | zero => exact fun _ => (if_neg fun y => Nat.not_lt_zero _ y.2).symm
        | succ m ih2 =>
          intro hm
          rw [k_it_succ, Nat.zero_add]
          unfold b_findsArrangement_16 at ih2 ⊢
          show k_u1 _ _ _ _ = _
          unfold k_u1 at ih2 ⊢
          by_cases q : s = n ∧ o = m
          · obtain ⟨rfl, rfl⟩ := q
            rw [if_pos (by omega), if_pos ⟨rfl, by omega⟩]
          · rw [if_neg (by omega), ih2 (by omega)]
            by_cases w : s = n ∧ o < m
            · rw [if_pos w, if_pos ⟨w.1, by omega⟩]
            · rw [if_neg w, if_neg (by omega)]
      rw [e16 n (Nat.le_refl n)]
      by_cases q : s = n
      · rw [if_pos ⟨q, by omega⟩]
      · rw [if_neg fun y => q y.1]
        exact ih s o (by omega) ho
  have hfb : f_abest σ = g_set (g_comm σ (σ 1 2).toNat) (N : Int) B N 0 (σ 20, σ 21, σ 22, 37) := by
    unfold f_abest
    rw [hN, hBB, Int.toNat_natCast, Int.toNat_natCast]
  have hft : f_atry σ = g_try (g_comm σ (σ 1 2).toNat) (N : Int) B N 0 (σ 20, σ 21, σ 22, σ 18 5) := by
    unfold f_atry
    rw [hN, hBB, Int.toNat_natCast, Int.toNat_natCast]
  have e9' := e9 N (Nat.le_refl N)
  have hmodel : (m_findsArrangement ρ).1 = (k_it (b_findsArrangement_79 ρ (k_it (b_findsArrangement_9 ρ) N 0 (ρ 134)) ((B ^ N : Nat) : Int)) (B ^ N) 0 ((-1, (ρ 135), (ρ 136)))).1 ∧ (m_findsArrangement ρ).2 136 = (k_it (b_findsArrangement_79 ρ (k_it (b_findsArrangement_9 ρ) N 0 (ρ 134)) ((B ^ N : Nat) : Int)) (B ^ N) 0 ((-1, (ρ 135), (ρ 136)))).2.2 := by
    unfold m_findsArrangement r_findsArrangement_9 r_findsArrangement_54
    rw [h0, Int.toNat_natCast, e54 N, Int.toNat_natCast]
    unfold r_findsArrangement_79
    refine ⟨rfl, ?_⟩
    dsimp only
    rw [k_up_same]
  rw [hfb, hft, hmodel.1, hmodel.2]
  generalize k_it (b_findsArrangement_9 ρ) N 0 (ρ 134) = x9 at e9' ⊢
  have hx9 : ∀ s o, s < N → o < s → x9 (s * 7 + o) = g_comm σ (σ 1 2).toNat (s * 7 + o) := fun s o hs ho => by
    rw [e9' s o hs ho, hcs s o (by omega) (by omega)]
    exact (hboth s o).symm
  have hset := q_set (cm := g_comm σ (σ 1 2).toNat) hcm (N := N) (B := B) (by omega) (by omega) N (fun _ => 0) 0 (σ 20, σ 21, σ 22, 37) (ρ 136, 37) (Nat.le_refl N) (fun i hi => absurd hi (by omega)) (fun i hi => absurd hi (by omega)) (by rw [Nat.sub_self]; rfl) ⟨rfl, fun y => absurd rfl y⟩
  have htry := q_try (cm := g_comm σ (σ 1 2).toNat) (N := N) (B := B) (by omega) (by omega) N (fun _ => 0) 0 (σ 20, σ 21, σ 22, σ 18 5) (Nat.le_refl N) (fun i hi => absurd hi (by omega)) (fun i hi => absurd hi (by omega)) (by rw [Nat.sub_self]; rfl)
  have hcod := q_acodes (cm := g_comm σ (σ 1 2).toNat) (x9 := x9) (x54 := ((B ^ N : Nat) : Int)) h0 h1 (by omega) h36 hcm (by omega) hx9 N 0 (fun _ => 0) (-1, ρ 135, ρ 136) (ρ 136, 37) (Nat.le_refl N) (fun k hk => absurd hk (by omega)) (Or.inl ⟨rfl, rfl⟩)
  have hle := A_le (N := N) (B := B) h36 (by omega) N (fun _ => 0) (ρ 136, 37)
  have hmin := A_ext_min (cm := g_comm σ (σ 1 2).toNat) (N := N) (B := B) N (fun _ => 0) (ρ 136, 37) (Int.le_refl _)
  rw [Nat.zero_mul] at hcod
  rw [htry.1]
  generalize k_it (b_findsArrangement_79 ρ x9 ((B ^ N : Nat) : Int)) (B ^ N) 0 (-1, ρ 135, ρ 136) = x at hcod ⊢
  generalize g_set (g_comm σ (σ 1 2).toNat) (N : Int) B N 0 (σ 20, σ 21, σ 22, 37) = S at hset ⊢
  generalize A_min (g_comm σ (σ 1 2).toNat) N B N (fun _ => 0) = mn at hmin ⊢
  generalize A_ext (g_comm σ (σ 1 2).toNat) N B N (fun _ => 0) (ρ 136, 37) = T at hset hcod hle hmin
  obtain ⟨⟨s1, s2⟩, -⟩ := hset
  rcases hcod with ⟨c1, c2⟩ | ⟨c1, c2, c3⟩
  · omega
  · have s2 := s2 (by omega)
    have hz : T.2 = mn := by
      have hmin : T.2 = z_min 37 mn := hmin
      unfold z_min at hmin
      split at hmin <;> omega
    refine ⟨⟨by omega, by omega, by omega⟩, by omega, fun s hs => ?_⟩
    rw [hN, Int.toNat_natCast] at hs
    rw [c3 s hs, (s2 s hs).1, hBB]
    exact ⟨rfl, (s2 s hs).2⟩
end K_R25
