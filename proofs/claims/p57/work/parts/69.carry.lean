/-! ===== JOINING: the moves of a chain are made alike ===== -/
section K_R13
variable {σ ρ τ : Nat → Nat → Int} {r : Nat → Int}
theorem z_foldu (f g : Nat → Int) (j : Nat) : ∀ n : Nat, k_fold n (fun k h => k_u1 h k (f k)) g j = if j < n then f j else g j
  | 0 => (if_neg (Nat.not_lt_zero j)).symm
  | n + 1 => by
    show (if j = n then f n else k_fold n (fun k h => k_u1 h k (f k)) g j) = _
    by_cases e : j = n
    · subst e
      rw [if_pos rfl, if_pos (by omega)]
    · rw [if_neg e, z_foldu f g j n]
      by_cases q : j < n
      · rw [if_pos q, if_pos (by omega)]
      · rw [if_neg q, if_neg (by omega)]
theorem k_P1_r {r' : Nat → Int} (h : k_P1 r σ) (hI : k_Ty σ) (hM : k_Mo r') (ha : k_al 0 153 r' r) : k_P1 r' σ :=
  have sub : ∀ lo hi, hi ≤ 153 → k_al lo hi r' r := fun lo hi h2 j h3 h4 => ha j (by omega) (by omega)
  ⟨hM, k_PRo_r h.2.1 hI.1.2 (sub 0 3 (by decide)) (sub 10 45 (by decide)), k_PRw_r h.2.2.1 hI.2.2.1.2 (fun j => (hI.2.2.2.2.2.2.1 j).2) (sub 45 105 (by decide)), k_PRt_r h.2.2.2.1 hI.2.2.1.2 (sub 105 153 (by decide)), k_PRc_r h.2.2.2.2 hI.2.2.2.2.2.2.2.2.2.1.2 (sub 3 10 (by decide))⟩
/-- one move: a pupil goes from one block to another -/
def g_step (M P : Nat → Int) (s : Int) (k : Nat) (x : Nat → Int) : Nat → Int := k_u1 (k_u1 x (105 + 4 * M k + P k).toNat (-1)) (105 + 4 * M k + P (k + 1)).toNat s
def g_val (r : Nat → Int) (M P : Nat → Int) (s : Int) (k : Nat) (b : Int) : Int := if b = P (k + 1) then s else if b = P k then -1 else r (105 + 4 * M k + b).toNat
variable {M P : Nat → Int} {s : Int} {m : Nat}
theorem g_step_at {k : Nat} (hM : 0 ≤ M k) (hP : 0 ≤ P k ∧ P k < 4) (hP1 : 0 ≤ P (k + 1) ∧ P (k + 1) < 4) (x : Nat → Int) {q b : Int} (hq : 0 ≤ q) (hb : 0 ≤ b ∧ b < 4) : g_step M P s k x (105 + 4 * q + b).toNat = if q = M k then (if b = P (k + 1) then s else if b = P k then -1 else x (105 + 4 * q + b).toNat) else x (105 + 4 * q + b).toNat := by
  unfold g_step k_u1
  by_cases e : q = M k
  · subst e
    rw [if_pos rfl]
    by_cases e1 : b = P (k + 1)
    · rw [if_pos (by omega), if_pos e1]
    · rw [if_neg (by omega), if_neg e1]
      by_cases e2 : b = P k
      · rw [if_pos (by omega), if_pos e2]
      · rw [if_neg (by omega), if_neg e2]
  · rw [if_neg e, if_neg (by omega), if_neg (by omega)]
theorem g_step_low {k j : Nat} (hM : 0 ≤ M k) (hP : 0 ≤ P k) (hP1 : 0 ≤ P (k + 1)) (x : Nat → Int) (hj : j < 105) : g_step M P s k x j = x j := (if_neg (by omega)).trans (if_neg (by omega))
/-- a path of moves -/
def k_pth (r : Nat → Int) (M P : Nat → Int) (s : Int) (m : Nat) : Prop := (∀ k, k ≤ m → 0 ≤ P k ∧ P k < 4) ∧ (∀ k l, k ≤ m → l ≤ m → P k = P l → k = l) ∧ (∀ k, k < m → (0 ≤ M k ∧ M k < r 2) ∧ r (105 + 4 * M k + P k).toNat = s ∧ r (105 + 4 * M k + P (k + 1)).toNat = -1 ∧ m_mover r s (P k) (P (k + 1)) = M k) ∧ (∀ q b c : Int, 0 ≤ q → q < r 2 → 0 ≤ b → b < 4 → 0 ≤ c → c < 4 → r (105 + 4 * q + b).toNat = s → r (105 + 4 * q + c).toNat = s → b = c)
theorem g_M_ne (h : k_pth r M P s m) {k l : Nat} (hk : k < m) (hl : l < m) (e : M k = M l) : k = l := by
  obtain ⟨h1, h2, h3, h4⟩ := h
  obtain ⟨a1, a2, a3, a4⟩ := h3 k hk
  obtain ⟨b1, b2, b3, b4⟩ := h3 l hl
  rw [← e] at b2
  exact h2 k l (by omega) (by omega) (h4 (M k) (P k) (P l) a1.1 a1.2 (h1 k (by omega)).1 (h1 k (by omega)).2 (h1 l (by omega)).1 (h1 l (by omega)).2 a2 b2)
/-- the moves made from the first on -/
theorem g_up (h : k_pth r M P s m) (x0 : Nat → Int) (hx0 : ∀ j, 105 ≤ j → x0 j = r j) : ∀ n : Nat, n ≤ m → (∀ k, k < n → ∀ b : Int, 0 ≤ b → b < 4 → k_fold n (g_step M P s) x0 (105 + 4 * M k + b).toNat = g_val r M P s k b) ∧ (∀ q b : Int, 0 ≤ q → 0 ≤ b → b < 4 → (∀ k, k < n → q ≠ M k) → k_fold n (g_step M P s) x0 (105 + 4 * q + b).toNat = r (105 + 4 * q + b).toNat) ∧ ∀ j, j < 105 → k_fold n (g_step M P s) x0 j = x0 j
  | 0, _ => ⟨fun k hk => absurd hk (Nat.not_lt_zero k), fun q b hq hb hb4 _ => hx0 _ (by omega), fun _ _ => rfl⟩
  | n + 1, hn => by
    obtain ⟨i1, i2, i3⟩ := g_up h x0 hx0 n (by omega)
    have hh := h
    obtain ⟨h1, h2, h3, h4⟩ := h
    have hMn := (h3 n (by omega)).1
    have hs : k_fold (n + 1) (g_step M P s) x0 = g_step M P s n (k_fold n (g_step M P s) x0) := rfl
    rw [hs]
    generalize k_fold n (g_step M P s) x0 = x at i1 i2 i3 ⊢
    refine ⟨fun k hk b hb hb4 => ?_, fun q b hq hb hb4 hne => ?_, fun j hj => (g_step_low hMn.1 (h1 n (by omega)).1 (h1 (n + 1) (by omega)).1 x hj).trans (i3 j hj)⟩
    · rw [g_step_at hMn.1 (h1 n (by omega)) (h1 (n + 1) (by omega)) x (h3 k (by omega)).1.1 ⟨hb, hb4⟩]
      by_cases e : k = n
      · subst e
        rw [if_pos rfl, i2 (M k) b hMn.1 hb hb4 fun l hl y => by have := g_M_ne hh (by omega) (by omega) y; omega]
        rfl
      · rw [if_neg fun y => e (g_M_ne hh (by omega) (by omega) y)]
        exact i1 k (by omega) b hb hb4
    · rw [g_step_at hMn.1 (h1 n (by omega)) (h1 (n + 1) (by omega)) x hq ⟨hb, hb4⟩, if_neg (hne n (by omega))]
      exact i2 q b hq hb hb4 fun k hk => hne k (by omega)
/-- the moves made from the last on, with the model's notes -/
def g_down (s : Int) (y : Nat → Int) (m : Nat) (i : Nat) (x : Nat → Int) : Nat → Int := (k_u1 (k_u1 (k_u1 (k_u1 x ((105 + (4 * (m_mover x s (y ((m : Int) - 1 - (i : Int)).toNat) (y (((m : Int) - 1 - (i : Int)) + 1).toNat)))) + (y ((m : Int) - 1 - (i : Int)).toNat)).toNat (-1)) ((105 + (4 * (m_mover x s (y ((m : Int) - 1 - (i : Int)).toNat) (y (((m : Int) - 1 - (i : Int)) + 1).toNat)))) + (y (((m : Int) - 1 - (i : Int)) + 1).toNat)).toNat (s)) (4 + ((m : Int) - 1 - (i : Int))).toNat (m_mover x s (y ((m : Int) - 1 - (i : Int)).toNat) (y (((m : Int) - 1 - (i : Int)) + 1).toNat))) (7 + ((m : Int) - 1 - (i : Int))).toNat (y (((m : Int) - 1 - (i : Int)) + 1).toNat))
theorem g_dn {y : Nat → Int} (h : k_pth r M P s m) (hMo : k_Mo r) (hm : m ≤ 3) (hs : 0 ≤ s ∧ s < 7) (hy : ∀ k, k ≤ m → y k = P k) : ∀ n : Nat, n ≤ m → (∀ k, m - n ≤ k → k < m → ∀ b : Int, 0 ≤ b → b < 4 → k_it (g_down s y m) n 0 r (105 + 4 * M k + b).toNat = g_val r M P s k b) ∧ (∀ q b : Int, 0 ≤ q → 0 ≤ b → b < 4 → (∀ k, m - n ≤ k → k < m → q ≠ M k) → k_it (g_down s y m) n 0 r (105 + 4 * q + b).toNat = r (105 + 4 * q + b).toNat) ∧ (∀ j, j < 4 ∨ (10 ≤ j ∧ j < 105) → k_it (g_down s y m) n 0 r j = r j) ∧ (∀ k, m - n ≤ k → k < m → k_it (g_down s y m) n 0 r (4 + k) = M k ∧ k_it (g_down s y m) n 0 r (7 + k) = P (k + 1)) ∧ k_Mo (k_it (g_down s y m) n 0 r) ∧ ∀ j, 4 ≤ j → j < 10 → (∀ k, m - n ≤ k → k < m → j ≠ 4 + k ∧ j ≠ 7 + k) → k_it (g_down s y m) n 0 r j = r j
  | 0, _ => ⟨fun k h1 h2 => by omega, fun q b _ _ _ _ => rfl, fun _ _ => rfl, fun k h1 h2 => by omega, hMo, fun _ _ _ _ => rfl⟩
  | n + 1, hn => by
    obtain ⟨i1, i2, i3, i4, i5, i6⟩ := g_dn h hMo hm hs hy n (by omega)
    have hh := h
    obtain ⟨h1, h2, h3, h4⟩ := h
    rw [k_it_succ, Nat.zero_add]
    generalize k_it (g_down s y m) n 0 r = x at i1 i2 i3 i4 i5 i6 ⊢
    obtain ⟨k, rfl⟩ : ∃ k, m = n + k + 1 := ⟨m - n - 1, by omega⟩
    obtain ⟨a1, a2, a3, a4⟩ := h3 k (by omega)
    have p0 := h1 k (by omega)
    have p1 := h1 (k + 1) (by omega)
    have hP := hMo.2.2.1
    have hmv : m_mover x s (P k) (P (k + 1)) = M k := by
      rw [← a4, z_mover, z_mover, i3 2 (by omega)]
      refine z_first_cong _ fun q hq => ?_
      rw [decide_eq_decide]
      by_cases w : ∃ l, k < l ∧ l < n + k + 1 ∧ (q : Int) = M l
      · obtain ⟨l, l1, l2, l3⟩ := w
        obtain ⟨b1, b2, b3, b4⟩ := h3 l l2
        have hv := i1 l (by omega) l2 (P k) p0.1 p0.2
        have e1 : P k ≠ P (l + 1) := fun z => by have := h2 k (l + 1) (by omega) (by omega) z; omega
        have e2 : P k ≠ P l := fun z => by have := h2 k l (by omega) (by omega) z; omega
        unfold g_val at hv
        rw [if_neg e1, if_neg e2] at hv
        have hns : r (105 + 4 * M l + P k).toNat ≠ s := fun z => e2 (h4 (M l) (P k) (P l) b1.1 b1.2 p0.1 p0.2 (h1 l (by omega)).1 (h1 l (by omega)).2 z b2)
        rw [l3, hv]
        exact ⟨fun z => absurd z.1 hns, fun z => absurd z.1 hns⟩
      · have hne : ∀ l, n + k + 1 - n ≤ l → l < n + k + 1 → (q : Int) ≠ M l := fun l l1 l2 z => w ⟨l, by omega, l2, z⟩
        rw [i2 (q : Int) (P k) (by omega) p0.1 p0.2 hne, i2 (q : Int) (P (k + 1)) (by omega) p1.1 p1.2 hne]
    have ek : (((n + k + 1 : Nat) : Int) - 1 - (n : Int)).toNat = k := by omega
    have ek1 : ((((n + k + 1 : Nat) : Int) - 1 - (n : Int)) + 1).toNat = k + 1 := by omega
    have eb : g_down s y (n + k + 1) n x = k_u1 (k_u1 (g_step M P s k x) (4 + k) (M k)) (7 + k) (P (k + 1)) := by
      unfold g_down g_step
      rw [ek, ek1, hy k (by omega), hy (k + 1) (by omega), hmv, show (4 + (((n + k + 1 : Nat) : Int) - 1 - (n : Int))).toNat = 4 + k by omega, show (7 + (((n + k + 1 : Nat) : Int) - 1 - (n : Int))).toNat = 7 + k by omega]
    have eat : ∀ j, 10 ≤ j → g_down s y (n + k + 1) n x j = g_step M P s k x j := fun j hj => by
      rw [eb]
      exact (if_neg (by omega)).trans (if_neg (by omega))
    refine ⟨fun l hl1 hl2 b hb hb4 => ?_, fun q b hq hb hb4 hne => ?_, fun j hj => ?_, fun l hl1 hl2 => ?_, ?_, fun j hj1 hj2 hne => ?_⟩
    · rw [eat _ (by have := (h3 l hl2).1.1; omega), g_step_at a1.1 p0 p1 x (h3 l hl2).1.1 ⟨hb, hb4⟩]
      by_cases e : l = k
      · subst e
        rw [if_pos rfl, i2 (M l) b a1.1 hb hb4 fun l' hl hl' z => by have := g_M_ne hh (by omega) (by omega) z; omega]
        rfl
      · rw [if_neg fun z => e (g_M_ne hh (by omega) (by omega) z)]
        exact i1 l (by omega) hl2 b hb hb4
    · rw [eat _ (by omega), g_step_at a1.1 p0 p1 x hq ⟨hb, hb4⟩, if_neg (hne k (by omega) (by omega))]
      exact i2 q b hq hb hb4 fun l hl1 hl2 => hne l (by omega) hl2
    · rw [eb]
      exact (if_neg (by omega)).trans ((if_neg (by omega)).trans ((g_step_low a1.1 p0.1 p1.1 x (by omega)).trans (i3 j hj)))
    · rw [eb]
      by_cases e : l = k
      · subst e
        exact ⟨(if_neg (by omega)).trans (if_pos rfl), if_pos rfl⟩
      · refine ⟨(if_neg (by omega)).trans ((if_neg (by omega)).trans ((g_step_low a1.1 p0.1 p1.1 x (by omega)).trans (i4 l (by omega) hl2).1)), (if_neg (by omega)).trans ((if_neg (by omega)).trans ((g_step_low a1.1 p0.1 p1.1 x (by omega)).trans (i4 l (by omega) hl2).2))⟩
    · rw [eb]
      unfold g_step
      exact k_Mo_u (k_Mo_u (k_Mo_u (k_Mo_u i5 (by omega)) (by omega)) (by omega)) (by omega)
    · rw [eb]
      have hk := hne k (by omega) (by omega)
      exact (if_neg (by omega)).trans ((if_neg (by omega)).trans ((g_step_low a1.1 p0.1 p1.1 x (by omega)).trans (i6 j hj1 hj2 fun l l1 l2 => hne l (by omega) l2)))
end K_R13
