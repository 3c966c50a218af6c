/-! ===== CHAINS: the distances find what the trials find ===== -/
section K_R5
variable {σ ρ : Nat → Nat → Int} {r : Nat → Int} {ro bu di : Nat → Int}
theorem g_next_iff {g : Nat → Int} {a d : Int} : g_next ro bu g a d ≠ -1 ↔ ∃ t : Nat, t < 4 ∧ g t = d ∧ z_diff (ro a.toNat) (bu t) ≠ 0 :=
  ⟨fun h => by
    obtain ⟨t, h1, -, h2, -⟩ := g_next_some h
    exact ⟨t, h1, h2⟩, fun h => g_next_ne h⟩
theorem g_meas_val {g : Nat → Int} {m : Int} (hm : 1 ≤ m) : ∀ n b : Nat, (b < n → ((g b = -1 ∧ ∃ t : Nat, t < 4 ∧ g t = m - 1 ∧ z_diff (ro b) (bu t) ≠ 0) → g_measN ro bu m g n b = m) ∧ (¬ (g b = -1 ∧ ∃ t : Nat, t < 4 ∧ g t = m - 1 ∧ z_diff (ro b) (bu t) ≠ 0) → g_measN ro bu m g n b = g b)) ∧ (¬ b < n → g_measN ro bu m g n b = g b)
  | 0, b => ⟨fun h => absurd h (Nat.not_lt_zero b), fun _ => rfl⟩
  | n + 1, b => by
    have ih := g_meas_val (g := g) hm n
    have e : g_measN ro bu m g (n + 1) = if g_measN ro bu m g n n = -1 ∧ g_next ro bu (g_measN ro bu m g n) (n : Int) (m - 1) ≠ -1 then k_u1 (g_measN ro bu m g n) n m else g_measN ro bu m g n := rfl
    have hn := (ih n).2 (Nat.lt_irrefl n)
    have hval : ∀ t, g_measN ro bu m g n t = m - 1 ↔ g t = m - 1 := by
      intro t
      by_cases q : t < n
      · by_cases w : g t = -1 ∧ ∃ t' : Nat, t' < 4 ∧ g t' = m - 1 ∧ z_diff (ro t) (bu t') ≠ 0
        · rw [((ih t).1 q).1 w, w.1]
          omega
        · rw [((ih t).1 q).2 w]
      · rw [(ih t).2 q]
    have hnx : g_next ro bu (g_measN ro bu m g n) (n : Int) (m - 1) ≠ -1 ↔ ∃ t : Nat, t < 4 ∧ g t = m - 1 ∧ z_diff (ro n) (bu t) ≠ 0 := by
      rw [g_next_iff]
      constructor
      · rintro ⟨t, h1, h2, h3⟩
        exact ⟨t, h1, (hval t).mp h2, h3⟩
      · rintro ⟨t, h1, h2, h3⟩
        exact ⟨t, h1, (hval t).mpr h2, h3⟩
    rw [e, hn]
    by_cases c : g n = -1 ∧ g_next ro bu (g_measN ro bu m g n) (n : Int) (m - 1) ≠ -1
    · rw [if_pos c]
      by_cases q : b = n
      · subst q
        have ev : k_u1 (g_measN ro bu m g b) b m b = m := if_pos rfl
        rw [ev]
        exact ⟨fun _ => ⟨fun _ => rfl, fun z => absurd ⟨c.1, hnx.mp c.2⟩ z⟩, fun z => absurd (Nat.lt_succ_self b) z⟩
      · have ev : k_u1 (g_measN ro bu m g n) n m b = g_measN ro bu m g n b := if_neg q
        rw [ev]
        exact ⟨fun h => (ih b).1 (by omega), fun h => (ih b).2 (by omega)⟩
    · rw [if_neg c]
      by_cases q : b = n
      · subst q
        rw [hn]
        exact ⟨fun _ => ⟨fun z => absurd ⟨z.1, hnx.mpr z.2⟩ c, fun _ => rfl⟩, fun _ => rfl⟩
      · exact ⟨fun h => (ih b).1 (by omega), fun h => (ih b).2 (by omega)⟩
/-- a walk of m moves from a block to one with room -/
def k_Wk (ro bu d0 : Nat → Int) : Nat → Nat → Prop
  | 0, b => d0 b = 0
  | m + 1, b => ∃ t, t < 4 ∧ z_diff (ro b) (bu t) ≠ 0 ∧ k_Wk ro bu d0 m t
theorem g_dist_all {d0 : Nat → Int} (h0 : ∀ b, b < 4 → d0 b = -1 ∨ d0 b = 0) : ∀ n : Nat, (∀ b, b < 4 → g_dist ro bu d0 n b = -1 → ∀ t, t < 4 → z_diff (ro b) (bu t) ≠ 0 → g_dist ro bu d0 n t = -1 ∨ g_dist ro bu d0 n t = n) ∧ ∀ (m b : Nat), m ≤ n → b < 4 → k_Wk ro bu d0 m b → 0 ≤ g_dist ro bu d0 n b ∧ g_dist ro bu d0 n b ≤ m
  | 0 => ⟨fun b _ _ t ht _ => (h0 t ht).imp id id, fun m b hm hb hw => by
    have : m = 0 := by omega
    subst this
    have hw : d0 b = 0 := hw
    show 0 ≤ d0 b ∧ d0 b ≤ 0
    omega⟩
  | n + 1 => by
    obtain ⟨ih1, ih2⟩ := g_dist_all h0 n
    have hI := g_dInv_dist (ro := ro) (bu := bu) h0 n
    have e : g_dist ro bu d0 (n + 1) = g_measN ro bu ((n : Int) + 1) (g_dist ro bu d0 n) 4 := rfl
    have hv := fun b (hb : b < 4) => (g_meas_val (ro := ro) (bu := bu) (g := g_dist ro bu d0 n) (m := (n : Int) + 1) (by omega) 4 b).1 hb
    rw [e]
    generalize g_dist ro bu d0 n = g at ih1 ih2 hI hv ⊢
    generalize g_measN ro bu ((n : Int) + 1) g 4 = g' at hv ⊢
    have hle : ∀ b, b < 4 → g b = -1 ∨ (0 ≤ g b ∧ g b ≤ n) := fun b hb => by
      rcases hI b hb with q | q | q
      · exact Or.inl q
      · exact Or.inr ⟨by omega, by omega⟩
      · exact Or.inr ⟨by omega, q.2.1⟩
    refine ⟨fun b hb hb1 t ht hedge => ?_, fun m b hm hb hw => ?_⟩
    · by_cases c : g b = -1 ∧ ∃ t : Nat, t < 4 ∧ g t = (n : Int) + 1 - 1 ∧ z_diff (ro b) (bu t) ≠ 0
      · have := (hv b hb).1 c
        omega
      · have hbb := (hv b hb).2 c
        rw [hbb] at hb1
        have ht1 := ih1 b hb hb1 t ht hedge
        have hnot : g t ≠ n := fun z => c ⟨hb1, t, ht, by omega, hedge⟩
        have htm : g t = -1 := ht1.resolve_right hnot
        by_cases c2 : g t = -1 ∧ ∃ t' : Nat, t' < 4 ∧ g t' = (n : Int) + 1 - 1 ∧ z_diff (ro t) (bu t') ≠ 0
        · have := (hv t ht).1 c2
          omega
        · have := (hv t ht).2 c2
          omega
    · by_cases c : g b = -1 ∧ ∃ t : Nat, t < 4 ∧ g t = (n : Int) + 1 - 1 ∧ z_diff (ro b) (bu t) ≠ 0
      · have h1 := (hv b hb).1 c
        by_cases q : m ≤ n
        · have := ih2 m b q hb hw
          omega
        · omega
      · have h1 := (hv b hb).2 c
        rw [h1]
        by_cases q : m ≤ n
        · exact ih2 m b q hb hw
        · have hm1 : m = n + 1 := by omega
          subst hm1
          obtain ⟨t, t1, t2, t3⟩ := hw
          have h2 := ih2 n t (Nat.le_refl n) t1 t3
          rcases hle b hb with w | w
          · have h3 := ih1 b hb w t t1 t2
            exact absurd ⟨w, t, t1, by omega, t2⟩ c
          · omega
theorem g_near_spec (di : Nat → Int) (F : Int) : ∀ n : Nat, (g_nearN di F n = -1 ∧ ∀ b : Nat, b < n → ¬ (z_bit F (b : Int) = true ∧ di b ≠ -1)) ∨ ∃ e : Nat, e < n ∧ g_nearN di F n = (e : Int) ∧ (z_bit F (e : Int) = true ∧ di e ≠ -1) ∧ (∀ b : Nat, b < n → z_bit F (b : Int) = true ∧ di b ≠ -1 → di e ≤ di b) ∧ ∀ b : Nat, b < e → z_bit F (b : Int) = true ∧ di b ≠ -1 → di e < di b
  | 0 => Or.inl ⟨rfl, fun b hb => absurd hb (Nat.not_lt_zero b)⟩
  | n + 1 => by
    have e0 : g_nearN di F (n + 1) = if (z_bit F (n : Int) = true ∧ di n ≠ -1) ∧ (g_nearN di F n = -1 ∨ di n < di (g_nearN di F n).toNat) then (n : Int) else g_nearN di F n := rfl
    rw [e0]
    rcases g_near_spec di F n with ⟨h1, h2⟩ | ⟨e, h1, h2, h3, h4, h5⟩
    · rw [h1]
      by_cases c : z_bit F (n : Int) = true ∧ di n ≠ -1
      · rw [if_pos ⟨c, Or.inl rfl⟩]
        refine Or.inr ⟨n, by omega, rfl, c, fun b hb hc => ?_, fun b hb hc => absurd hc (h2 b hb)⟩
        by_cases q : b = n
        · subst q
          exact Int.le_refl _
        · exact absurd hc (h2 b (by omega))
      · rw [if_neg fun z => c z.1]
        refine Or.inl ⟨rfl, fun b hb => ?_⟩
        by_cases q : b = n
        · subst q
          exact c
        · exact h2 b (by omega)
    · rw [h2]
      have en : ((e : Int)).toNat = e := rfl
      rw [en]
      by_cases c : (z_bit F (n : Int) = true ∧ di n ≠ -1) ∧ ((e : Int) = -1 ∨ di n < di e)
      · rw [if_pos c]
        have hlt : di n < di e := c.2.resolve_left (by omega)
        refine Or.inr ⟨n, by omega, rfl, c.1, fun b hb hc => ?_, fun b hb hc => ?_⟩
        · by_cases q : b = n
          · subst q
            exact Int.le_refl _
          · have := h4 b (by omega) hc
            omega
        · have := h4 b hb hc
          omega
      · rw [if_neg c]
        refine Or.inr ⟨e, by omega, rfl, h3, fun b hb hc => ?_, h5⟩
        by_cases q : b = n
        · subst q
          by_cases w : di b < di e
          · exact absurd ⟨hc, Or.inr w⟩ c
          · omega
        · exact h4 b (by omega) hc
/-- the model's side: who can be moved -/
theorem z_mover (r : Nat → Int) (s a t : Int) : m_mover r s a t = z_first (r 2).toNat (fun q => decide (r (105 + 4 * (q : Int) + a).toNat = s ∧ r (105 + 4 * (q : Int) + t).toNat = -1)) := by
  have h := k_for_first (P := fun q : Nat => r (105 + 4 * (q : Int) + a).toNat = s ∧ r (105 + 4 * (q : Int) + t).toNat = -1) (r_mover_3 r s a t) rfl (r 2).toNat
  rw [← h]
  unfold m_mover
  congr 1
  have e : b_mover_3 r s a t = fun (i : Nat) (_ : Unit) => if r (105 + 4 * (i : Int) + a).toNat = s ∧ r (105 + 4 * (i : Int) + t).toNat = -1 then (.inl (i : Int) : Int ⊕ Unit) else .inr () := by
    funext i x
    unfold b_mover_3
    by_cases c : r (105 + 4 * (i : Int) + a).toNat = s
    · by_cases d : r (105 + 4 * (i : Int) + t).toNat = -1
      · rw [if_pos c, if_pos d, if_pos (show r (105 + 4 * (i : Int) + a).toNat = s ∧ r (105 + 4 * (i : Int) + t).toNat = -1 from ⟨c, d⟩)]
      · rw [if_pos c, if_neg d, if_neg (show ¬ (r (105 + 4 * (i : Int) + a).toNat = s ∧ r (105 + 4 * (i : Int) + t).toNat = -1) from fun z => d z.2)]
    · rw [if_neg c, if_neg (show ¬ (r (105 + 4 * (i : Int) + a).toNat = s ∧ r (105 + 4 * (i : Int) + t).toNat = -1) from fun z => c z.1)]
  rw [e]
theorem z_mover_iff (r : Nat → Int) (s a t : Int) : m_mover r s a t ≠ -1 ↔ ∃ q : Nat, q < (r 2).toNat ∧ r (105 + 4 * (q : Int) + a).toNat = s ∧ r (105 + 4 * (q : Int) + t).toNat = -1 := by
  rw [z_mover]
  rcases z_first_spec (P := fun q : Nat => decide (r (105 + 4 * (q : Int) + a).toNat = s ∧ r (105 + 4 * (q : Int) + t).toNat = -1)) (r 2).toNat with ⟨h1, h2⟩ | ⟨q, h1, h2, h3, -⟩
  · rw [h1]
    exact ⟨fun z => absurd rfl z, fun ⟨q, z1, z2⟩ => absurd z2 (of_decide_eq_false (h2 q z1))⟩
  · rw [h2]
    exact ⟨fun _ => ⟨q, h1, of_decide_eq_true h3⟩, fun _ => by omega⟩
/-- the model's chains -/
theorem z_isChain (r st : Nat → Int) (p s : Int) (m : Nat) : m_isChain r st p s (m : Int) = true ↔ (st 0 < r 1 ∧ r (17 + 4 * s + st 0).toNat = 1 ∧ r (105 + 4 * p + st 0).toNat = -1) ∧ (∀ k, k < m → st (k + 1) < r 1 ∧ r (17 + 4 * s + st (k + 1)).toNat = 1 ∧ m_mover r s (st k) (st (k + 1)) ≠ -1) ∧ m_inClass r s (st m) < r (10 + s).toNat := by
  have hent : m_isEntry r p s (st 0) = true ↔ (st 0 < r 1 ∧ r (17 + 4 * s + st 0).toNat = 1 ∧ r (105 + 4 * p + st 0).toNat = -1) := by
    unfold m_isEntry
    by_cases a : st 0 < r 1
    · by_cases b : r (17 + 4 * s + st 0).toNat = 1
      · by_cases c : r (105 + 4 * p + st 0).toNat = -1
        · rw [if_pos a, if_pos b, if_pos c]
          exact ⟨fun _ => ⟨a, b, c⟩, fun _ => rfl⟩
        · rw [if_pos a, if_pos b, if_neg c]
          exact ⟨fun z => (by cases z), fun z => absurd z.2.2 c⟩
      · rw [if_pos a, if_neg b]
        exact ⟨fun z => (by cases z), fun z => absurd z.2.1 b⟩
    · rw [if_neg a]
      exact ⟨fun z => (by cases z), fun z => absurd z.1 a⟩
  have hbody : ∀ k : Nat, b_isChain_20 r st p s (m : Int) k () = if st (k + 1) < r 1 ∧ r (17 + 4 * s + st (k + 1)).toNat = 1 ∧ m_mover r s (st k) (st (k + 1)) ≠ -1 then .inr () else .inl false := by
    intro k
    unfold b_isChain_20
    show (if st (k + 1) < r 1 then if r (17 + 4 * s + st (k + 1)).toNat = 1 then if m_mover r s (st k) (st (k + 1)) = -1 then (.inl false : Bool ⊕ Unit) else .inr () else .inl false else .inl false) = _
    by_cases a : st (k + 1) < r 1
    · by_cases b : r (17 + 4 * s + st (k + 1)).toNat = 1
      · by_cases c : m_mover r s (st k) (st (k + 1)) = -1
        · rw [if_pos a, if_pos b, if_pos c, if_neg (show ¬ (st (k + 1) < r 1 ∧ r (17 + 4 * s + st (k + 1)).toNat = 1 ∧ m_mover r s (st k) (st (k + 1)) ≠ -1) from fun z => z.2.2 c)]
        · rw [if_pos a, if_pos b, if_neg c, if_pos (show st (k + 1) < r 1 ∧ r (17 + 4 * s + st (k + 1)).toNat = 1 ∧ m_mover r s (st k) (st (k + 1)) ≠ -1 from ⟨a, b, c⟩)]
      · rw [if_pos a, if_neg b, if_neg (show ¬ (st (k + 1) < r 1 ∧ r (17 + 4 * s + st (k + 1)).toNat = 1 ∧ m_mover r s (st k) (st (k + 1)) ≠ -1) from fun z => b z.2.1)]
    · rw [if_neg a, if_neg (show ¬ (st (k + 1) < r 1 ∧ r (17 + 4 * s + st (k + 1)).toNat = 1 ∧ m_mover r s (st k) (st (k + 1)) ≠ -1) from fun z => a z.1)]
  have hloop : ∀ n i : Nat, k_els (r_isChain_20 r st p s (m : Int)) (k_for (b_isChain_20 r st p s (m : Int)) n i ()) = true ↔ (∀ k, i ≤ k → k < i + n → st (k + 1) < r 1 ∧ r (17 + 4 * s + st (k + 1)).toNat = 1 ∧ m_mover r s (st k) (st (k + 1)) ≠ -1) ∧ m_inClass r s (st m) < r (10 + s).toNat := by
    intro n
    induction n with
    | zero =>
      intro i
      show (if m_inClass r s (st m) < r (10 + s).toNat then true else false) = true ↔ _
      by_cases c : m_inClass r s (st m) < r (10 + s).toNat
      · rw [if_pos c]
        exact ⟨fun _ => ⟨fun k h1 h2 => by omega, c⟩, fun _ => rfl⟩
      · rw [if_neg c]
        exact ⟨fun z => (by cases z), fun z => absurd z.2 c⟩
    | succ n ih =>
      intro i
      show k_els _ (k_cn2 _ (b_isChain_20 r st p s (m : Int) i ())) = true ↔ _
      rw [hbody]
      by_cases c : st (i + 1) < r 1 ∧ r (17 + 4 * s + st (i + 1)).toNat = 1 ∧ m_mover r s (st i) (st (i + 1)) ≠ -1
      · rw [if_pos c]
        refine (ih (i + 1)).trans ⟨fun z => ⟨fun k h1 h2 => ?_, z.2⟩, fun z => ⟨fun k h1 h2 => z.1 k (by omega) (by omega), z.2⟩⟩
        by_cases q : k = i
        · subst q
          exact c
        · exact z.1 k (by omega) (by omega)
      · rw [if_neg c]
        exact ⟨fun z => (by cases z), fun z => absurd (z.1 i (Nat.le_refl i) (by omega)) c⟩
  unfold m_isChain
  by_cases q : m_isEntry r p s (st 0) = true
  · rw [if_pos q]
    refine (hloop m 0).trans ⟨fun z => ⟨hent.mp q, fun k hk => z.1 k (Nat.zero_le k) (by omega), z.2⟩, fun z => ⟨fun k _ hk => z.2.1 k (by omega), z.2.2⟩⟩
  · rw [if_neg q]
    exact ⟨fun z => (by cases z), fun z => absurd (hent.mpr z.1) q⟩
end K_R5
