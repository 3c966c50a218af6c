/-! ===== READING a command, alike ===== -/
section K_R41
variable {σ ρ τ : Nat → Nat → Int} {r : Nat → Int} {v : Nat}
theorem n_len : ∀ i : Fin 12, 5 ≤ k_len i.val := by decide +kernel
/-- what the model's reading leaves -/
def k_Mr (ρ' ρ : Nat → Nat → Int) : Prop := (∀ i, i ≠ 123 → i ≠ 140 → ρ' i = ρ i) ∧ ∀ j, j ≠ 30 → ρ' 123 j = ρ 123 j
theorem k_Mr_rf : k_Mr ρ ρ := ⟨fun _ _ _ => rfl, fun _ _ => rfl⟩
theorem k_Mr_tr {a b c : Nat → Nat → Int} (h : k_Mr a b) (h2 : k_Mr b c) : k_Mr a c := ⟨fun i x y => (h.1 i x y).trans (h2.1 i x y), fun j x => (h.2 j x).trans (h2.2 j x)⟩
theorem k_Mr_of (ρ : Nat → Nat → Int) (z : Int) (row : Nat → Int) : k_Mr (k_up (k_up ρ 123 (k_u1 (ρ 123) 30 z)) 140 row) ρ := ⟨fun i h1 h2 => by rw [k_up_ne h2, k_up_ne h1], fun j hj => by
  rw [k_up_ne (by decide), k_up_same]
  exact if_neg hj⟩
theorem k_Mr_30 (ρ : Nat → Nat → Int) (z : Int) (row : Nat → Int) : k_up (k_up ρ 123 (k_u1 (ρ 123) 30 z)) 140 row 123 30 = z := by
  rw [k_up_ne (by decide), k_up_same]
  exact if_pos rfl
theorem k_Tx_al {c : Int} {σ' ρ' : Nat → Nat → Int} (h : k_Tx v σ ρ) (h1 : k_Rf c σ' σ) (h2 : k_Mr ρ' ρ) : k_Tx v σ' ρ' := by
  obtain ⟨⟨e1, e2, e3, e4⟩, e5⟩ := h
  have a1 : σ' 117 = σ 117 := h1.1 117 (by decide) (by decide)
  have a2 : σ' v = σ v := h1.1 v e2 e4
  have a3 : ρ' 130 = ρ 130 := h2.1 130 (by decide) (by decide)
  refine ⟨⟨?_, e2, e3, e4⟩, ?_⟩
  · rw [h2.2 28 (by decide), a1]
    exact e1
  · rw [a1, a2, a3]
    exact e5
theorem q_reads {i : Nat} (hi : i < 12) {c start : Int} (hc : 0 ≤ c ∧ c ≤ 11) (hT : k_Tx v σ ρ) (h0 : 0 ≤ start) : k_Rf c (g_mt v i (k_len i) 0 (c * 3) (u_at σ start)).1 σ ∧ ∃ row, (m_reads ρ (12 + i) start).2 = k_up (k_up ρ 123 (k_u1 (ρ 123) 30 ((g_mt v i (k_len i) 0 (c * 3) (u_at σ start)).1 116 4))) 140 row ∧ (((g_mt v i (k_len i) 0 (c * 3) (u_at σ start)).2 = 0 ∧ (m_reads ρ (12 + i) start).1 = false) ∨ ((g_mt v i (k_len i) 0 (c * 3) (u_at σ start)).2 = 1 ∧ (m_reads ρ (12 + i) start).1 = true ∧ start + k_len i ≤ (g_mt v i (k_len i) 0 (c * 3) (u_at σ start)).1 116 4 ∧ ∀ t : Nat, t < n_cnt i (k_len i) 0 → (g_mt v i (k_len i) 0 (c * 3) (u_at σ start)).1 120 ((c * 3).toNat + t) = row t)) := by
  have h3 := n_cnt_3 ⟨i, hi⟩
  dsimp only at h3
  have h := q_mt hi (fr := start) hc (k_len i) 0 (u_at σ start) (start, 0, ρ 140) (by omega) (k_Tx_at hT start) (u_at_4 start) h0 (Int.le_refl _) (by dsimp only; omega) (fun t ht => by dsimp only at ht; omega)
  dsimp only at h
  rw [Int.add_zero] at h
  have hm : m_reads ρ (12 + i) start = k_els (r_reads_8 ρ (12 + i) start) (k_for (b_reads_8 ρ (12 + i) start) (k_len i) 0 (start, 0, ρ 140)) := by
    unfold m_reads
    rw [(k_form_len ⟨i, hi⟩).1]
  rw [hm]
  generalize g_mt v i (k_len i) 0 (c * 3) (u_at σ start) = A at h ⊢
  refine ⟨k_Rf_tr h.1 (k_Rf_at start), ?_⟩
  rcases h.2 with ⟨a1, row, a2⟩ | ⟨a1, x', a2, a3, a4, a5, a6⟩
  · rw [a2]
    exact ⟨row, rfl, Or.inl ⟨a1, rfl⟩⟩
  · rw [a2]
    refine ⟨x'.2.2, ?_, Or.inr ⟨a1, rfl, a3 ▸ a4, fun t ht => a6 t (by omega)⟩⟩
    show k_up (k_up ρ 123 (k_u1 (ρ 123) 30 x'.1)) 140 x'.2.2 = _
    rw [a3]
/-- what reading a command leaves -/
def k_Rc (c : Int) (τ σ : Nat → Nat → Int) : Prop := (∀ a, a ≠ 116 → a ≠ 119 → a ≠ 120 → τ a = σ a) ∧ (∀ j, j ≠ 4 → τ 116 j = σ 116 j) ∧ (∀ j : Nat, j < (c * 3).toNat → τ 120 j = σ 120 j) ∧ ∀ j : Nat, j < c.toNat → τ 119 j = σ 119 j
theorem k_Rc_f {c : Int} (h : k_Rf c τ σ) : k_Rc c τ σ := ⟨fun a h1 _ h2 => h.1 a h1 h2, h.2.1, h.2.2, fun j _ => by rw [h.1 119 (by decide) (by decide)]⟩
theorem k_Rc_tr {c : Int} {υ : Nat → Nat → Int} (h : k_Rc c υ τ) (h2 : k_Rc c τ σ) : k_Rc c υ σ := ⟨fun a x y z => (h.1 a x y z).trans (h2.1 a x y z), fun j x => (h.2.1 j x).trans (h2.2.1 j x), fun j x => (h.2.2.1 j x).trans (h2.2.2.1 j x), fun j x => (h.2.2.2 j x).trans (h2.2.2.2 j x)⟩
theorem k_Rc_mod {c z : Int} (hc : 0 ≤ c ∧ c ≤ 11) : k_Rc c (u_mod σ c z) σ := ⟨fun i _ h1 _ => k_up_ne h1, fun j _ => congrFun (k_up_ne (σ := σ) (a := 119) (i := 116) (f := f_write (σ 119) 12 c z) (by decide)) j, fun j _ => congrFun (k_up_ne (σ := σ) (a := 119) (i := 120) (f := f_write (σ 119) 12 c z) (by decide)) j, fun j hj => by
  unfold u_mod f_write
  rw [k_up_same, if_pos (by omega)]
  exact if_neg (by omega)⟩
theorem u_mod_119 {c z : Int} (hc : 0 ≤ c ∧ c ≤ 11) : u_mod σ c z 119 c.toNat = z := by
  unfold u_mod f_write
  rw [k_up_same, if_pos (by omega)]
  exact if_pos rfl
/-- once found it isn't sought further -/
theorem q_found (R : Nat → Nat → Int) (k : Nat) (X : Int × (Nat → Nat → Int)) {m : Int} (hm : m ≠ -1) (fu : Int) (υ : Nat → Nat → Int) : ∀ f j : Nat, k_els (r_parses_14 R k X) (k_for (b_parses_14 R k X) f j (m, fu, υ)) = r_parses_90 R k X (m, fu, υ) (k_it (b_parses_90 R k X (m, fu, υ)) 3 0 (υ 139))
  | 0, j => by
    show (if m = -1 then _ else _) = _
    exact if_neg hm
  | f + 1, j => by
    have e : k_for (b_parses_14 R k X) (f + 1) j (m, fu, υ) = k_cn2 (k_for (b_parses_14 R k X) f (j + 1)) (b_parses_14 R k X j (m, fu, υ)) := rfl
    rw [e]
    unfold b_parses_14
    dsimp only
    rw [if_neg hm, if_neg hm]
    have e2 : b_parses_90_2 R k X j (m, fu, υ) = b_parses_90 R k X (m, fu, υ) := rfl
    rw [e2]
    unfold r_parses_90_2 r_parses_90
    by_cases q1 : υ 123 30 = υ 123 28
    · rw [if_pos q1, if_pos q1]
      rfl
    · rw [if_neg q1, if_neg q1]
      by_cases q2 : υ 130 (υ 123 30).toNat = 59
      · rw [if_pos q2, if_pos q2]
        rfl
      · rw [if_neg q2, if_neg q2]
        rfl
theorem q_rc (R : Nat → Nat → Int) (k : Nat) (R0 : Nat → Nat → Int) {c start : Int} (hc : 0 ≤ c ∧ c ≤ 11) (h0 : 0 ≤ start) : ∀ (f m : Nat) (fu : Int) (σ ρ : Nat → Nat → Int), m + f = 12 → k_Tx v σ ρ → k_Rc c (g_rc v c start f m fu σ).1 σ ∧ ∃ ρ', k_Mr ρ' ρ ∧ (((g_rc v c start f m fu σ).2 = 0 ∧ k_els (r_parses_14 R k (start, R0)) (k_for (b_parses_14 R k (start, R0)) f m (-1, fu, ρ)) = .inl ((g_rc v c start f m fu σ).1 116 4, ρ')) ∨ ((g_rc v c start f m fu σ).2 = 1 ∧ ∃ (i : Nat) (fu' : Int), i < 12 ∧ k_els (r_parses_14 R k (start, R0)) (k_for (b_parses_14 R k (start, R0)) f m (-1, fu, ρ)) = r_parses_90 R k (start, R0) ((i : Int), fu', ρ') (k_it (b_parses_90 R k (start, R0) ((i : Int), fu', ρ')) 3 0 (ρ' 139)) ∧ ρ' 123 30 = (g_rc v c start f m fu σ).1 116 4 ∧ start + k_len i ≤ (g_rc v c start f m fu σ).1 116 4 ∧ (g_rc v c start f m fu σ).1 119 c.toNat = (i : Int) ∧ ∀ t : Nat, t < n_cnt i (k_len i) 0 → (g_rc v c start f m fu σ).1 120 ((c * 3).toNat + t) = ρ' 140 t))
  | 0, m, fu, σ, ρ, hm, hT => by
    refine ⟨k_Rc_f (k_Rf_at fu), ρ, k_Mr_rf, Or.inl ⟨rfl, ?_⟩⟩
    have e : (g_rc v c start 0 m fu σ).1 116 4 = fu := u_at_4 (σ := σ) fu
    rw [e]
    rfl
  | f + 1, m, fu, σ, ρ, hm, hT => by
    obtain ⟨x1, row, x2, x3⟩ := q_reads (i := m) (by omega) (c := c) (start := start) hc hT h0
    have efor : k_for (b_parses_14 R k (start, R0)) (f + 1) m (-1, fu, ρ) = k_cn2 (k_for (b_parses_14 R k (start, R0)) f (m + 1)) (b_parses_14 R k (start, R0) m (-1, fu, ρ)) := rfl
    have eg : g_rc v c start (f + 1) m fu σ = if (g_mt v m (k_len m) 0 (c * 3) (u_at σ start)).2 = 0 then g_rc v c start f (m + 1) (z_max fu ((g_mt v m (k_len m) 0 (c * 3) (u_at σ start)).1 116 4)) (g_mt v m (k_len m) 0 (c * 3) (u_at σ start)).1 else (u_mod (g_mt v m (k_len m) 0 (c * 3) (u_at σ start)).1 c (m : Int), 1) := by rw [g_rc]
    have eb : b_parses_14 R k (start, R0) m (-1, fu, ρ) = if (m_reads ρ (12 + m) start).1 = true then if ((m_reads ρ (12 + m) start).2 123 30) ≤ fu then .inr ((m : Int), fu, (m_reads ρ (12 + m) start).2) else .inr ((m : Int), (m_reads ρ (12 + m) start).2 123 30, (m_reads ρ (12 + m) start).2) else if ((m_reads ρ (12 + m) start).2 123 30) ≤ fu then .inr (-1, fu, (m_reads ρ (12 + m) start).2) else .inr (-1, (m_reads ρ (12 + m) start).2 123 30, (m_reads ρ (12 + m) start).2) := by
      unfold b_parses_14
      dsimp only
      rw [if_pos rfl, Int.toNat_natCast]
    rw [efor, eg, eb]
    generalize g_mt v m (k_len m) 0 (c * 3) (u_at σ start) = A at x1 x2 x3 ⊢
    generalize m_reads ρ (12 + m) start = B at x2 x3 ⊢
    have e30 : B.2 123 30 = A.1 116 4 := by
      rw [x2]
      exact k_Mr_30 _ _ _
    have hMr : k_Mr B.2 ρ := by
      rw [x2]
      exact k_Mr_of _ _ _
    rcases x3 with ⟨a1, a2⟩ | ⟨a1, a2, a3, a4⟩
    · rw [if_pos a1, a2, if_neg (by decide), e30]
      have ez : (if A.1 116 4 ≤ fu then (Sum.inr (-1, fu, B.2) : ((Int × (Nat → Nat → Int)) ⊕ (Int × (Nat → Nat → Int))) ⊕ (Int × Int × (Nat → Nat → Int))) else .inr (-1, A.1 116 4, B.2)) = .inr (-1, z_max fu (A.1 116 4), B.2) := by
        unfold z_max
        split <;> rfl
      rw [ez]
      obtain ⟨y1, ρ', y2, y3⟩ := q_rc R k R0 hc h0 f (m + 1) (z_max fu (A.1 116 4)) A.1 B.2 (by omega) (k_Tx_al hT x1 hMr)
      exact ⟨k_Rc_tr y1 (k_Rc_f x1), ρ', k_Mr_tr y2 hMr, y3⟩
    · rw [if_neg (by rw [a1]; decide), a2, if_pos rfl, e30]
      have ez : ∃ fu', (if A.1 116 4 ≤ fu then (Sum.inr ((m : Int), fu, B.2) : ((Int × (Nat → Nat → Int)) ⊕ (Int × (Nat → Nat → Int))) ⊕ (Int × Int × (Nat → Nat → Int))) else .inr ((m : Int), A.1 116 4, B.2)) = .inr ((m : Int), fu', B.2) := by
        split
        · exact ⟨_, rfl⟩
        · exact ⟨_, rfl⟩
      obtain ⟨fu', ez⟩ := ez
      rw [ez]
      have e4 : (u_mod A.1 c (m : Int)) 116 4 = A.1 116 4 := rfl
      have e120 : (u_mod A.1 c (m : Int)) 120 = A.1 120 := k_up_ne (by decide)
      refine ⟨k_Rc_tr (k_Rc_mod hc) (k_Rc_f x1), B.2, hMr, Or.inr ⟨rfl, m, fu', by omega, q_found R k _ (by omega) _ _ f (m + 1), e30.trans e4.symm, a3, u_mod_119 hc, fun t ht => ?_⟩⟩
      dsimp only
      rw [e120, a4 t ht, x2, k_up_same]
end K_R41
