/-! ===== READING a program, alike ===== -/
section K_R42
variable {sh : List k_Sh} {σ ρ τ : Nat → Nat → Int} {r : Nat → Int} {v w : Nat}
/-- the commands read so far -/
def k_Cd (N : Nat) (σ ρ : Nat → Nat → Int) : Prop := ∀ i : Nat, i < N → ∃ m : Nat, m < 12 ∧ σ 119 i = (m : Int) ∧ ρ 138 i = (m : Int) ∧ ∀ t : Nat, t < n_cnt m (k_len m) 0 → σ 120 (3 * i + t) = ρ 139 (3 * i + t)
theorem n_x90 (R : Nat → Nat → Int) (k : Nat) (X : Int × (Nat → Nat → Int)) (Y : Int × Int × (Nat → Nat → Int)) (h : Y.2.2 123 29 = (k : Int)) : (∀ j, j < 3 * k → k_it (b_parses_90 R k X Y) 3 0 (Y.2.2 139) j = Y.2.2 139 j) ∧ ∀ t, t < 3 → k_it (b_parses_90 R k X Y) 3 0 (Y.2.2 139) (3 * k + t) = Y.2.2 140 t := by
  have e : k_it (b_parses_90 R k X Y) 3 0 (Y.2.2 139) = k_u1 (k_u1 (k_u1 (Y.2.2 139) (3 * k) (Y.2.2 140 0)) (3 * k + 1) (Y.2.2 140 1)) (3 * k + 2) (Y.2.2 140 2) := by
    show b_parses_90 R k X Y 2 (b_parses_90 R k X Y 1 (b_parses_90 R k X Y 0 (Y.2.2 139))) = _
    unfold b_parses_90
    rw [h, show (3 * (k : Int) + ((0 : Nat) : Int)).toNat = 3 * k by omega, show (3 * (k : Int) + ((1 : Nat) : Int)).toNat = 3 * k + 1 by omega, show (3 * (k : Int) + ((2 : Nat) : Int)).toNat = 3 * k + 2 by omega]
    rfl
  rw [e]
  unfold k_u1
  constructor
  · intro j hj
    rw [if_neg (by omega), if_neg (by omega), if_neg (by omega)]
  · intro t ht
    rcases (show t = 0 ∨ t = 1 ∨ t = 2 by omega) with rfl | rfl | rfl
    · rw [if_neg (by omega), if_neg (by omega), if_pos (by omega)]
    · rw [if_neg (by omega), if_pos (by omega)]
    · rw [if_pos (by omega)]
/-- the frames of reading a program -/
def k_Rp (τ σ : Nat → Nat → Int) : Prop := (∀ a, a ≠ 116 → a ≠ 119 → a ≠ 120 → τ a = σ a) ∧ ∀ j, j ≠ 3 → j ≠ 4 → τ 116 j = σ 116 j
def k_Mp (τ σ : Nat → Nat → Int) : Prop := (∀ i, i ≠ 123 → i ≠ 138 → i ≠ 139 → i ≠ 140 → τ i = σ i) ∧ ∀ j, j ≠ 29 → j ≠ 30 → τ 123 j = σ 123 j
theorem k_Rp_tr {a b c : Nat → Nat → Int} (h : k_Rp a b) (h2 : k_Rp b c) : k_Rp a c := ⟨fun i x y z => (h.1 i x y z).trans (h2.1 i x y z), fun j x y => (h.2 j x y).trans (h2.2 j x y)⟩
theorem k_Mp_tr {a b c : Nat → Nat → Int} (h : k_Mp a b) (h2 : k_Mp b c) : k_Mp a c := ⟨fun i x y z u => (h.1 i x y z u).trans (h2.1 i x y z u), fun j x y => (h.2 j x y).trans (h2.2 j x y)⟩
theorem k_Rp_c {c : Int} (h : k_Rc c τ σ) : k_Rp τ σ := ⟨h.1, fun j _ h2 => h.2.1 j h2⟩
theorem k_Mp_r (h : k_Mr τ σ) : k_Mp τ σ := ⟨fun i h1 _ _ h4 => h.1 i h1 h4, fun j _ h2 => h.2 j h2⟩
theorem k_Rp_at (a : Int) : k_Rp (u_at σ a) σ := ⟨fun i h1 _ _ => k_up_ne h1, fun j _ hj => by
  unfold u_at
  rw [k_up_same]
  exact if_neg hj⟩
theorem k_Rp_count (a : Int) : k_Rp (u_count σ a) σ := ⟨fun i h1 _ _ => k_up_ne h1, fun j hj _ => by
  unfold u_count
  rw [k_up_same]
  exact if_neg hj⟩
theorem u_count_3 (a : Int) : u_count σ a 116 3 = a := by
  unfold u_count
  rw [k_up_same]
  exact if_pos rfl
theorem u_count_4 (a : Int) : u_count σ a 116 4 = σ 116 4 := by
  unfold u_count
  rw [k_up_same]
  exact if_neg (by decide)
theorem u_at_3 (a : Int) : u_at σ a 116 3 = σ 116 3 := by
  unfold u_at
  rw [k_up_same]
  exact if_neg (by decide)
theorem k_Tx_p {σ' ρ' : Nat → Nat → Int} (h : k_Tx v σ ρ) (hv : v ≠ 119) (h1 : k_Rp σ' σ) (h2 : k_Mp ρ' ρ) : k_Tx v σ' ρ' := by
  obtain ⟨⟨e1, e2, e3, e4⟩, e5⟩ := h
  have a1 : σ' 117 = σ 117 := h1.1 117 (by decide) (by decide) (by decide)
  have a2 : σ' v = σ v := h1.1 v e2 hv e4
  have a3 : ρ' 130 = ρ 130 := h2.1 130 (by decide) (by decide) (by decide) (by decide)
  refine ⟨⟨?_, e2, e3, e4⟩, ?_⟩
  · rw [h2.2 28 (by decide) (by decide), a1]
    exact e1
  · rw [a1, a2, a3]
    exact e5
theorem k_Cd_cong {N : Nat} {τ' ρ' : Nat → Nat → Int} (h : k_Cd N τ ρ) (e1 : τ' 119 = τ 119) (e2 : τ' 120 = τ 120) (e3 : ρ' 138 = ρ 138) (e4 : ρ' 139 = ρ 139) : k_Cd N τ' ρ' := by
  unfold k_Cd at h ⊢
  rw [e1, e2, e3, e4]
  exact h
theorem q_pa (R : Nat → Nat → Int) : ∀ (f k : Nat) (σ ρ : Nat → Nat → Int), f + k = 11 → k_PI sh σ v w → k_Tx v σ ρ → σ 116 3 = (k : Int) → ρ 123 29 = (k : Int) → 6 * (k : Int) ≤ σ 116 4 → σ 117 3 ≤ 60 → k_Cd k σ ρ → (g_pa v (f + 1) σ).2 = (k_els (r_parses_7 R) (k_for (b_parses_7 R) f k (σ 116 4, ρ))).1 ∧ ((g_pa v (f + 1) σ).2 = -1 → k_Cd ((g_pa v (f + 1) σ).1 116 3).toNat (g_pa v (f + 1) σ).1 (k_els (r_parses_7 R) (k_for (b_parses_7 R) f k (σ 116 4, ρ))).2 ∧ (k_els (r_parses_7 R) (k_for (b_parses_7 R) f k (σ 116 4, ρ))).2 123 29 = (g_pa v (f + 1) σ).1 116 3) ∧ k_Rp (g_pa v (f + 1) σ).1 σ ∧ k_Mp (k_els (r_parses_7 R) (k_for (b_parses_7 R) f k (σ 116 4, ρ))).2 ρ ∧ (g_pa v (f + 1) σ).2 ≤ 60
  | 0, k, σ, ρ, hk, hP, hT, h3, h29, h6, h60, hC => by
    have := hP.2.1
    omega
  | f + 1, k, σ, ρ, hk, hP, hT, h3, h29, h6, h60, hC => by
    have h0 := hP.2.1
    have hkc : (0 : Int) ≤ (k : Int) ∧ (k : Int) ≤ 11 := by omega
    have eg : g_cmd v (σ 116 3) σ = g_rc v (k : Int) (σ 116 4) 12 0 (σ 116 4) σ := by
      unfold g_cmd
      rw [h3]
    have efor : k_for (b_parses_7 R) (f + 1) k (σ 116 4, ρ) = k_cn2 (k_for (b_parses_7 R) f (k + 1)) (k_els (r_parses_14 R k (σ 116 4, ρ)) (k_for (b_parses_14 R k (σ 116 4, ρ)) 12 0 (-1, σ 116 4, ρ))) := rfl
    obtain ⟨x1, ρ', x2, x3⟩ := q_rc (v := v) R k ρ hkc h0.1 12 0 (σ 116 4) σ ρ rfl hT
    have hpi := g_cmd_pi hP (σ 116 3)
    have ep : g_pa v (f + 1 + 1) σ = if (g_cmd v (σ 116 3) σ).2 = 0 then ((g_cmd v (σ 116 3) σ).1, (g_cmd v (σ 116 3) σ).1 116 4) else if (g_cmd v (σ 116 3) σ).1 117 3 ≤ (g_cmd v (σ 116 3) σ).1 116 4 then (u_count (g_cmd v (σ 116 3) σ).1 ((g_cmd v (σ 116 3) σ).1 116 3 + 1), -1) else if f_st (g_cmd v (σ 116 3) σ).1 v 59 then g_pa v (f + 1) (u_count (u_sk (g_cmd v (σ 116 3) σ).1 v 59) (u_sk (g_cmd v (σ 116 3) σ).1 v 59 116 3 + 1)) else (u_sk (g_cmd v (σ 116 3) σ).1 v 59, u_sk (g_cmd v (σ 116 3) σ).1 v 59 116 4) := by rw [g_pa]
    rw [efor, ep]
    rw [eg] at hpi ⊢
    generalize g_rc v (k : Int) (σ 116 4) 12 0 (σ 116 4) σ = A at x1 x3 hpi ⊢
    generalize k_els (r_parses_14 R k (σ 116 4, ρ)) (k_for (b_parses_14 R k (σ 116 4, ρ)) 12 0 (-1, σ 116 4, ρ)) = B at x3 ⊢
    obtain ⟨hpi1, hpi2, -⟩ := hpi
    have hA4 := hpi1.2.1
    rcases x3 with ⟨a1, a2⟩ | ⟨a1, i, fu, hi, a2, a3, a4, a5, a6⟩
    · rw [if_pos a1, a2]
      refine ⟨rfl, fun y => ?_, k_Rp_c x1, k_Mp_r x2, by rw [hpi2] at hA4; omega⟩
      dsimp only at y
      omega
    · have hA3 : A.1 116 3 = (k : Int) := (x1.2.1 3 (by decide)).trans h3
      have h29' : ρ' 123 29 = (k : Int) := (x2.2 29 (by decide)).trans h29
      have hTA : k_Tx v A.1 ρ' := k_Tx_p hT hP.2.2.2.2.2.2.1 (k_Rp_c x1) (k_Mp_r x2)
      have e28 : ρ' 123 28 = A.1 117 3 := hTA.1.1
      obtain ⟨n1, n2⟩ := n_x90 R k (σ 116 4, ρ) ((i : Int), fu, ρ') h29'
      rw [if_neg (show ¬ A.2 = 0 by rw [a1]; decide), a2]
      unfold r_parses_90
      dsimp only at n1 n2 ⊢
      generalize k_it (b_parses_90 R k (σ 116 4, ρ) ((i : Int), fu, ρ')) 3 0 (ρ' 139) = X at n1 n2 ⊢
      rw [h29', Int.toNat_natCast]
      have hu : k_Mp (k_up (k_up (k_up ρ' 123 (k_u1 (ρ' 123) 29 ((k : Int) + 1))) 138 (k_u1 (ρ' 138) k (i : Int))) 139 X) ρ := by
        refine k_Mp_tr ⟨fun j g1 g2 g3 g4 => ?_, fun j g1 g2 => ?_⟩ (k_Mp_r x2)
        · rw [k_up_ne g3, k_up_ne g2, k_up_ne g1]
        · rw [k_up_ne (by decide), k_up_ne (by decide), k_up_same]
          exact if_neg g1
      have u29 : k_up (k_up (k_up ρ' 123 (k_u1 (ρ' 123) 29 ((k : Int) + 1))) 138 (k_u1 (ρ' 138) k (i : Int))) 139 X 123 29 = ((k + 1 : Nat) : Int) := by
        rw [k_up_ne (by decide), k_up_ne (by decide), k_up_same]
        exact (if_pos rfl).trans (by omega)
      have u138 : k_up (k_up (k_up ρ' 123 (k_u1 (ρ' 123) 29 ((k : Int) + 1))) 138 (k_u1 (ρ' 138) k (i : Int))) 139 X 138 = k_u1 (ρ' 138) k (i : Int) := by
        rw [k_up_ne (by decide), k_up_same]
      have u139 : k_up (k_up (k_up ρ' 123 (k_u1 (ρ' 123) 29 ((k : Int) + 1))) 138 (k_u1 (ρ' 138) k (i : Int))) 139 X 139 = X := k_up_same
      have u30 : k_up (k_up (k_up ρ' 123 (k_u1 (ρ' 123) 29 ((k : Int) + 1))) 138 (k_u1 (ρ' 138) k (i : Int))) 139 X 130 = ρ' 130 := by
        rw [k_up_ne (by decide), k_up_ne (by decide), k_up_ne (by decide)]
      generalize k_up (k_up (k_up ρ' 123 (k_u1 (ρ' 123) 29 ((k : Int) + 1))) 138 (k_u1 (ρ' 138) k (i : Int))) 139 X = υ at hu u29 u138 u139 u30 ⊢
      have hCd : k_Cd (k + 1) A.1 υ := by
        intro q hq
        by_cases e : q = k
        · subst e
          refine ⟨i, hi, a5, ?_, fun t ht => ?_⟩
          · rw [u138]
            exact if_pos rfl
          · have h3 := n_cnt_3 ⟨i, hi⟩
            dsimp only at h3
            rw [u139, n2 t (by omega), ← a6 t ht]
            exact congrArg (A.1 120) (by omega)
        · obtain ⟨m, g1, g2, g3, g4⟩ := hC q (by omega)
          refine ⟨m, g1, ?_, ?_, fun t ht => ?_⟩
          · rw [x1.2.2.2 q (by omega)]
            exact g2
          · rw [u138, x2.1 138 (by decide) (by decide)]
            exact (if_neg e).trans g3
          · have h3 := n_cnt_3 ⟨m, g1⟩
            dsimp only at h3
            rw [u139, n1 _ (by omega), x1.2.2.1 _ (by omega), x2.1 139 (by decide) (by decide)]
            exact g4 t ht
      have hs := q_sign hTA hA4.1 59
      rw [e28, ← a3] at hs
      have hl := n_len ⟨i, hi⟩
      dsimp only at hl
      by_cases q1 : A.1 117 3 ≤ A.1 116 4
      · rw [if_pos q1, if_pos (show ρ' 123 30 = ρ' 123 28 by omega)]
        show (-1 : Int) = -1 ∧ _
        refine ⟨rfl, fun _ => ?_, k_Rp_tr (k_Rp_count _) (k_Rp_c x1), hu, show (-1 : Int) ≤ 60 by decide⟩
        dsimp only [k_cn2, k_els]
        rw [u_count_3, hA3, show ((k : Int) + 1).toNat = k + 1 by omega]
        exact ⟨k_Cd_cong hCd (k_up_ne (by decide)) (k_up_ne (by decide)) rfl rfl, u29⟩
      · rw [if_neg q1, if_neg (show ¬ ρ' 123 30 = ρ' 123 28 by omega)]
        by_cases q2 : f_st A.1 v 59
        · have esk : u_sk A.1 v 59 = u_at A.1 (A.1 116 4 + 1) := by
            unfold u_sk
            rw [zb_t q2]
          rw [if_pos q2, if_pos (hs.mp q2).2, esk, u_at_3, hA3, a3]
          have hP2 : k_PI sh (u_count (u_at A.1 (A.1 116 4 + 1)) ((k : Int) + 1)) v w := k_PI_count (k_PI_at hpi1 (by omega)) _
          have hRp : k_Rp (u_count (u_at A.1 (A.1 116 4 + 1)) ((k : Int) + 1)) σ := k_Rp_tr (k_Rp_count _) (k_Rp_tr (k_Rp_at _) (k_Rp_c x1))
          have e4 : u_count (u_at A.1 (A.1 116 4 + 1)) ((k : Int) + 1) 116 4 = A.1 116 4 + 1 := (u_count_4 _).trans (u_at_4 _)
          have e3 : u_count (u_at A.1 (A.1 116 4 + 1)) ((k : Int) + 1) 116 3 = ((k + 1 : Nat) : Int) := (u_count_3 _).trans (by omega)
          have e117 : u_count (u_at A.1 (A.1 116 4 + 1)) ((k : Int) + 1) 117 = A.1 117 := by
            unfold u_count u_at
            rw [k_up_ne (by decide), k_up_ne (by decide)]
          have e119 : u_count (u_at A.1 (A.1 116 4 + 1)) ((k : Int) + 1) 119 = A.1 119 := by
            unfold u_count u_at
            rw [k_up_ne (by decide), k_up_ne (by decide)]
          have e120 : u_count (u_at A.1 (A.1 116 4 + 1)) ((k : Int) + 1) 120 = A.1 120 := by
            unfold u_count u_at
            rw [k_up_ne (by decide), k_up_ne (by decide)]
          generalize u_count (u_at A.1 (A.1 116 4 + 1)) ((k : Int) + 1) = σ2 at hP2 hRp e4 e3 e117 e119 e120 ⊢
          have ih := q_pa R f (k + 1) σ2 υ (by omega) hP2 (k_Tx_p hT hP.2.2.2.2.2.2.1 hRp hu) e3 u29 (by omega) (by rw [e117, hpi2]; exact h60) (k_Cd_cong hCd e119 e120 rfl rfl)
          rw [e4] at ih
          exact ⟨ih.1, ih.2.1, k_Rp_tr ih.2.2.1 hRp, k_Mp_tr ih.2.2.2.1 hu, ih.2.2.2.2⟩
        · have esk : u_sk A.1 v 59 = u_at A.1 (A.1 116 4) := by
            unfold u_sk
            rw [zb_f q2, Int.add_zero]
          rw [if_neg q2, if_neg (fun y => q2 (hs.mpr ⟨by omega, y⟩)), esk, u_at_4, a3]
          show A.1 116 4 = A.1 116 4 ∧ _
          refine ⟨rfl, fun y => ?_, k_Rp_tr (k_Rp_at _) (k_Rp_c x1), hu, by rw [hpi2] at hA4; dsimp only; omega⟩
          dsimp only at y
          omega
theorem q_parse (hP : k_PI sh σ v w) (hT : k_Tx v σ ρ) (h60 : σ 117 3 ≤ 60) : (g_parse v σ).2 = (m_parses ρ).1 ∧ ((g_parse v σ).2 = -1 → k_Cd ((g_parse v σ).1 116 3).toNat (g_parse v σ).1 (m_parses ρ).2 ∧ (m_parses ρ).2 123 29 = (g_parse v σ).1 116 3) ∧ k_Rp (g_parse v σ).1 σ ∧ k_Mp (m_parses ρ).2 ρ ∧ (g_parse v σ).2 ≤ 60 := by
  have hP2 : k_PI sh (u_count (u_at σ 0) 0) v w := k_PI_count (k_PI_at hP ⟨Int.le_refl 0, Int.le_trans hP.2.1.1 hP.2.1.2⟩) 0
  have hRp : k_Rp (u_count (u_at σ 0) 0) σ := k_Rp_tr (k_Rp_count _) (k_Rp_at _)
  have hMp : k_Mp (k_up ρ 123 (k_u1 (ρ 123) 29 0)) ρ := ⟨fun i h _ _ _ => k_up_ne h, fun j h _ => by
    rw [k_up_same]
    exact if_neg h⟩
  have e4 : u_count (u_at σ 0) 0 116 4 = 0 := (u_count_4 _).trans (u_at_4 _)
  have h := q_pa (sh := sh) (v := v) (w := w) ρ 11 0 (u_count (u_at σ 0) 0) (k_up ρ 123 (k_u1 (ρ 123) 29 0)) rfl hP2 (k_Tx_p hT hP.2.2.2.2.2.2.1 hRp hMp) (u_count_3 _) (by rw [k_up_same]; exact if_pos rfl) (by rw [e4]; decide) (by rw [hRp.1 117 (by decide) (by decide) (by decide)]; exact h60) (fun i hi => absurd hi (Nat.not_lt_zero i))
  rw [e4] at h
  exact ⟨h.1, h.2.1, k_Rp_tr h.2.2.1 hRp, k_Mp_tr h.2.2.2.1 hMp, h.2.2.2.2⟩
/-- a command's unread numbers don't matter -/
theorem m_acts_al {m : Nat} (hm : m < 12) {a b c a' b' c' : Int} (h0 : 0 < n_cnt m (k_len m) 0 → a = a') (h1 : 1 < n_cnt m (k_len m) 0 → b = b') (h2 : 2 < n_cnt m (k_len m) 0 → c = c') (υ : Nat → Nat → Int) : m_acts υ (m : Int) a b c = m_acts υ (m : Int) a' b' c' := by
  have hk : ∀ k : Nat, (m : Int) = (k : Int) → m = k := fun k h => by omega
  unfold m_acts
  refine ite_congr rfl (fun h => ?_) (fun _ => ?_)
  · have e := hk 0 h
    subst e
    rw [h0 (by decide +kernel)]
  refine ite_congr rfl (fun h => ?_) (fun _ => ?_)
  · have e := hk 1 h
    subst e
    rw [h0 (by decide +kernel)]
  refine ite_congr rfl (fun h => ?_) (fun _ => ?_)
  · have e := hk 2 h
    subst e
    rw [h0 (by decide +kernel), h1 (by decide +kernel)]
  refine ite_congr rfl (fun h => ?_) (fun _ => ?_)
  · have e := hk 3 h
    subst e
    rw [h0 (by decide +kernel), h1 (by decide +kernel)]
  refine ite_congr rfl (fun h => ?_) (fun _ => ?_)
  · have e := hk 4 h
    subst e
    rfl
  refine ite_congr rfl (fun h => ?_) (fun _ => ?_)
  · have e := hk 5 h
    subst e
    rw [h0 (by decide +kernel), h1 (by decide +kernel)]
  refine ite_congr rfl (fun h => ?_) (fun _ => ?_)
  · have e := hk 6 h
    subst e
    rw [h0 (by decide +kernel), h1 (by decide +kernel)]
  refine ite_congr rfl (fun h => ?_) (fun _ => ?_)
  · have e := hk 7 h
    subst e
    rw [h0 (by decide +kernel)]
  refine ite_congr rfl (fun h => ?_) (fun _ => ?_)
  · have e := hk 8 h
    subst e
    rw [h0 (by decide +kernel), h1 (by decide +kernel)]
  refine ite_congr rfl (fun h => ?_) (fun _ => ?_)
  · have e := hk 9 h
    subst e
    rw [h0 (by decide +kernel), h1 (by decide +kernel)]
  refine ite_congr rfl (fun h => ?_) (fun _ => ?_)
  · have e := hk 10 h
    subst e
    rw [h0 (by decide +kernel), h1 (by decide +kernel), h2 (by decide +kernel)]
  rfl
theorem k_Cd_Cm {N : Nat} (hN : N ≤ 12) (h : k_Cd N τ ρ) : k_Cm N τ ρ := by
  intro i hi υ
  obtain ⟨m, h1, h2, h3, h4⟩ := h i hi
  have em : f_cm τ (i : Int) = (m : Int) := by
    unfold f_cm f_read
    rw [if_pos (by omega), Int.toNat_natCast]
    exact h2
  rw [em, h3]
  refine m_acts_al h1 (fun y => ?_) (fun y => ?_) (fun y => ?_) υ
  · unfold f_ca f_read
    rw [if_pos (by omega), show ((i : Int) * 3 + 0).toNat = 3 * i + 0 by omega]
    exact (h4 0 y).symm
  · unfold f_cb f_read
    rw [if_pos (by omega), show ((i : Int) * 3 + 1).toNat = 3 * i + 1 by omega]
    exact (h4 1 y).symm
  · unfold f_cc f_read
    rw [if_pos (by omega), show ((i : Int) * 3 + 2).toNat = 3 * i + 2 by omega]
    exact (h4 2 y).symm
end K_R42
