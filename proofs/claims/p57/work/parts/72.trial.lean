/-! ===== MOVES BY TRIAL, and the two askers of moves ===== -/
section K_R16
variable {σ ρ τ : Nat → Nat → Int} {r : Nat → Int}
theorem z_any_iff {P : Nat → Bool} (n : Nat) : z_any n P = true ↔ ∃ i, i < n ∧ P i = true := by
  constructor
  · intro h
    by_cases q : ∃ i, i < n ∧ P i = true
    · exact q
    · have : z_any n P = false := z_any_f n fun j hj => by
        cases w : P j with
        | false => rfl
        | true => exact absurd ⟨j, hj, w⟩ q
      rw [this] at h
      cases h
  · rintro ⟨i, hi, hp⟩
    exact z_any_t hp n hi
theorem g_lead_W {s : Int} : ∀ (n a : Nat) (met : Int), a < 4 → g_lead σ s n (a : Int) met = true → k_Wk (u_few σ s 15) (u_few σ s 16) (u_lookN σ s 4 17) n a
  | 0, a, met, ha, h => by
    show u_lookN σ s 4 17 a = 0
    rw [u_look17 σ s a ha]
    exact if_pos h
  | n + 1, a, met, ha, h => by
    obtain ⟨t, t1, t2⟩ := (z_any_iff 4).mp (show z_any 4 _ = true from h)
    rw [Bool.and_eq_true, Bool.and_eq_true, decide_eq_true_eq] at t2
    refine ⟨t, t1, ?_, g_lead_W n t _ t1 t2.2.2⟩
    rw [u_few15 σ s a ha, u_few16 σ s t t1]
    exact t2.2.1
theorem g_lead_P {s : Int} {P : Nat → Int} {m : Nat} (h1 : ∀ k, k ≤ m → 0 ≤ P k ∧ P k < 4) (h2 : ∀ k l, k ≤ m → l ≤ m → P k = P l → k = l) (h3 : ∀ k, k ≤ m → z_bit (f_open σ s) (P k) = true) (h4 : ∀ k, k < m → z_diff (f_roster σ s (P k)) (f_busy σ (P (k + 1))) ≠ 0) (h5 : z_bit (f_roomy σ s 0) (P m) = true) : ∀ (n k : Nat) (met : Int), k + n = m → (∀ l, k < l → l ≤ m → z_bit met (P l) = false) → g_lead σ s n (P k) met = true
  | 0, k, met, e, _ => by
    have : k = m := by omega
    subst this
    exact h5
  | n + 1, k, met, e, hm => by
    have p1 := h1 (k + 1) (by omega)
    refine (z_any_iff 4).mpr ⟨(P (k + 1)).toNat, by omega, ?_⟩
    have ep : (((P (k + 1)).toNat : Nat) : Int) = P (k + 1) := by omega
    rw [ep, z_bit_diff, h3 (k + 1) (by omega), hm (k + 1) (by omega) (by omega), decide_eq_true (h4 k (by omega)), g_lead_P h1 h2 h3 h4 h5 n (k + 1) _ (by omega) fun l hl hl2 => ?_]
    · rfl
    · have pl := h1 l hl2
      rw [z_bit_or, hm l (by omega) hl2, z_bit_one p1.1 pl.1, decide_eq_false fun z => by have := h2 (k + 1) l (by omega) hl2 z; omega]
      rfl
theorem q_trial {p s F : Int} (hI : k_Ty σ) (h : k_lk (ρ 124) σ p s F) : f_trial σ s F = f_few σ s F := by
  have hd0 : ∀ b, b < 4 → u_lookN σ s 4 17 b = -1 ∨ u_lookN σ s 4 17 b = 0 := fun b hb => by
    rw [u_look17 σ s b hb]
    split
    · exact Or.inr rfl
    · exact Or.inl rfl
  have e17 : u_few σ s 17 = g_dist (u_few σ s 15) (u_few σ s 16) (u_lookN σ s 4 17) 3 := rfl
  have hall := (g_dist_all (ro := u_few σ s 15) (bu := u_few σ s 16) hd0 3).2
  have hns := g_near_spec (u_few σ s 17) F 4
  change (g_near _ F = -1 ∧ _) ∨ (∃ e : Nat, e < 4 ∧ g_near _ F = (e : Int) ∧ _) at hns
  have hw : ∀ m : Nat, m < 4 → z_any 4 (fun e => z_bit (z_and F (f_open σ s)) (e : Int) && g_lead σ s m (e : Int) (z_one (e : Int))) = true → ∃ e : Nat, e < 4 ∧ z_bit F (e : Int) = true ∧ 0 ≤ u_few σ s 17 e ∧ u_few σ s 17 e ≤ m := fun m hm h => by
    obtain ⟨e, e1, e2⟩ := (z_any_iff 4).mp h
    rw [Bool.and_eq_true, z_bit_and, Bool.and_eq_true] at e2
    have := hall m e (by omega) e1 (g_lead_W m e _ e1 e2.2)
    rw [← e17] at this
    exact ⟨e, e1, e2.1.1, this⟩
  rcases q_seek hI h with ⟨k1, -⟩ | ⟨e, m, he, hm, s1, s2, s3, -⟩
  · rw [k1]
    refine z_first_none _ fun m hm => ?_
    cases q : z_any 4 (fun e => z_bit (z_and F (f_open σ s)) (e : Int) && g_lead σ s m (e : Int) (z_one (e : Int))) with
    | false => rfl
    | true =>
      obtain ⟨e, e1, e2, e3, e4⟩ := hw m hm q
      rcases hns with ⟨n1, n2⟩ | ⟨e', n1, n2, n3, -⟩
      · exact absurd ⟨e2, by omega⟩ (n2 e e1)
      · exfalso
        unfold f_few at k1
        rw [n2] at k1
        have : f_read (u_few σ s 17) 4 (e' : Int) = u_few σ s 17 e' := (if_pos (show 0 ≤ (e' : Int) ∧ (e' : Int) < 4 by omega)).trans (by rw [Int.toNat_natCast])
        exact n3.2 (this.symm.trans k1)
  · rw [s2]
    have hinv := u_few_inv σ s
    have hpok := g_path_ok hinv (m := (m : Int)) (e := (e : Int)) ⟨by omega, by omega⟩ (by rw [Int.toNat_natCast]; exact s3)
    have hPd : ∀ k, k ≤ m → u_few σ s 17 (f_path σ s m e k).toNat = (m : Int) - k := fun k hk => (hpok k (by omega)).2
    have hP : ∀ k, k ≤ m → 0 ≤ f_path σ s m e k ∧ f_path σ s m e k < 4 := fun k hk => (hpok k (by omega)).1
    have hroom : z_bit (f_roomy σ s 0) (f_path σ s m e m) = true := by
      have p0 := hP m (Nat.le_refl m)
      have h0 := hPd m (Nat.le_refl m)
      have hb : (f_path σ s m e m).toNat < 4 := by omega
      have h00 := g_dist_0 (ro := u_few σ s 15) (bu := u_few σ s 16) (d0 := u_lookN σ s 4 17) 3 (f_path σ s m e m).toNat hb (show u_few σ s 17 (f_path σ s m e m).toNat = 0 by omega)
      rw [u_look17 σ s _ hb, show (((f_path σ s m e m).toNat : Nat) : Int) = f_path σ s m e m by omega] at h00
      by_cases w : z_bit (f_roomy σ s 0) (f_path σ s m e m) = true
      · exact w
      · rw [if_neg w] at h00
        cases h00
    have hedge : ∀ k, k < m → z_diff (f_roster σ s (f_path σ s m e k)) (f_busy σ (f_path σ s m e (k + 1))) ≠ 0 := fun k hk => by
      have p0 := hP k (by omega)
      have p1 := hP (k + 1) (by omega)
      have hne2 : g_next (u_few σ s 15) (u_few σ s 16) (u_few σ s 17) (f_path σ s m e k) ((m : Int) - (k : Int) - 1) ≠ -1 := fun z => by
        have : f_path σ s m e (k + 1) = -1 := z
        omega
      obtain ⟨t, t1, t2, t3, -⟩ := g_next_some hne2
      have e2 : f_path σ s m e (k + 1) = (t : Int) := t2
      have := t3.2
      rw [u_few15 σ s _ (by omega), u_few16 σ s t t1, show (((f_path σ s m e k).toNat : Nat) : Int) = f_path σ s m e k by omega] at this
      rw [e2]
      exact this
    have hopen : ∀ k, k ≤ m → z_bit (f_open σ s) (f_path σ s m e k) = true := fun k hk => by
      have p0 := hP k hk
      refine (h.2.2.2.2 _ p0).mp ?_
      by_cases q : k = m
      · subst q
        exact ((h.2.1 _ p0).mp hroom).1
      · have p1 := hP (k + 1) (by omega)
        refine h.2.2.2.1 _ _ p0 p1 ?_
        rw [← h.1 _ _ p0 p1]
        have := g_memb_r12 (x := z_diff (f_roster σ s (f_path σ s m e k)) (f_busy σ (f_path σ s m e (k + 1)))) ⟨z_diff_nn _ _, z_diff_lt 12 (f_roster_r hI _ _).2⟩ (hedge k (by omega))
        omega
    rcases hns with ⟨n1, n2⟩ | ⟨e', n1, n2, n3, n4, -⟩
    · omega
    · have : e' = e := by omega
      subst this
      refine z_first_some (i := m) ?_ (fun m' hm' => ?_) 4 hm
      · refine (z_any_iff 4).mpr ⟨e', he, ?_⟩
        have hl := g_lead_P hP (fun k l hk hl z => by
          have a := hPd k hk
          rw [z, hPd l hl] at a
          omega) hopen hedge hroom m 0 (z_one (e' : Int)) (by omega) fun l hl hl2 => by
            have pl := hP l hl2
            rw [z_bit_one (by omega) pl.1]
            refine decide_eq_false fun z => ?_
            have a := hPd l hl2
            rw [← z, Int.toNat_natCast, s3] at a
            omega
        have h0 := hopen 0 (Nat.zero_le m)
        rw [z_bit_and, n3.1]
        rw [show z_bit (f_open σ s) (e' : Int) = true from h0]
        exact hl
      · cases q : z_any 4 (fun e => z_bit (z_and F (f_open σ s)) (e : Int) && g_lead σ s m' (e : Int) (z_one (e : Int))) with
        | false => rfl
        | true =>
          obtain ⟨e2, f1, f2, f3, f4⟩ := hw m' (by omega) q
          have := n4 e2 f1 ⟨f2, by omega⟩
          omega
end K_R16
