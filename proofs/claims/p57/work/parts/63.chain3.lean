/-! ===== CHAINS: the class's best chain is the model's ===== -/
section K_R7
variable {σ ρ : Nat → Nat → Int} {r : Nat → Int} {ro bu d0 : Nat → Int}
theorem g_dist_0 : ∀ n b : Nat, b < 4 → g_dist ro bu d0 n b = 0 → d0 b = 0
  | 0, b, _, h => h
  | n + 1, b, hb, h => by
    have e : g_dist ro bu d0 (n + 1) = g_measN ro bu ((n : Int) + 1) (g_dist ro bu d0 n) 4 := rfl
    have hv := (g_meas_val (ro := ro) (bu := bu) (g := g_dist ro bu d0 n) (m := (n : Int) + 1) (by omega) 4 b).1 hb
    rw [e] at h
    by_cases c : g_dist ro bu d0 n b = -1 ∧ ∃ t : Nat, t < 4 ∧ g_dist ro bu d0 n t = (n : Int) + 1 - 1 ∧ z_diff (ro b) (bu t) ≠ 0
    · have := hv.1 c
      omega
    · rw [hv.2 c] at h
      exact g_dist_0 n b hb h
theorem g_dist_W (h0 : ∀ b, b < 4 → d0 b = -1 ∨ d0 b = 0) : ∀ j b : Nat, b < 4 → g_dist ro bu d0 3 b = (j : Int) → k_Wk ro bu d0 j b
  | 0, b, hb, h => g_dist_0 3 b hb h
  | j + 1, b, hb, h => by
    have hI := g_dInv_dist (ro := ro) (bu := bu) h0 3 b hb
    rcases hI with q | q | q
    · omega
    · omega
    · obtain ⟨t, t1, t2, t3⟩ := g_next_iff.mp q.2.2
      exact ⟨t, t1, t3, g_dist_W h0 j t t1 (by omega)⟩
theorem q_chain {p s F : Int} (H1 : ∀ a t : Nat, a < 4 → t < 4 → (z_diff (ro a) (bu t) ≠ 0 ↔ m_mover (ρ 124) s (a : Int) (t : Int) ≠ -1)) (H2 : ∀ b : Nat, b < 4 → (d0 b = 0 ∧ (ρ 124 (17 + 4 * s + (b : Int)).toNat = 1 ∧ m_inClass (ρ 124) s (b : Int) < ρ 124 (10 + s).toNat)) ∨ (d0 b = -1 ∧ ¬ (ρ 124 (17 + 4 * s + (b : Int)).toNat = 1 ∧ m_inClass (ρ 124) s (b : Int) < ρ 124 (10 + s).toNat)))
    (H3 : ∀ b : Nat, b < 4 → ρ 124 (17 + 4 * s + (b : Int)).toNat = 1 → (z_bit F (b : Int) = true ↔ ρ 124 (105 + 4 * p + (b : Int)).toNat = -1)) (H4 : ∀ b : Nat, b < 4 → ρ 124 (17 + 4 * s + (b : Int)).toNat = 1 → (b : Int) < ρ 124 1) (H5 : ∀ a t : Nat, a < 4 → t < 4 → m_mover (ρ 124) s (a : Int) (t : Int) ≠ -1 → ρ 124 (17 + 4 * s + (a : Int)).toNat = 1) :
    (g_near (g_dist ro bu d0 3) F = -1 ∧ (m_findsChain ρ p s).1 = -1) ∨ ∃ e m : Nat, e < 4 ∧ m < 4 ∧ g_near (g_dist ro bu d0 3) F = (e : Int) ∧ g_dist ro bu d0 3 e = (m : Int) ∧ ∃ y : Nat → Int, (∀ k, k ≤ m → y k = g_path ro bu (g_dist ro bu d0 3) m e k) ∧ m_findsChain ρ p s = ((m : Int), k_up ρ 133 y) := by
  have h0 : ∀ b, b < 4 → d0 b = -1 ∨ d0 b = 0 := fun b hb => (H2 b hb).elim (fun z => Or.inr z.1) (fun z => Or.inl z.1)
  have hall := (g_dist_all (ro := ro) (bu := bu) h0 3).2
  have hsnd := g_dist_W (ro := ro) (bu := bu) h0
  have hinv := g_dInv_dist (ro := ro) (bu := bu) h0 3
  have hd00 := g_dist_0 (ro := ro) (bu := bu) (d0 := d0) 3
  have hns := g_near_spec (g_dist ro bu d0 3) F 4
  change (g_near _ F = -1 ∧ _) ∨ (∃ e : Nat, e < 4 ∧ g_near _ F = (e : Int) ∧ _) at hns
  generalize g_dist ro bu d0 3 = dd at hall hsnd hinv hd00 hns ⊢
  -- any chain begins at a candidate
  have hcl : ∀ m, m < 4 → ∀ c, m_chn (ρ 124) p s m c → (∀ j, j ≤ m → k_Wk ro bu d0 j (z_dg m c (m - j))) ∧ (∀ k, k < m → z_diff (ro (z_dg m c k)) (bu (z_dg m c (k + 1))) ≠ 0) ∧ z_bit F (z_dg m c 0 : Int) = true := by
    intro m hm c hc
    unfold m_chn at hc
    rw [z_isChain] at hc
    obtain ⟨⟨e1, e2, e3⟩, hst, hroom⟩ := hc
    have hopen : ∀ k, k ≤ m → ρ 124 (17 + 4 * s + (z_dg m c k : Int)).toNat = 1 := fun k hk => by
      cases k with
      | zero => exact e2
      | succ k => exact (hst k (by omega)).2.1
    have hedge : ∀ k, k < m → z_diff (ro (z_dg m c k)) (bu (z_dg m c (k + 1))) ≠ 0 := fun k hk => (H1 _ _ (z_dg_lt _ _ _) (z_dg_lt _ _ _)).mpr (hst k hk).2.2
    refine ⟨fun j => ?_, hedge, (H3 _ (z_dg_lt _ _ _) e2).mpr e3⟩
    induction j with
    | zero =>
      intro _
      rw [Nat.sub_zero]
      exact ((H2 _ (z_dg_lt m c m)).resolve_right fun z => z.2 ⟨hopen m (Nat.le_refl m), hroom⟩).1
    | succ j ih =>
      intro hj
      refine ⟨z_dg m c (m - j), z_dg_lt _ _ _, ?_, ih (by omega)⟩
      have := hedge (m - (j + 1)) (by omega)
      rwa [show m - (j + 1) + 1 = m - j by omega] at this
  have hcand : ∀ m, m < 4 → ∀ c, m_chn (ρ 124) p s m c → (z_bit F (z_dg m c 0 : Int) = true ∧ dd (z_dg m c 0) ≠ -1) ∧ dd (z_dg m c 0) ≤ m := by
    intro m hm c hc
    obtain ⟨w, -, f⟩ := hcl m hm c hc
    have h := hall m (z_dg m c 0) (by omega) (z_dg_lt _ _ _) (by have := w m (Nat.le_refl m); rwa [Nat.sub_self] at this)
    exact ⟨⟨f, by omega⟩, h.2⟩
  rcases hns with ⟨n1, n2⟩ | ⟨e, n1, n2, n3, n4, n5⟩
  · refine Or.inl ⟨n1, q_findNo fun m hm c _ hc => ?_⟩
    exact n2 _ (z_dg_lt m c 0) (hcand m hm c hc).1
  · right
    have hde : 0 ≤ dd e ∧ dd e ≤ 3 := by
      rcases hinv e n1 with q | q | q
      · exact absurd q n3.2
      · omega
      · exact ⟨by omega, q.2.1⟩
    obtain ⟨m, hme⟩ : ∃ m : Nat, dd e = (m : Int) := ⟨(dd e).toNat, by omega⟩
    have hm : m < 4 := by omega
    have hpok := g_path_ok (ro := ro) (bu := bu) (m := (m : Int)) (e := (e : Int)) hinv ⟨by omega, by omega⟩ (by rw [Int.toNat_natCast]; exact hme)
    have hp : ∀ k, k ≤ m → (g_path ro bu dd m e k).toNat < 4 ∧ (((g_path ro bu dd m e k).toNat : Nat) : Int) = g_path ro bu dd m e k ∧ dd (g_path ro bu dd m e k).toNat = (m : Int) - k := fun k hk => by
      have := hpok k (by omega)
      exact ⟨by omega, by omega, this.2⟩
    have hnx : ∀ k, k < m → ∃ t : Nat, t < 4 ∧ g_path ro bu dd m e (k + 1) = (t : Int) ∧ (dd t = (m : Int) - k - 1 ∧ z_diff (ro (g_path ro bu dd m e k).toNat) (bu t) ≠ 0) ∧ ∀ j : Nat, j < t → ¬ (dd j = (m : Int) - k - 1 ∧ z_diff (ro (g_path ro bu dd m e k).toNat) (bu j) ≠ 0) := fun k hk => by
      have h1 := (hpok (k + 1) (by omega)).1.1
      exact g_next_some (show g_next ro bu dd (g_path ro bu dd m e k) ((m : Int) - k - 1) ≠ -1 from fun z => by
        have : g_path ro bu dd m e (k + 1) = -1 := z
        omega)
    have hedge : ∀ k, k < m → z_diff (ro (g_path ro bu dd m e k).toNat) (bu (g_path ro bu dd m e (k + 1)).toNat) ≠ 0 := fun k hk => by
      obtain ⟨t, t1, t2, t3, -⟩ := hnx k hk
      rw [t2, Int.toNat_natCast]
      exact t3.2
    have hdg := z_dg_cd hm (f := fun k => (g_path ro bu dd m e k).toNat) (fun k hk => (hp k hk).1)
    have hroom := (H2 _ (hp m (Nat.le_refl m)).1).resolve_right fun z => by
      have h1 := hd00 _ (hp m (Nat.le_refl m)).1 (by rw [(hp m (Nat.le_refl m)).2.2]; omega)
      omega
    have hopen : ∀ k, k ≤ m → ρ 124 (17 + 4 * s + g_path ro bu dd m e k).toNat = 1 := fun k hk => by
      rw [← (hp k hk).2.1]
      by_cases q : k = m
      · subst q
        exact hroom.2.1
      · exact H5 _ _ (hp k hk).1 (hp (k + 1) (by omega)).1 ((H1 _ _ (hp k hk).1 (hp (k + 1) (by omega)).1).mp (hedge k (by omega)))
    have hchn : m_chn (ρ 124) p s m (z_cd m fun k => (g_path ro bu dd m e k).toNat) := by
      refine (z_isChain_cong (st' := fun k => g_path ro bu dd m e k) fun k hk => ?_).mpr ?_
      · show ((z_dg m _ k : Nat) : Int) = _
        rw [hdg.1 k hk]
        exact (hp k hk).2.1
      · rw [z_isChain]
        refine ⟨⟨?_, hopen 0 (Nat.zero_le m), ?_⟩, fun k hk => ⟨?_, hopen (k + 1) (by omega), ?_⟩, ?_⟩
        · have := H4 _ (hp 0 (Nat.zero_le m)).1 (by rw [(hp 0 (Nat.zero_le m)).2.1]; exact hopen 0 (Nat.zero_le m))
          rwa [(hp 0 (Nat.zero_le m)).2.1] at this
        · exact (H3 e n1 (hopen 0 (Nat.zero_le m))).mp n3.1
        · have := H4 _ (hp (k + 1) (by omega)).1 (by rw [(hp (k + 1) (by omega)).2.1]; exact hopen (k + 1) (by omega))
          rwa [(hp (k + 1) (by omega)).2.1] at this
        · have := (H1 _ _ (hp k (by omega)).1 (hp (k + 1) (by omega)).1).mp (hedge k hk)
          rwa [(hp k (by omega)).2.1, (hp (k + 1) (by omega)).2.1] at this
        · have := hroom.2.2
          rwa [(hp m (Nat.le_refl m)).2.1] at this
    obtain ⟨y, y1, y2⟩ := q_findYes (ρ := ρ) (p := p) (s := s) hm hdg.2 hchn (fun c hc hcc => by
      have hlex := z_lex hm (Nat.lt_trans hc hdg.2) (f := fun k => (g_path ro bu dd m e k).toNat) (fun k hk => (hp k hk).1) (fun k hk hpre => by
        obtain ⟨w, ed, f⟩ := hcl m hm c hcc
        have hc2 := hcand m hm c hcc
        cases k with
        | zero =>
          show e ≤ z_dg m c 0
          rcases Nat.lt_or_ge (z_dg m c 0) e with q | q
          · have := n5 _ q hc2.1
            omega
          · exact q
        | succ k =>
          obtain ⟨t, t1, t2, t3, t4⟩ := hnx k (by omega)
          have hk0 := hpre k (by omega)
          have h1 := ed k (by omega)
          rw [hk0] at h1
          have h2 := w (m - (k + 1)) (by omega)
          rw [show m - (m - (k + 1)) = k + 1 by omega] at h2
          have h3 := hall (m - (k + 1)) _ (by omega) (z_dg_lt m c (k + 1)) h2
          have h4 : dd (z_dg m c (k + 1)) = (m : Int) - k - 1 := by
            obtain ⟨j, hj⟩ : ∃ j : Nat, dd (z_dg m c (k + 1)) = (j : Int) := ⟨(dd (z_dg m c (k + 1))).toNat, by omega⟩
            have h5 := hsnd j _ (z_dg_lt m c (k + 1)) hj
            have h6 := hall (j + 1) (g_path ro bu dd m e k).toNat (by omega) (hp k (by omega)).1 ⟨_, z_dg_lt m c (k + 1), h1, h5⟩
            rw [(hp k (by omega)).2.2] at h6
            omega
          show (g_path ro bu dd m e (k + 1)).toNat ≤ _
          rw [t2, Int.toNat_natCast]
          rcases Nat.lt_or_ge (z_dg m c (k + 1)) t with q | q
          · exact absurd ⟨h4, h1⟩ (t4 _ q)
          · exact q)
      omega) (fun m' hm' c _ hcc => by
        have h1 := hcand m' (by omega) c hcc
        have h2 := n4 _ (z_dg_lt m' c 0) h1.1
        omega)
    refine ⟨e, m, n1, hm, n2, hme, y, fun k hk => ?_, y2⟩
    rw [y1 k hk, hdg.1 k hk]
    exact (hp k hk).2.1
end K_R7
