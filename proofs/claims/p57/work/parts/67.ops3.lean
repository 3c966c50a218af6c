/-! ===== WISHES, RESERVES, LEAVING AND ENTERING ===== -/
section K_R11
variable {σ ρ τ : Nat → Nat → Int} {r : Nat → Int}
theorem q_no_wish (hR : k_P1 r σ) {p s : Int} (hp : 0 ≤ p ∧ p < σ 1 2) (h : ¬ m_isWish r p s = true) {k : Int} (h0 : 0 ≤ k) (h1 : k < σ 5 p.toNat) : σ 6 (p * 3 + k).toNat ≠ s := fun y => by
  refine h ((z_isWish r p s).mpr ⟨k.toNat, ?_, ?_⟩)
  · rw [(hR.2.2.1.1 p hp.1 hp.2).1]
    omega
  · rw [show ((k.toNat : Nat) : Int) = k by omega, (hR.2.2.1.2.1 p k hp.1 hp.2 h0 h1).1]
    exact y
theorem q_o_reserve (hR : k_P1 (ρ 124) σ) (hI : k_Ty σ) (p s : Int) : k_op (e_reserve σ p s) (σ 7 p.toNat) (k_up σ 7 (k_u1 (σ 7) p.toNat s)) ρ (m_setReserveNow ρ p s) := by
  unfold e_reserve m_setReserveNow
  have hn : ρ 124 0 = σ 1 0 := hR.2.1.1.1
  have hm : ρ 124 2 = σ 1 2 := hR.2.1.1.2.2
  have hP := hI.2.2.1
  have hS := hI.1
  rw [hn, hm]
  by_cases h : 0 ≤ p ∧ p < σ 1 2
  · rw [if_pos h]
    by_cases h2 : 0 ≤ s ∧ s < σ 1 0
    · rw [if_pos (show _ ∧ _ from ⟨h, h2⟩), if_pos h2]
      have hw := q_isWish hR hI h h2.1
      by_cases q : m_isWish (ρ 124) p s = true
      · rw [if_pos (show _ ∨ _ from Or.inl (hw.mpr q)), if_pos q]
        exact k_op_no (by decide)
      · rw [if_neg q, (hR.2.2.1.1 p h.1 h.2).2.1]
        by_cases q2 : σ 7 p.toNat = s
        · rw [if_pos (show _ ∨ _ from Or.inr q2), if_pos q2]
          exact k_op_no (by decide)
        · rw [if_neg (show ¬ (_ ∨ _) from fun y => y.elim (fun z => q (hw.mp z)) q2), if_neg q2]
          refine k_op_yes ?_
          have hnw := fun k h0 h1 => q_no_wish hR h q (k := k) h0 h1
          obtain ⟨hM, ho, ⟨w1, w2, w3, w4⟩, ht, hc⟩ := hR
          refine ⟨k_Mo_u hM (by omega), k_PRo_r ho hS.2 (k_al_u k_al_rf (by omega)) (k_al_u k_al_rf (by omega)), ⟨fun u u0 u1 => ?_, fun u k u0 u1 k0 k1 => ?_, w3, w4⟩, k_PRt_r ht hP.2 (k_al_u k_al_rf (by omega)), k_PRc_r hc hI.2.2.2.2.2.2.2.2.2.1.2 (k_al_u k_al_rf (by omega))⟩
          · have u1' : u < σ 1 2 := u1
            show k_u1 (ρ 124) (93 + p).toNat s (45 + u).toNat = σ 5 u.toNat ∧ k_u1 (ρ 124) (93 + p).toNat s (93 + u).toNat = k_u1 (σ 7) p.toNat s u.toNat ∧ k_u1 (σ 7) p.toNat s u.toNat < σ 1 0
            have := w1 u u0 u1
            refine ⟨(if_neg (by omega)).trans this.1, ?_⟩
            unfold k_u1
            by_cases e : u = p
            · subst e
              rw [if_pos rfl, if_pos rfl]
              exact ⟨rfl, h2.2⟩
            · rw [if_neg (by omega), if_neg (by omega)]
              exact this.2
          · have u1' : u < σ 1 2 := u1
            have k1' : k < σ 5 u.toNat := k1
            have h5 := hI.2.2.2.2.2.2.1 u.toNat
            show k_u1 (ρ 124) (93 + p).toNat s (57 + 3 * u + k).toNat = σ 6 (u * 3 + k).toNat ∧ σ 6 (u * 3 + k).toNat < σ 1 0 ∧ σ 6 (u * 3 + k).toNat ≠ k_u1 (σ 7) p.toNat s u.toNat
            have := w2 u k u0 u1 k0 k1
            refine ⟨(if_neg (by omega)).trans this.1, this.2.1, ?_⟩
            unfold k_u1
            by_cases e : u = p
            · subst e
              rw [if_pos rfl]
              exact hnw k k0 k1
            · rw [if_neg (by omega)]
              exact this.2.2
    · rw [if_neg (show ¬ (_ ∧ _) from fun y => h2 y.2), if_neg h2]
      exact k_op_no (by decide)
  · rw [if_neg h, if_neg (show ¬ (_ ∧ _) from fun y => h y.1)]
    exact k_op_no (by decide)
theorem q_o_wish (hR : k_P1 (ρ 124) σ) (hI : k_Ty σ) (p s : Int) : k_op (e_wish σ p s) (σ 5 p.toNat + 1) (u_newWish σ p s) ρ (m_addWishNow ρ p s) := by
  unfold e_wish e_reserve m_addWishNow
  have hn : ρ 124 0 = σ 1 0 := hR.2.1.1.1
  have hm : ρ 124 2 = σ 1 2 := hR.2.1.1.2.2
  have hP := hI.2.2.1
  have hS := hI.1
  rw [hn, hm]
  by_cases h : 0 ≤ p ∧ p < σ 1 2
  · rw [if_pos h]
    by_cases h2 : 0 ≤ s ∧ s < σ 1 0
    · rw [if_pos (show _ ∧ _ from ⟨h, h2⟩), if_pos h2]
      have hw := q_isWish hR hI h h2.1
      have h5 := hI.2.2.2.2.2.2.1 p.toNat
      rw [(hR.2.2.1.1 p h.1 h.2).1, (hR.2.2.1.1 p h.1 h.2).2.1]
      by_cases q : m_isWish (ρ 124) p s = true
      · rw [if_pos (show _ ∨ _ from Or.inl (hw.mpr q)), if_neg (show ¬ (3 : Int) = 0 by decide), if_pos q]
        split <;> exact k_op_no (by decide)
      · rw [if_neg q]
        by_cases q2 : σ 7 p.toNat = s
        · rw [if_pos (show _ ∨ _ from Or.inr q2), if_neg (show ¬ (3 : Int) = 0 by decide), if_pos q2]
          split <;> exact k_op_no (by decide)
        · rw [if_neg (show ¬ (_ ∨ _) from fun y => y.elim (fun z => q (hw.mp z)) q2), if_pos rfl, if_neg q2]
          by_cases q3 : σ 5 p.toNat = 3
          · rw [if_pos (by omega), if_pos q3]
            exact k_op_no (by decide)
          · rw [if_neg (by omega), if_neg q3]
            refine k_op_yes ?_
            have hnw := fun k h0 h1 => q_no_wish hR h q (k := k) h0 h1
            obtain ⟨hM, ho, ⟨w1, w2, w3, w4⟩, ht, hc⟩ := hR
            refine ⟨k_Mo_u (k_Mo_u hM (by omega)) (by omega), k_PRo_r ho hS.2 (k_al_u (k_al_u k_al_rf (by omega)) (by omega)) (k_al_u (k_al_u k_al_rf (by omega)) (by omega)), ⟨fun u u0 u1 => ?_, fun u k u0 u1 k0 k1 => ?_, fun u k l u0 u1 k0 kl k1 => ?_, fun j hj => ?_⟩, k_PRt_r ht hP.2 (k_al_u (k_al_u k_al_rf (by omega)) (by omega)), k_PRc_r hc hI.2.2.2.2.2.2.2.2.2.1.2 (k_al_u (k_al_u k_al_rf (by omega)) (by omega))⟩
            · have u1' : u < σ 1 2 := u1
              show k_u1 (k_u1 (ρ 124) ((57 + (3 * p)) + σ 5 p.toNat).toNat s) (45 + p).toNat (σ 5 p.toNat + 1) (45 + u).toNat = k_u1 (σ 5) p.toNat (σ 5 p.toNat + 1) u.toNat ∧ k_u1 (k_u1 (ρ 124) ((57 + (3 * p)) + σ 5 p.toNat).toNat s) (45 + p).toNat (σ 5 p.toNat + 1) (93 + u).toNat = σ 7 u.toNat ∧ σ 7 u.toNat < σ 1 0
              have := w1 u u0 u1
              refine ⟨?_, (if_neg (by omega)).trans ((if_neg (by omega)).trans this.2.1), this.2.2⟩
              unfold k_u1
              by_cases e : u = p
              · subst e
                rw [if_pos rfl, if_pos rfl]
              · rw [if_neg (by omega), if_neg (by omega), if_neg (by omega)]
                exact this.1
            · have u1' : u < σ 1 2 := u1
              have k1' : k < k_u1 (σ 5) p.toNat (σ 5 p.toNat + 1) u.toNat := k1
              show k_u1 (k_u1 (ρ 124) ((57 + (3 * p)) + σ 5 p.toNat).toNat s) (45 + p).toNat (σ 5 p.toNat + 1) (57 + 3 * u + k).toNat = k_u1 (σ 6) (p * 3 + σ 5 p.toNat).toNat s (u * 3 + k).toNat ∧ k_u1 (σ 6) (p * 3 + σ 5 p.toNat).toNat s (u * 3 + k).toNat < σ 1 0 ∧ k_u1 (σ 6) (p * 3 + σ 5 p.toNat).toNat s (u * 3 + k).toNat ≠ σ 7 u.toNat
              unfold k_u1 at k1' ⊢
              by_cases e : u = p
              · subst e
                rw [if_pos rfl] at k1'
                by_cases e2 : k = σ 5 u.toNat
                · rw [e2, if_neg (by omega), if_pos rfl, if_pos rfl]
                  exact ⟨rfl, h2.2, fun y => q2 y.symm⟩
                · have := w2 u k u0 u1 k0 (by omega)
                  rw [if_neg (by omega), if_neg (by omega), if_neg (by omega)]
                  exact this
              · rw [if_neg (by omega)] at k1'
                have := w2 u k u0 u1 k0 k1'
                have h5' := hI.2.2.2.2.2.2.1 u.toNat
                rw [if_neg (by omega), if_neg (by omega), if_neg (by omega)]
                exact this
            · have u1' : u < σ 1 2 := u1
              have k1' : l < k_u1 (σ 5) p.toNat (σ 5 p.toNat + 1) u.toNat := k1
              show k_u1 (σ 6) (p * 3 + σ 5 p.toNat).toNat s (u * 3 + k).toNat ≠ k_u1 (σ 6) (p * 3 + σ 5 p.toNat).toNat s (u * 3 + l).toNat
              unfold k_u1 at k1' ⊢
              by_cases e : u = p
              · subst e
                rw [if_pos rfl] at k1'
                rw [if_neg (show ¬ (u * 3 + k).toNat = (u * 3 + σ 5 u.toNat).toNat by omega)]
                by_cases e2 : l = σ 5 u.toNat
                · rw [e2, if_pos rfl]
                  exact hnw k k0 (by omega)
                · rw [if_neg (by omega)]
                  exact w3 u k l u0 u1 k0 kl (by omega)
              · rw [if_neg (by omega)] at k1'
                have h5' := hI.2.2.2.2.2.2.1 u.toNat
                rw [if_neg (by omega), if_neg (by omega)]
                exact w3 u k l u0 u1 k0 kl k1'
            · have hj' : σ 1 2 ≤ (j : Int) := hj
              show k_u1 (σ 5) p.toNat (σ 5 p.toNat + 1) j = 0
              exact (if_neg (by omega)).trans (w4 j hj)
    · rw [if_neg (show ¬ (_ ∧ _) from fun y => h2 y.2), if_neg (show ¬ (1 : Int) = 0 by decide), if_neg h2]
      exact k_op_no (by decide)
  · rw [if_neg h, if_neg (show ¬ (_ ∧ _) from fun y => h y.1), if_neg (show ¬ (1 : Int) = 0 by decide)]
    exact k_op_no (by decide)
theorem q_leave (hR : k_P1 r σ) (hI : k_Ty σ) {p s b : Int} (hp : 0 ≤ p ∧ p < σ 1 2) (hs : 0 ≤ s ∧ s < σ 1 0) (hb : 0 ≤ b ∧ b < σ 1 1) (hat : r (105 + 4 * p + b).toNat = s) : k_P1 (k_u1 r (105 + 4 * p + b).toNat (-1)) (u_leave σ p s b) := by
  have hP := hI.2.2.1
  have hS := hI.1
  have hB := hI.2.1
  unfold u_leave
  rw [if_pos (show _ ∧ _ from ⟨hs, hb⟩), f_roster_in ⟨⟨hs.1, by omega⟩, hb.1, by omega⟩]
  exact ⟨k_Mo_u hR.1 (by omega), k_PRo_r hR.2.1 hS.2 (k_al_u k_al_rf (by omega)) (k_al_u k_al_rf (by omega)), k_PRw_r hR.2.2.1 hP.2 (fun j => (hI.2.2.2.2.2.2.1 j).2) (k_al_u k_al_rf (by omega)), k_PRt_leave hR.2.2.2.1 hP.2 (fun j => (hI.2.2.2.2.2.1 j).1) hp ⟨hs.1, by omega⟩ ⟨hb.1, by omega⟩ hat, k_PRc_r hR.2.2.2.2 hI.2.2.2.2.2.2.2.2.2.1.2 (k_al_u k_al_rf (by omega))⟩
theorem q_enter (hR : k_P1 r σ) (hI : k_Ty σ) {p s b : Int} (hp : 0 ≤ p ∧ p < σ 1 2) (hs : 0 ≤ s ∧ s < σ 1 0) (hb : 0 ≤ b ∧ b < 4) (hfree : r (105 + 4 * p + b).toNat = -1) (hno : ∀ c : Int, 0 ≤ c → c < 4 → r (105 + 4 * p + c).toNat ≠ s) (hop : z_bit (f_open σ s) b = true) : k_P1 (k_u1 r (105 + 4 * p + b).toNat s) (u_enter σ p s b) := by
  have hP := hI.2.2.1
  have hS := hI.1
  have hB := q_openB hR hb.1 hop
  unfold u_enter
  rw [if_pos (show _ ∧ _ from ⟨hs, hb.1, hB.2⟩), f_roster_in ⟨⟨hs.1, by omega⟩, hb⟩]
  rw [f_open_in hs] at hop
  exact ⟨k_Mo_u hR.1 (by omega), k_PRo_r hR.2.1 hS.2 (k_al_u k_al_rf (by omega)) (k_al_u k_al_rf (by omega)), k_PRw_r hR.2.2.1 hP.2 (fun j => (hI.2.2.2.2.2.2.1 j).2) (k_al_u k_al_rf (by omega)), k_PRt_enter hR.2.2.2.1 hP.2 hp ⟨hs.1, by omega⟩ hb hfree hno hs.2 hop, k_PRc_r hR.2.2.2.2 hI.2.2.2.2.2.2.2.2.2.1.2 (k_al_u k_al_rf (by omega))⟩
/-- where a pupil attends a subject -/
theorem z_blockOf (r : Nat → Int) (p s : Int) : (m_blockOfSubject r p s = -1 ∧ ∀ c : Int, 0 ≤ c → c < 4 → r (105 + 4 * p + c).toNat ≠ s) ∨ ((0 ≤ m_blockOfSubject r p s ∧ m_blockOfSubject r p s < 4) ∧ r (105 + 4 * p + m_blockOfSubject r p s).toNat = s) := by
  have e : m_blockOfSubject r p s = z_first 4 (fun b => decide (r (105 + 4 * p + (b : Int)).toNat = s)) := k_for_first (P := fun b : Nat => r (105 + 4 * p + (b : Int)).toNat = s) _ rfl 4
  rcases z_first_spec (P := fun b : Nat => decide (r (105 + 4 * p + (b : Int)).toNat = s)) 4 with ⟨h1, h2⟩ | ⟨i, h1, h2, h3, h4⟩
  · refine Or.inl ⟨e.trans h1, fun c c0 c1 y => ?_⟩
    have := of_decide_eq_false (h2 c.toNat (by omega))
    rw [show ((c.toNat : Nat) : Int) = c by omega] at this
    exact this y
  · rw [e, h2]
    exact Or.inr ⟨⟨by omega, by omega⟩, of_decide_eq_true h3⟩
theorem q_o_quit (hR : k_P1 (ρ 124) σ) (hI : k_Ty σ) (p s : Int) : k_op (e_quit σ p s) (f_taken σ p s) (u_quit σ p s) ρ (m_quitNow ρ p s) := by
  unfold e_quit m_quitNow u_quit
  have hn : ρ 124 0 = σ 1 0 := hR.2.1.1.1
  have hm : ρ 124 2 = σ 1 2 := hR.2.1.1.2.2
  have hS := hI.1
  rw [hn, hm]
  by_cases h : 0 ≤ p ∧ p < σ 1 2
  · rw [if_pos h]
    by_cases h2 : 0 ≤ s ∧ s < σ 1 0
    · rw [if_pos (show _ ∧ _ from ⟨h, h2⟩), if_pos h2, ← q_taken hR hI h (s := s) ⟨h2.1, by omega⟩]
      by_cases q : f_taken σ p s = -1
      · rw [if_pos q, if_pos q]
        exact k_op_no (by decide)
      · rw [if_neg q, if_neg q]
        refine k_op_yes ?_
        have e := q_taken hR hI h (s := s) ⟨h2.1, by omega⟩
        rcases z_blockOf (ρ 124) p s with ⟨z, _⟩ | ⟨z, y⟩
        · exact absurd (e.trans z) q
        · rw [← e] at z y
          exact q_leave hR hI h h2 ⟨z.1, (q_tabS hR hI h z (by omega)).2⟩ y
    · rw [if_neg (show ¬ (_ ∧ _) from fun y => h2 y.2), if_neg h2]
      exact k_op_no (by decide)
  · rw [if_neg h, if_neg (show ¬ (_ ∧ _) from fun y => h y.1)]
    exact k_op_no (by decide)
theorem k_u1_self (f : Nat → Int) {j : Nat} {z : Int} (h : f j = z) : k_u1 f j z = f := funext fun i => by
  unfold k_u1
  split
  · rename_i e
    rw [e, h]
  · rfl
theorem u_leave_no {p s b : Int} (h : ¬ (0 ≤ s ∧ s < σ 1 0)) : u_leave σ p s b = σ := if_neg fun y => h y.1
theorem q_dropN (hR : k_P1 r σ) (hI : k_Ty σ) {p : Int} (hp : 0 ≤ p ∧ p < σ 1 2) : ∀ n : Nat, n ≤ (σ 1 1).toNat → k_P1 (k_it (fun (i : Nat) x => k_u1 x ((105 + (4 * p)) + (i : Int)).toNat (-1)) n 0 r) (u_dropN σ p n)
  | 0, _ => hR
  | n + 1, hn => by
    have ih := q_dropN hR hI hp n (by omega)
    have hB := hI.2.1
    have hT := u_dropN_ty hI p n
    have e1 : u_dropN σ p n 1 = σ 1 := u_dropN_ne p n (by decide)
    rw [k_it_succ, Nat.zero_add]
    have e2 : u_dropN σ p (n + 1) = u_leave (u_dropN σ p n) p (f_lesson (u_dropN σ p n) p (n : Int)) (n : Int) := rfl
    rw [e2]
    generalize k_it (fun (i : Nat) x => k_u1 x ((105 + (4 * p)) + (i : Int)).toNat (-1)) n 0 r = x at ih ⊢
    generalize u_dropN σ p n = τ at ih hT e1 ⊢
    have hp' : 0 ≤ p ∧ p < τ 1 2 := by rw [e1]; exact hp
    have hb : 0 ≤ (n : Int) ∧ (n : Int) < 4 := by omega
    rw [q_lesson ih hT hp' hb]
    by_cases q : x (105 + 4 * p + (n : Int)).toNat = -1
    · rw [q, u_leave_no (by omega), k_u1_self x q]
      exact ih
    · have := q_tabS ih hT hp' hb q
      exact q_leave ih hT hp' this.1 ⟨hb.1, this.2⟩ rfl
theorem k_it_split {α : Type} (f : Nat → α → α) (m : Nat) : ∀ (n i : Nat) (a : α), k_it f (n + m) i a = k_it f m (i + n) (k_it f n i a)
  | 0, i, a => by
    rw [Nat.zero_add]
    rfl
  | n + 1, i, a => by
    rw [show n + 1 + m = (n + m) + 1 by omega]
    show k_it f (n + m) (i + 1) (f i a) = k_it f m (i + (n + 1)) (k_it f n (i + 1) (f i a))
    rw [k_it_split f m n (i + 1) (f i a), show i + 1 + n = i + (n + 1) by omega]
theorem q_drop (hR : k_P1 r σ) (hI : k_Ty σ) {p : Int} (hp : 0 ≤ p ∧ p < σ 1 2) : k_P1 (k_it (fun (i : Nat) x => k_u1 x ((105 + (4 * p)) + (i : Int)).toNat (-1)) 4 0 r) (u_drop σ p) := by
  have hB := hI.2.1
  have h := q_dropN hR hI hp (σ 1 1).toNat (Nat.le_refl _)
  have hT := u_dropN_ty hI p (σ 1 1).toNat
  have e1 : u_dropN σ p (σ 1 1).toNat 1 = σ 1 := u_dropN_ne p _ (by decide)
  have e4 : 4 = (σ 1 1).toNat + (4 - (σ 1 1).toNat) := by omega
  rw [e4, k_it_split]
  change k_P1 _ (u_dropN σ p (σ 1 1).toNat)
  generalize k_it (fun (i : Nat) x => k_u1 x ((105 + (4 * p)) + (i : Int)).toNat (-1)) (σ 1 1).toNat 0 r = x at h ⊢
  generalize u_dropN σ p (σ 1 1).toNat = τ at h hT e1 ⊢
  have key : ∀ m i : Nat, i + m = 4 → (σ 1 1).toNat ≤ i → k_it (fun (i : Nat) x => k_u1 x ((105 + (4 * p)) + (i : Int)).toNat (-1)) m i x = x := by
    intro m
    induction m with
    | zero => exact fun _ _ _ => rfl
    | succ m ih =>
      intro i hi hb
      show k_it _ m (i + 1) (k_u1 x ((105 + (4 * p)) + (i : Int)).toNat (-1)) = x
      rw [k_u1_self x]
      · exact ih (i + 1) (by omega) (by omega)
      · rcases Int.lt_or_le (x ((105 + (4 * p)) + (i : Int)).toNat) 0 with z | z
        · have := q_tab h hT (p := p) (b := (i : Int)) (by rw [e1]; exact hp) ⟨by omega, by omega⟩
          omega
        · have := (q_tabS h hT (p := p) (b := (i : Int)) (by rw [e1]; exact hp) ⟨by omega, by omega⟩ (by omega)).2
          rw [e1] at this
          omega
  rw [key _ _ (by omega) (by omega)]
  exact h
theorem q_o_withdraw (hR : k_P1 (ρ 124) σ) (hI : k_Ty σ) (p : Int) : k_op (e_withdraw σ p) (f_lessons σ p) (u_drop σ p) ρ (m_withdrawNow ρ p) := by
  unfold e_withdraw m_withdrawNow
  have hm : ρ 124 2 = σ 1 2 := hR.2.1.1.2.2
  rw [hm]
  by_cases h : 0 ≤ p ∧ p < σ 1 2
  · rw [if_pos h, if_pos h, q_lessons hR hI h]
    by_cases q : m_classesOf (ρ 124) p = 0
    · rw [if_pos q, if_pos q]
      exact k_op_no (by decide)
    · rw [if_neg q, if_neg q]
      exact k_op_yes (q_drop hR hI h)
  · rw [if_neg h, if_neg h]
    exact k_op_no (by decide)
end K_R11
