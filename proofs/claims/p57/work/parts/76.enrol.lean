/-! ===== ENROLLING alike ===== -/
section K_R20
variable {σ ρ τ : Nat → Nat → Int} {r : Nat → Int}
theorem z_classes0 (r : Nat → Int) (p : Int) (h : m_classesOf r p ≤ 0) : ∀ b : Int, 0 ≤ b → b < 4 → r (105 + 4 * p + b).toNat = -1 := by
  have e : m_classesOf r p = z_sum 4 (fun i => if r (105 + 4 * p + (i : Int)).toNat = -1 then 0 else 1) := by
    unfold m_classesOf r_classesOf_4
    refine k_it_sum (f := b_classesOf_4 r p) (g := fun i => if r (105 + 4 * p + (i : Int)).toNat = -1 then 0 else 1) (fun i x => ?_) 4
    unfold b_classesOf_4
    split <;> rfl
  rw [e] at h
  have h : (((0 + (if r (105 + 4 * p + ((0 : Nat) : Int)).toNat = -1 then (0 : Int) else 1)) + (if r (105 + 4 * p + ((1 : Nat) : Int)).toNat = -1 then (0 : Int) else 1)) + (if r (105 + 4 * p + ((2 : Nat) : Int)).toNat = -1 then (0 : Int) else 1)) + (if r (105 + 4 * p + ((3 : Nat) : Int)).toNat = -1 then (0 : Int) else 1) ≤ 0 := h
  intro b b0 b4
  have hb : b = ((0 : Nat) : Int) ∨ b = ((1 : Nat) : Int) ∨ b = ((2 : Nat) : Int) ∨ b = ((3 : Nat) : Int) := by omega
  rcases hb with rfl | rfl | rfl | rfl <;> (refine Classical.byContradiction fun z => ?_) <;> rw [if_neg z] at h <;> (repeat' split at h) <;> omega
theorem q_use2 (hR : k_P1 r σ) (hI : k_Ty σ) {p : Int} (hp : 0 ≤ p ∧ p < σ 1 2) {i : Nat} (hi : i < 4) {b : Int} (hb : 0 ≤ b ∧ b < 4) (h : z_bit (u_roomy σ p 11 i) b = true) : z_bit (f_open σ (g_subj r p i)) b = true ∧ (i ≠ 3 → f_wish σ p (i : Int) = g_subj r p i) := by
  have hu := (q_use hR hI hp hi hb).mp h
  have hw := hR.2.2.1.1 p hp.1 hp.2
  rw [u_roomy11 σ p hi] at h
  unfold g_subj
  by_cases q : i = 3
  · rw [if_pos q] at h ⊢
    rw [hw.2.1]
    exact ⟨((z_roomyN σ _ (z_one p) b hb.1 (σ 1 1).toNat).mp h).2.1, fun y => absurd q y⟩
  · rw [if_neg q] at h ⊢
    unfold f_useR at h
    have q2 : (i : Int) < σ 5 p.toNat := by
      have := hu.1.resolve_left q
      rwa [hw.1] at this
    rw [if_pos q2] at h
    have := q_wish hR hI hp (k := (i : Int)) ⟨by omega, q2⟩
    rw [← this.1]
    exact ⟨((z_roomyN σ _ (z_one p) b hb.1 (σ 1 1).toNat).mp h).2.1, fun _ => rfl⟩
/-- the subjects of a placement are different -/
theorem g_subj_ne (hR : k_P1 r σ) (hI : k_Ty σ) {p : Int} (hp : 0 ≤ p ∧ p < σ 1 2) {k l : Nat} (hkl : k < l) (hl : l < 4) (h1 : k = 3 ∨ (k : Int) < r (45 + p).toNat) (h2 : l = 3 ∨ (l : Int) < r (45 + p).toNat) : g_subj r p k ≠ g_subj r p l := by
  have hw := hR.2.2.1.1 p hp.1 hp.2
  have h1 : (k : Int) < σ 5 p.toNat := by
    rw [← hw.1]
    exact h1.resolve_left (by omega)
  have e1 := hR.2.2.1.2.1 p (k : Int) hp.1 hp.2 (by omega) h1
  unfold g_subj
  rw [if_neg (show ¬ k = 3 by omega), e1.1]
  by_cases q : l = 3
  · rw [if_pos q, hw.2.1]
    exact e1.2.2
  · rw [if_neg q]
    have h2 : (l : Int) < σ 5 p.toNat := by
      rw [← hw.1]
      exact h2.resolve_left q
    rw [(hR.2.2.1.2.1 p (l : Int) hp.1 hp.2 (by omega) h2).1]
    exact hR.2.2.1.2.2.1 p (k : Int) (l : Int) hp.1 hp.2 (by omega) (by omega) h2
def g_enS (σ : Nat → Nat → Int) (p : Int) (B : Nat → Int) (i : Nat) (τ : Nat → Nat → Int) : Nat → Nat → Int := if i = 3 then u_enter τ p (σ 7 p.toNat) (B 3) else if (i : Int) < σ 5 p.toNat then u_enter τ p (f_wish σ p (i : Int)) (B i) else τ
def g_enM (p : Int) (a : Nat → Int) (i : Nat) (x : Nat → Int) : Nat → Int := if a i < 4 then if (i : Int) = 3 then k_u1 x ((105 + (4 * p)) + a i).toNat (x (93 + p).toNat) else k_u1 x ((105 + (4 * p)) + a i).toNat (x (57 + 3 * p + (i : Int)).toNat) else x
theorem u_enter_no {p s b : Int} (h : b < 0) : u_enter τ p s b = τ := if_neg fun y => by omega
theorem q_enr (hR : k_P1 r σ) (hI : k_Ty σ) {p : Int} (hp : 0 ≤ p ∧ p < σ 1 2) {a B : Nat → Int} (ha : ∀ k, k < 4 → (0 ≤ a k ∧ a k ≤ 4) ∧ B k = g_dg (a k)) (h0 : ∀ b : Int, 0 ≤ b → b < 4 → r (105 + 4 * p + b).toNat = -1) (hτ : k_PlEq τ σ) : ∀ n : Nat, n ≤ 4 → ∀ t sc : Int, k_for (b_worth_7 r a p) n 0 (0, 0) = .inr (t, sc) → k_P1 (k_it (g_enM p a) n 0 r) (k_fold n (g_enS σ p B) τ) ∧ k_Ty (k_fold n (g_enS σ p B) τ) ∧ (∀ i, i ≠ 4 → k_fold n (g_enS σ p B) τ i = τ i) ∧ (∀ j, j < 105 → k_it (g_enM p a) n 0 r j = r j) ∧ (∀ b : Int, 0 ≤ b → b < 4 → z_bit t b = false → k_it (g_enM p a) n 0 r (105 + 4 * p + b).toNat = -1) ∧ ∀ b : Int, 0 ≤ b → b < 4 → k_it (g_enM p a) n 0 r (105 + 4 * p + b).toNat = -1 ∨ ∃ k, k < n ∧ (k = 3 ∨ (k : Int) < r (45 + p).toNat) ∧ k_it (g_enM p a) n 0 r (105 + 4 * p + b).toNat = g_subj r p k
  | 0, _, t, sc, _ => by
    refine ⟨?_, hτ.ty hI, fun _ _ => rfl, fun _ _ => rfl, fun b b0 b4 _ => h0 b b0 b4, fun b b0 b4 => Or.inl (h0 b b0 b4)⟩
    show k_P1 r τ
    unfold k_P1
    rw [hτ 1 (by decide), hτ 2 (by decide), hτ 3 (by decide), hτ 4 (by decide), hτ 5 (by decide), hτ 6 (by decide), hτ 7 (by decide), hτ 8 (by decide), hτ 9 (by decide)]
    exact hR
  | n + 1, hn, t, sc, h => by
    rw [k_for_succ, Nat.zero_add] at h
    cases hx : k_for (b_worth_7 r a p) n 0 (0, 0) with
    | inl v =>
      rw [hx] at h
      cases h
    | inr y =>
      obtain ⟨t', sc'⟩ := y
      rw [hx] at h
      have h : b_worth_7 r a p n (t', sc') = .inr (t, sc) := h
      obtain ⟨i1, i2, i3, i4, i5, i6⟩ := q_enr hR hI hp ha h0 hτ n (by omega) t' sc' hx
      have han := (ha n (by omega)).1
      have hBn := (ha n (by omega)).2
      rw [q_worth_step hR hI hp (by omega) han] at h
      rw [k_it_succ, Nat.zero_add]
      have eF : k_fold (n + 1) (g_enS σ p B) τ = g_enS σ p B n (k_fold n (g_enS σ p B) τ) := rfl
      rw [eF]
      have hP := hI.2.2.1
      generalize k_it (g_enM p a) n 0 r = x at i1 i4 i5 i6 ⊢
      generalize k_fold n (g_enS σ p B) τ = υ at i1 i2 i3 ⊢
      by_cases q : a n = 4
      · rw [if_pos q] at h
        have et : t' = t := congrArg Prod.fst (Sum.inr.inj h)
        subst et
        have e1 : g_enM p a n x = x := if_neg (by omega)
        have hB : B n = -1 := by
          rw [hBn, q]
          rfl
        have e2 : g_enS σ p B n υ = υ := by
          unfold g_enS
          by_cases q3 : n = 3
          · subst q3
            rw [if_pos rfl]
            exact u_enter_no (by omega)
          · rw [if_neg q3]
            split
            · exact u_enter_no (by omega)
            · rfl
        rw [e1, e2]
        exact ⟨i1, i2, i3, i4, i5, fun b b0 b4 => (i6 b b0 b4).imp id fun ⟨k, k1, k2⟩ => ⟨k, by omega, k2⟩⟩
      · rw [if_neg q] at h
        by_cases hb : z_bit (z_diff (u_roomy σ p 11 n) t') (a n) = true
        · rw [if_pos hb] at h
          have et : z_or t' (z_one (a n)) = t := congrArg Prod.fst (Sum.inr.inj h)
          subst et
          rw [z_bit_diff, Bool.and_eq_true, Bool.not_eq_true'] at hb
          have hab : 0 ≤ a n ∧ a n < 4 := by omega
          have hu := (q_use hR hI hp (i := n) (by omega) hab).mp hb.1
          obtain ⟨hop, hwi⟩ := q_use2 hR hI hp (i := n) (by omega) hab hb.1
          have hs := (q_openB hR hab.1 hop).1
          have hB : B n = a n := by
            rw [hBn]
            exact if_neg q
          have eM : g_enM p a n x = k_u1 x (105 + 4 * p + a n).toNat (g_subj r p n) := by
            unfold g_enM g_subj
            rw [if_pos hab.2]
            by_cases q3 : n = 3
            · subst q3
              rw [if_pos (show ((3 : Nat) : Int) = 3 from rfl), if_pos rfl, i4 _ (by omega)]
            · have hk : (n : Int) < r (45 + p).toNat := hu.1.resolve_left q3
              rw [if_neg (show ¬ (n : Int) = 3 by omega), if_neg q3, i4 _ (by omega)]
          have eS : g_enS σ p B n υ = u_enter υ p (g_subj r p n) (a n) := by
            unfold g_enS
            by_cases q3 : n = 3
            · subst q3
              rw [if_pos rfl, hB]
              unfold g_subj
              rw [if_pos rfl, (hR.2.2.1.1 p hp.1 hp.2).2.1]
            · have hk : (n : Int) < r (45 + p).toNat := hu.1.resolve_left q3
              rw [(hR.2.2.1.1 p hp.1 hp.2).1] at hk
              rw [if_neg q3, if_pos hk, hB, hwi q3]
          have v1 : υ 1 = σ 1 := (i3 1 (by decide)).trans (hτ 1 (by decide))
          have v3 : υ 3 = σ 3 := (i3 3 (by decide)).trans (hτ 3 (by decide))
          rw [eM, eS]
          have hne : ∀ c : Int, 0 ≤ c → c < 4 → x (105 + 4 * p + c).toNat ≠ g_subj r p n := fun c c0 c4 z => by
            rcases i6 c c0 c4 with w | ⟨k, k1, k2, k3⟩
            · exact hu.2.1 (z.symm.trans w)
            · exact g_subj_ne hR hI hp k1 (by omega) k2 hu.1 (k3.symm.trans z)
          have hfo : f_open υ (g_subj r p n) = f_open σ (g_subj r p n) := by
            unfold f_open
            rw [v1, v3]
          have n1 := q_enter i1 i2 (p := p) (s := g_subj r p n) (b := a n) (by rw [v1]; exact hp) (by rw [v1]; exact hs) hab (i5 _ hab.1 hab.2 hb.2) hne (by rw [hfo]; exact hop)
          refine ⟨n1, u_enter_ty i2 ⟨hp.1, by omega⟩, fun i hi => (u_enter_ne hi).trans (i3 i hi), fun j hj => (if_neg (by omega)).trans (i4 j hj), fun b b0 b4 hz => ?_, fun b b0 b4 => ?_⟩
          · rw [z_bit_or, Bool.or_eq_false_iff, z_bit_one hab.1 b0] at hz
            have : a n ≠ b := of_decide_eq_false hz.2
            exact (if_neg (by omega)).trans (i5 b b0 b4 hz.1)
          · by_cases e : b = a n
            · refine Or.inr ⟨n, by omega, hu.1, if_pos (by rw [e])⟩
            · have e4 : k_u1 x (105 + 4 * p + a n).toNat (g_subj r p n) (105 + 4 * p + b).toNat = x (105 + 4 * p + b).toNat := if_neg (by omega)
              rw [e4]
              exact (i6 b b0 b4).imp id fun ⟨k, k1, k2⟩ => ⟨k, by omega, k2⟩
        · rw [if_neg hb] at h
          cases h
theorem k_fold_cond {α : Type} (F : Nat → α → α) (x : α) (m : Nat) : ∀ n : Nat, m ≤ n → k_fold n (fun i y => if (i : Int) < (m : Int) then F i y else y) x = k_fold m F x := by
  have low : ∀ j : Nat, j ≤ m → k_fold j (fun i y => if (i : Int) < (m : Int) then F i y else y) x = k_fold j F x := fun j hj => k_fold_cong j fun i hi y => if_pos (by omega)
  intro n
  induction n with
  | zero =>
    intro h
    have : m = 0 := by omega
    subst this
    rfl
  | succ n ih =>
    intro h
    by_cases e : m = n + 1
    · rw [← e]
      exact low m (Nat.le_refl m)
    · show (if (n : Int) < (m : Int) then F n _ else k_fold n (fun i y => if (i : Int) < (m : Int) then F i y else y) x) = _
      rw [if_neg (by omega)]
      exact ih (by omega)
theorem q_o_enrol (hR : k_P1 (ρ 124) σ) (hI : k_Ty σ) (p : Int) : k_op (e_enrol σ p) ((f_best (u_roomy σ p)).2.2 / 2) (u_give σ p) ρ (m_enrolNow ρ p) := by
  unfold e_enrol m_enrolNow
  rw [hR.2.1.1.2.2]
  by_cases h : 0 ≤ p ∧ p < σ 1 2
  · rw [if_pos h, if_pos h, q_lessons hR hI h, (hR.2.2.1.1 p h.1 h.2).1]
    have h5 := hI.2.2.2.2.2.2.1 p.toNat
    by_cases q : m_classesOf (ρ 124) p ≤ 0
    · rw [if_pos q]
      by_cases q2 : σ 5 p.toNat = 0
      · rw [if_pos (show _ ∨ _ from Or.inr (by omega)), if_pos q2]
        exact k_op_no (by decide)
      · rw [if_neg (show ¬ (_ ∨ _) by omega), if_neg q2]
        obtain ⟨b0, b1, a, b2, b3⟩ := q_best hR hI h
        have e124 : (m_findsPlacement ρ p) 124 = ρ 124 := (m_findsPlacement_out ρ p).1 124 (by decide) (by decide) (by decide)
        have e123 : (m_findsPlacement ρ p) 123 8 = ρ 123 8 := (m_findsPlacement_out ρ p).2 8 (by decide)
        have hst : ∃ t sc, k_for (b_worth_7 (ρ 124) a p) 4 0 (0, 0) = .inr (t, sc) := by
          cases hx : k_for (b_worth_7 (ρ 124) a p) 4 0 (0, 0) with
          | inr x => exact ⟨x.1, x.2, rfl⟩
          | inl v =>
            exfalso
            have hv : v = -1 := by
              have hall : ∀ m : Nat, m ≤ 4 → ∀ v, k_for (b_worth_7 (ρ 124) a p) m 0 (0, 0) = .inl v → v = -1 := fun m => by
                induction m with
                | zero => exact fun _ v hv => by cases hv
                | succ m ih =>
                  intro hm v hv
                  rw [k_for_succ, Nat.zero_add] at hv
                  cases hy : k_for (b_worth_7 (ρ 124) a p) m 0 (0, 0) with
                  | inl w =>
                    rw [hy] at hv
                    have : w = v := Sum.inl.inj hv
                    rw [← this]
                    exact ih (by omega) w hy
                  | inr y =>
                    rw [hy] at hv
                    have hv : b_worth_7 (ρ 124) a p m (y.1, y.2) = .inl v := hv
                    rw [q_worth_step hR hI h (by omega) (b2 m (by omega)).2.1] at hv
                    split at hv
                    · cases hv
                    · split at hv
                      · cases hv
                      · exact (Sum.inl.inj hv).symm
              exact hall 4 (Nat.le_refl 4) v hx
            have e : m_worth (ρ 124) a p = k_els (r_worth_7 (ρ 124) a p) (k_for (b_worth_7 (ρ 124) a p) 4 0 (0, 0)) := rfl
            rw [hx] at e
            have e : m_worth (ρ 124) a p = v := e
            omega
        obtain ⟨t, sc, hst⟩ := hst
        have hE := q_enr hR hI h (a := a) (B := (f_best (u_roomy σ p)).2.1) (fun k hk => ⟨(b2 k hk).2.1, (b2 k hk).1⟩) (z_classes0 _ p q) (show k_PlEq (u_best (u_roomy σ p)) σ from fun i hi => (u_best_pl i hi).trans (u_roomy_pl p i hi)) 4 (Nat.le_refl 4) t sc hst
        have eM : k_it (b_enrolNow_47 ρ p) 4 0 ((m_findsPlacement ρ p) 124) = k_it (g_enM p a) 4 0 (ρ 124) := by
          rw [e124]
          refine k_it_congr _ _ _ fun j x _ hj => ?_
          unfold b_enrolNow_47 g_enM
          rw [Int.toNat_natCast, (b2 j (by omega)).2.2]
        have eS : u_give σ p = k_fold 4 (g_enS σ p (f_best (u_roomy σ p)).2.1) (u_best (u_roomy σ p)) := by
          unfold u_give u_giveN
          have e4 : k_fold 4 (g_enS σ p (f_best (u_roomy σ p)).2.1) (u_best (u_roomy σ p)) = u_enter (k_fold 3 (g_enS σ p (f_best (u_roomy σ p)).2.1) (u_best (u_roomy σ p))) p (σ 7 p.toNat) ((f_best (u_roomy σ p)).2.1 3) := rfl
          rw [e4]
          have e3 := k_fold_cond (fun r τ => u_enter τ p (f_wish σ p (r : Int)) ((f_best (u_roomy σ p)).2.1 r)) (u_best (u_roomy σ p)) (σ 5 p.toNat).toNat 3 (by omega)
          rw [← e3]
          refine congrArg (fun z => u_enter z p (σ 7 p.toNat) ((f_best (u_roomy σ p)).2.1 3)) (k_fold_cong 3 fun i hi y => ?_)
          unfold g_enS
          rw [if_neg (show ¬ i = 3 by omega), show (((σ 5 p.toNat).toNat : Nat) : Int) = σ 5 p.toNat by omega]
        unfold r_enrolNow_47
        rw [eM, eS, b1]
        refine ⟨Or.inr ⟨rfl, Int.tdiv_eq_ediv_of_nonneg b0, ?_, ?_⟩, fun _ => ?_⟩
        · dsimp only
          rw [k_up_ne (by decide)]
          exact e123
        · dsimp only
          rw [k_up_same]
          exact hE.1
        · dsimp only
          rw [k_up_ne (by decide)]
          exact (m_findsPlacement_out ρ p).2 9 (by decide)
    · rw [if_neg q, if_pos (show _ ∨ _ from Or.inl (by omega))]
      exact k_op_no (by decide)
  · rw [if_neg h, if_neg h]
    exact k_op_no (by decide)
end K_R20
