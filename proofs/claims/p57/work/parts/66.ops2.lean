/-! ===== MORE SIMPLE CHANGES: classes, blocks, wishes, reserves, leaving ===== -/
section K_R10
variable {σ ρ τ : Nat → Nat → Int} {r : Nat → Int}
theorem k_for_all {R : Type} {f : Nat → Unit → R ⊕ Unit} : ∀ n i : Nat, (∀ j, i ≤ j → j < i + n → f j () = .inr ()) → k_for f n i () = .inr ()
  | 0, _, _ => rfl
  | n + 1, i, h => by
    show k_cn2 _ (f i ()) = _
    rw [h i (Nat.le_refl i) (by omega)]
    exact k_for_all n (i + 1) fun j h1 h2 => h j (by omega) (by omega)
theorem k_for_some {R : Type} {f : Nat → Unit → R ⊕ Unit} {v : R} : ∀ n i : Nat, (∀ j, i ≤ j → j < i + n → f j () = .inr () ∨ f j () = .inl v) → (∃ j, i ≤ j ∧ j < i + n ∧ f j () = .inl v) → k_for f n i () = .inl v
  | 0, i, _, ⟨j, h1, h2, _⟩ => by omega
  | n + 1, i, h, ⟨j, h1, h2, h3⟩ => by
    show k_cn2 _ (f i ()) = _
    rcases h i (Nat.le_refl i) (by omega) with z | z
    · rw [z]
      refine k_for_some n (i + 1) (fun j h1 h2 => h j (by omega) (by omega)) ⟨j, ?_, by omega, h3⟩
      by_cases e : j = i
      · rw [e, z] at h3
        cases h3
      · omega
    · rw [z]
      rfl
theorem k_up3_ty {s : Int} {w : Int} (hI : k_Ty σ) (hw : 0 ≤ w ∧ w < 16) : k_Ty (k_up σ 3 (k_u1 (σ 3) s.toNat w)) := by
  refine ⟨hI.1, hI.2.1, hI.2.2.1, hI.2.2.2.1, fun j => ?_, hI.2.2.2.2.2⟩
  show 0 ≤ k_u1 (σ 3) s.toNat w j ∧ k_u1 (σ 3) s.toNat w j < 16
  unfold k_u1
  split
  · exact hw
  · exact hI.2.2.2.2.1 j
theorem f_open_up {s w : Int} (hs : 0 ≤ s ∧ s < σ 1 0) : f_open (k_up σ 3 (k_u1 (σ 3) s.toNat w)) s = w := by
  unfold f_open
  rw [if_pos (show 0 ≤ s ∧ s < k_up σ 3 (k_u1 (σ 3) s.toNat w) 1 0 from hs)]
  exact if_pos rfl
theorem z_cntn_no {x : Int} : ∀ n : Nat, z_cntn x n = 0 → ∀ j : Nat, j < n → z_bit x (j : Int) = false
  | 0, _, j, hj => absurd hj (Nat.not_lt_zero j)
  | n + 1, h, j, hj => by
    rw [z_cntn_s] at h
    have h1 := (z_cntn_r x n).1
    have h2 : 0 ≤ zb (z_bit x (n : Int) = true) := by
      unfold zb
      split <;> decide
    by_cases e : j = n
    · subst e
      cases q : z_bit x (j : Int) with
      | false => rfl
      | true =>
        rw [q] at h
        have : zb (true = true) = 1 := if_pos rfl
        omega
    · exact z_cntn_no n (by omega) j (by omega)
theorem z_cnt_pos {x : Int} (h0 : 0 < x) (h1 : x < 4096) : 0 < z_cnt x := by
  rcases Int.lt_or_le 0 (z_cnt x) with z | z
  · exact z
  · exfalso
    have := (z_cnt_r x).1
    have hall := z_cntn_no (x := x) 16 (show z_cnt x = 0 by omega)
    have hx : x.toNat = 0 := Nat.eq_of_testBit_eq fun i => by
      rw [Nat.zero_testBit]
      by_cases q : i < 16
      · exact hall i q
      · refine Nat.testBit_lt_two_pow ?_
        have : 2 ^ 16 ≤ 2 ^ i := Nat.pow_le_pow_right (by decide) (by omega)
        omega
    omega
theorem q_o_openClass (hR : k_P1 (ρ 124) σ) (hI : k_Ty σ) (s b : Int) : k_op (e_open σ s b) (z_cnt (z_or (f_open σ s) (z_one b))) (k_up σ 3 (k_u1 (σ 3) s.toNat (z_or (f_open σ s) (z_one b)))) ρ (m_openClassNow ρ s b) := by
  unfold e_open m_openClassNow
  have hn : ρ 124 0 = σ 1 0 := hR.2.1.1.1
  have hm : ρ 124 1 = σ 1 1 := hR.2.1.1.2.1
  have hB := hI.2.1
  rw [hn, hm]
  by_cases h : 0 ≤ s ∧ s < σ 1 0
  · rw [if_pos h]
    by_cases h2 : 0 ≤ b ∧ b < σ 1 1
    · rw [if_pos (show _ ∧ _ from ⟨h, h2⟩), if_pos h2]
      have ho := q_hasOpen hR h (b := b) ⟨h2.1, by omega⟩
      by_cases q : z_bit (f_open σ s) b = true
      · rw [if_pos q, if_pos (ho.mpr q)]
        exact k_op_no (by decide)
      · rw [if_neg q, if_neg fun y => q (ho.mp y)]
        have hP : k_P1 (k_u1 (ρ 124) (17 + 4 * s + b).toNat 1) (k_up σ 3 (k_u1 (σ 3) s.toNat (z_or (f_open σ s) (z_one b)))) := q_o_opened hR hI h h2 (Or.inr rfl) (fun c c0 => by
          rw [z_bit_or, z_bit_one h2.1 c0]
          by_cases e : c = b
          · rw [if_pos e, decide_eq_true e.symm, Bool.or_true]
            rfl
          · rw [if_neg e, decide_eq_false (fun y => e y.symm), Bool.or_false]) fun y => by omega
        have hT := k_up3_ty (s := s) hI (w := z_or (f_open σ s) (z_one b)) ⟨z_or_nn _ _, z_or_lt 4 (f_open_r hI s).2 (z_one_lt 4 (by omega) h2.1)⟩
        have e := q_openOf hP hT (s := s) h
        rw [f_open_up h] at e
        rw [e]
        exact k_op_yes hP
    · rw [if_neg (show ¬ (_ ∧ _) from fun y => h2 y.2), if_neg h2]
      exact k_op_no (by decide)
  · rw [if_neg h, if_neg (show ¬ (_ ∧ _) from fun y => h y.1)]
    exact k_op_no (by decide)
theorem q_o_closeClass (hR : k_P1 (ρ 124) σ) (hI : k_Ty σ) (s b : Int) : k_op (e_close σ s b) (z_cnt (z_diff (f_open σ s) (z_one b))) (k_up σ 3 (k_u1 (σ 3) s.toNat (z_diff (f_open σ s) (z_one b)))) ρ (m_closeClassNow ρ s b) := by
  unfold e_close m_closeClassNow
  have hn : ρ 124 0 = σ 1 0 := hR.2.1.1.1
  have hm : ρ 124 1 = σ 1 1 := hR.2.1.1.2.1
  have hB := hI.2.1
  have hS := hI.1
  rw [hn, hm]
  by_cases h : 0 ≤ s ∧ s < σ 1 0
  · rw [if_pos h]
    by_cases h2 : 0 ≤ b ∧ b < σ 1 1
    · rw [if_pos (show _ ∧ _ from ⟨h, h2⟩), if_pos h2]
      have ho := q_hasOpen hR h (b := b) ⟨h2.1, by omega⟩
      by_cases q : z_bit (f_open σ s) b = true
      · rw [if_pos (ho.mpr q)]
        have hc := q_inClass hR hI (s := s) (b := b) ⟨h.1, by omega⟩ ⟨h2.1, by omega⟩
        have hz : f_roster σ s b = 0 ↔ m_inClass (ρ 124) s b ≤ 0 := by
          rw [← hc]
          constructor
          · intro y
            rw [y]
            decide
          · intro y
            have hr := f_roster_r hI s b
            rcases Int.lt_or_le 0 (f_roster σ s b) with z | z
            · exfalso
              have := z_cnt_pos z (by omega)
              omega
            · omega
        by_cases q2 : f_roster σ s b = 0
        · rw [if_pos (show _ ∧ _ from ⟨q, q2⟩), if_pos (hz.mp q2)]
          have hP : k_P1 (k_u1 (ρ 124) (17 + 4 * s + b).toNat 0) (k_up σ 3 (k_u1 (σ 3) s.toNat (z_diff (f_open σ s) (z_one b)))) := q_o_opened hR hI h h2 (Or.inl rfl) (fun c c0 => by
            rw [z_bit_diff, z_bit_one h2.1 c0]
            by_cases e : c = b
            · rw [if_pos e, decide_eq_true e.symm]
              simp
            · rw [if_neg e, decide_eq_false (fun y => e y.symm)]
              simp) fun _ => q2
          have hT := k_up3_ty (s := s) hI (w := z_diff (f_open σ s) (z_one b)) ⟨z_diff_nn _ _, z_diff_lt 4 (f_open_r hI s).2⟩
          have e := q_openOf hP hT (s := s) h
          rw [f_open_up h] at e
          rw [e]
          exact k_op_yes hP
        · rw [if_neg (show ¬ (_ ∧ _) from fun y => q2 y.2), if_neg fun y => q2 (hz.mpr y)]
          exact k_op_no (by decide)
      · rw [if_neg (show ¬ (_ ∧ _) from fun y => q y.1), if_neg fun y => q (ho.mp y)]
        exact k_op_no (by decide)
    · rw [if_neg (show ¬ (_ ∧ _) from fun y => h2 y.2), if_neg h2]
      exact k_op_no (by decide)
  · rw [if_neg h, if_neg (show ¬ (_ ∧ _) from fun y => h y.1)]
    exact k_op_no (by decide)
theorem z_hi {x c : Int} (hx : 0 ≤ x ∧ x < 16) (hc : 1 ≤ c ∧ c ≤ 4) : x / z_one c = 0 ↔ ∀ b : Int, c ≤ b → b < 4 → z_bit x b = false := by
  obtain ⟨n, rfl⟩ : ∃ n : Nat, x = (n : Int) := ⟨x.toNat, by omega⟩
  obtain ⟨d, rfl⟩ : ∃ d : Nat, c = (d : Int) := ⟨c.toNat, by omega⟩
  have key : ∀ n : Fin 16, ∀ d : Fin 5, 1 ≤ d.val → ((((n.val : Nat) : Int) / z_one (d.val : Int) = 0) ↔ ∀ b : Fin 4, d.val ≤ b.val → z_bit (n.val : Int) (b.val : Int) = false) := by decide +kernel
  have k := key ⟨n, by omega⟩ ⟨d, by omega⟩ (show 1 ≤ d by omega)
  rw [show ((n : Int) / z_one (d : Int) = 0) ↔ _ from k]
  constructor
  · intro h b h1 h2
    have := h ⟨b.toNat, by omega⟩ (show d ≤ b.toNat by omega)
    rwa [show (((⟨b.toNat, by omega⟩ : Fin 4).val : Nat) : Int) = b from (show ((b.toNat : Nat) : Int) = b by omega)] at this
  · intro h b h1
    exact h (b.val : Int) (Int.ofNat_le.mpr h1) (Int.ofNat_lt.mpr b.isLt)
theorem q_o_setBlocks (hR : k_P1 (ρ 124) σ) (hI : k_Ty σ) (c : Int) : k_op (e_blocks σ c) (σ 1 1) (k_up σ 1 (k_u1 (σ 1) 1 c)) ρ (m_setBlockCountNow ρ c) := by
  unfold e_blocks m_setBlockCountNow
  have hn : ρ 124 0 = σ 1 0 := hR.2.1.1.1
  have hS := hI.1
  rw [hn]
  by_cases h : 1 ≤ c ∧ c ≤ 4
  · rw [if_pos h, if_pos h]
    have hin : ∀ s : Nat, s < (σ 1 0).toNat → (f_open σ (s : Int) / z_one c = 0 ↔ ∀ i : Nat, i < (4 - c).toNat → ¬ ρ 124 (17 + 4 * (s : Int) + (c + (i : Int))).toNat = 1) := fun s hs => by
      rw [z_hi (f_open_r hI _) h]
      constructor
      · intro y i hi z
        rw [q_hasOpen hR (s := (s : Int)) ⟨by omega, by omega⟩ (b := c + (i : Int)) ⟨by omega, by omega⟩] at z
        rw [y _ (by omega) (by omega)] at z
        cases z
      · intro y b h1 h2
        cases q : z_bit (f_open σ (s : Int)) b with
        | false => rfl
        | true =>
          exfalso
          refine y (b - c).toNat (by omega) ?_
          rw [show c + (((b - c).toNat : Nat) : Int) = b by omega]
          exact (q_hasOpen hR (s := (s : Int)) ⟨by omega, by omega⟩ (b := b) ⟨by omega, by omega⟩).mpr q
    have hb : ∀ s : Nat, s < (σ 1 0).toNat → (f_open σ (s : Int) / z_one c = 0 → b_setBlockCountNow_17 ρ c s () = .inr ()) ∧ (¬ f_open σ (s : Int) / z_one c = 0 → b_setBlockCountNow_17 ρ c s () = .inl (0, k_up ρ 123 (k_u1 (ρ 123) 8 3))) := fun s hs => by
      constructor
      · intro y
        have y' := (hin s hs).mp y
        have e : k_for (b_setBlockCountNow_29 ρ c s ()) (4 - c).toNat 0 () = .inr () := k_for_all _ _ fun j _ h2 => if_neg (y' j (by omega))
        unfold b_setBlockCountNow_17
        rw [e]
        rfl
      · intro y
        have e : k_for (b_setBlockCountNow_29 ρ c s ()) (4 - c).toNat 0 () = .inl (.inl (0, k_up ρ 123 (k_u1 (ρ 123) 8 3))) := by
          refine k_for_some _ _ (fun j _ _ => ?_) ?_
          · unfold b_setBlockCountNow_29
            split
            · exact Or.inr rfl
            · exact Or.inl rfl
          · by_cases z : ∃ i : Nat, i < (4 - c).toNat ∧ ρ 124 (17 + 4 * (s : Int) + (c + (i : Int))).toNat = 1
            · obtain ⟨i, hi, z⟩ := z
              exact ⟨i, by omega, by omega, if_pos z⟩
            · exact absurd ((hin s hs).mpr fun i hi z' => z ⟨i, hi, z'⟩) y
        unfold b_setBlockCountNow_17
        rw [e]
        rfl
    by_cases hall : ∀ s : Nat, s < (σ 1 0).toNat → f_open σ (s : Int) / z_one c = 0
    · rw [if_pos hall, k_for_all (f := b_setBlockCountNow_17 ρ c) _ _ fun j _ h2 => (hb j (by omega)).1 (hall j (by omega))]
      show k_op 0 _ _ ρ (ρ 124 1, k_up ρ 124 (k_u1 (ρ 124) 1 c))
      rw [show ρ 124 1 = σ 1 1 from hR.2.1.1.2.1]
      refine k_op_yes ?_
      obtain ⟨hM, ⟨⟨a0, a1, a2⟩, b, cc, d, e⟩, ⟨w1, w2, w3, w4⟩, ⟨t1, t2, t3, t4⟩, hc⟩ := hR
      have hM' : k_Mo (k_u1 (ρ 124) 1 c) := k_Mo_u hM (by omega)
      have hlow : ∀ j : Nat, j ≠ 1 → k_u1 (ρ 124) 1 c j = ρ 124 j := fun j hj => if_neg hj
      have h1 : k_u1 (ρ 124) 1 c 1 = c := if_pos rfl
      show k_PR (k_u1 (ρ 124) 1 c) (k_u1 (σ 1) 1 c) (σ 2) (σ 3) (σ 4) (σ 5) (σ 6) (σ 7) (σ 8) (σ 9)
      generalize k_u1 (ρ 124) 1 c = r' at hM' hlow h1 ⊢
      have ho : ∀ j : Nat, j ≠ 1 → k_u1 (σ 1) 1 c j = σ 1 j := fun j hj => if_neg hj
      have ho1 : k_u1 (σ 1) 1 c 1 = c := if_pos rfl
      generalize k_u1 (σ 1) 1 c = o' at ho ho1 ⊢
      have o0 := ho 0 (by decide)
      have o2 := ho 2 (by decide)
      have o9 := ho 9 (by decide)
      have hP := hI.2.2.1
      refine ⟨hM', ⟨⟨?_, ?_, ?_⟩, fun s s0 s1 => ?_, fun s x s0 s1 x0 x1 => ?_, fun s x s0 s1 x0 hx => ?_, fun j hj => e j (by omega)⟩, k_PRw_r (o := o') ⟨?_, ?_, ?_, ?_⟩ (by omega) (fun j => (hI.2.2.2.2.2.2.1 j).2) (fun j h1 _ => hlow j (by omega)), k_PRt_r (o := o') ⟨?_, ?_, ?_, ?_⟩ (by omega) (fun j h1 _ => hlow j (by omega)), k_PRc_r (o := o') ⟨?_, ?_⟩ (by have := hI.2.2.2.2.2.2.2.2.2.1.2; omega) (fun j h1 _ => hlow j (by omega))⟩
      · rw [hlow 0 (by omega), o0]
        exact a0
      · rw [h1, ho1]
      · rw [hlow 2 (by omega), o2]
        exact a2
      · rw [hlow _ (by omega)]
        exact b s s0 (by omega)
      · rw [hlow _ (by omega)]
        exact cc s x s0 (by omega) x0 x1
      · rw [ho1]
        rcases Int.lt_or_le x c with z | z
        · exact z
        · have hb' := d s x s0 (by omega) x0 hx
          have hB := hI.2.1
          have hs' := hall s.toNat (by omega)
          rw [show ((s.toNat : Nat) : Int) = s by omega] at hs'
          have := (z_hi (f_open_r hI s) h).mp hs' x z (by omega)
          rw [f_open_in ⟨s0, by omega⟩, hx] at this
          cases this
      · rw [o2, o0]
        exact w1
      · rw [o2, o0]
        exact w2
      · rw [o2]
        exact w3
      · rw [o2]
        exact w4
      · rw [o2]
        exact t1
      · rw [o2]
        exact t2
      · rw [o0]
        exact t3
      · rw [o2]
        exact t4
      · rw [o9]
        exact hc.1
      · rw [o9]
        exact hc.2
    · rw [if_neg hall]
      have hex : ∃ s : Nat, s < (σ 1 0).toNat ∧ ¬ f_open σ (s : Int) / z_one c = 0 := by
        by_cases z : ∃ s : Nat, s < (σ 1 0).toNat ∧ ¬ f_open σ (s : Int) / z_one c = 0
        · exact z
        · refine absurd (fun s hs => ?_) hall
          by_cases y : f_open σ (s : Int) / z_one c = 0
          · exact y
          · exact absurd ⟨s, hs, y⟩ z
      obtain ⟨s, hs, hx⟩ := hex
      rw [k_for_some (f := b_setBlockCountNow_17 ρ c) (v := (0, k_up ρ 123 (k_u1 (ρ 123) 8 3))) _ _ (fun j _ h2 => ?_) ⟨s, by omega, by omega, (hb s hs).2 hx⟩]
      · exact k_op_no (by decide)
      · by_cases y : f_open σ (j : Int) / z_one c = 0
        · exact Or.inl ((hb j (by omega)).1 y)
        · exact Or.inr ((hb j (by omega)).2 y)
  · rw [if_neg h, if_neg h]
    exact k_op_no (by decide)
end K_R10
