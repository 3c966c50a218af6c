/-! ===== ARRANGING alike ===== -/
section K_R26
variable {σ ρ τ : Nat → Nat → Int} {r : Nat → Int}
theorem m_classes_nn (r : Nat → Int) (p : Int) : 0 ≤ m_classesOf r p := by
  have e : m_classesOf r p = z_sum 4 (fun i => if r (105 + 4 * p + (i : Int)).toNat = -1 then 0 else 1) := by
    unfold m_classesOf r_classesOf_4
    refine k_it_sum (f := b_classesOf_4 r p) (g := fun i => if r (105 + 4 * p + (i : Int)).toNat = -1 then 0 else 1) (fun i x => ?_) 4
    unfold b_classesOf_4
    split <;> rfl
  rw [e]
  have h := z_sum_le (g := fun _ => 0) (h := fun i : Nat => if r (105 + 4 * p + (i : Int)).toNat = -1 then (0 : Int) else 1) 4 fun i _ => by
    split <;> decide
  exact h
theorem z_sumLe0 {g : Nat → Int} (h : ∀ i, 0 ≤ g i) : ∀ n : Nat, 0 ≤ z_sum n g ∧ (z_sum n g ≤ 0 ↔ ∀ i, i < n → g i ≤ 0)
  | 0 => ⟨Int.le_refl 0, fun _ i hi => absurd hi (Nat.not_lt_zero i), fun _ => Int.le_refl 0⟩
  | n + 1 => by
    obtain ⟨i1, i2⟩ := z_sumLe0 h n
    have hn := h n
    rw [z_sum_s]
    refine ⟨by omega, fun y i hi => ?_, fun y => ?_⟩
    · by_cases e : i = n
      · subst e
        omega
      · exact i2.mp (by omega) i (by omega)
    · have := i2.mpr fun i hi => y i (by omega)
      have := y n (by omega)
      omega
def g_arM (q : Nat → Int) (s : Nat) (x : Nat → Int) : Nat → Int := k_it (fun (b : Nat) x => if q ((s : Int)).toNat = (b : Int) then (k_u1 x ((17 + (4 * ((s : Int)))) + ((b : Int))).toNat (1)) else (k_u1 x ((17 + (4 * ((s : Int)))) + ((b : Int))).toNat (0))) 4 0 x
theorem z_arM (q : Nat → Int) (s : Nat) (x : Nat → Int) : (∀ b : Nat, b < 4 → g_arM q s x (17 + 4 * s + b) = if q s = (b : Int) then 1 else 0) ∧ ∀ j, (j < 17 + 4 * s ∨ 21 + 4 * s ≤ j) → g_arM q s x j = x j := by
  have h : ∀ n : Nat, n ≤ 4 → (∀ b : Nat, b < n → k_it (fun (b : Nat) x => if q ((s : Int)).toNat = (b : Int) then (k_u1 x ((17 + (4 * ((s : Int)))) + ((b : Int))).toNat (1)) else (k_u1 x ((17 + (4 * ((s : Int)))) + ((b : Int))).toNat (0))) n 0 x (17 + 4 * s + b) = if q s = (b : Int) then 1 else 0) ∧ ∀ j, (j < 17 + 4 * s ∨ 21 + 4 * s ≤ j) → k_it (fun (b : Nat) x => if q ((s : Int)).toNat = (b : Int) then (k_u1 x ((17 + (4 * ((s : Int)))) + ((b : Int))).toNat (1)) else (k_u1 x ((17 + (4 * ((s : Int)))) + ((b : Int))).toNat (0))) n 0 x j = x j := fun n => by
    induction n with
    | zero => exact fun _ => ⟨fun b hb => absurd hb (Nat.not_lt_zero b), fun _ _ => rfl⟩
    | succ n ih =>
      intro hn
      obtain ⟨i1, i2⟩ := ih (by omega)
      rw [k_it_succ, Nat.zero_add]
      generalize k_it (fun (b : Nat) x => if q ((s : Int)).toNat = (b : Int) then (k_u1 x ((17 + (4 * ((s : Int)))) + ((b : Int))).toNat (1)) else (k_u1 x ((17 + (4 * ((s : Int)))) + ((b : Int))).toNat (0))) n 0 x = z at i1 i2 ⊢
      rw [Int.toNat_natCast]
      have e : ∀ j, (if q s = (n : Int) then k_u1 z (17 + 4 * (s : Int) + (n : Int)).toNat 1 else k_u1 z (17 + 4 * (s : Int) + (n : Int)).toNat 0) j = if j = 17 + 4 * s + n then (if q s = (n : Int) then 1 else 0) else z j := fun j => by
        by_cases w : q s = (n : Int)
        · rw [if_pos w, if_pos w]
          unfold k_u1
          (repeat' split) <;> first | rfl | (exfalso; omega)
        · rw [if_neg w, if_neg w]
          unfold k_u1
          (repeat' split) <;> first | rfl | (exfalso; omega)
      refine ⟨fun b hb => ?_, fun j hj => ?_⟩
      · rw [e]
        by_cases w : b = n
        · subst w
          rw [if_pos rfl]
        · rw [if_neg (by omega)]
          exact i1 b (by omega)
      · rw [e, if_neg (by omega)]
        exact i2 j hj
  exact h 4 (Nat.le_refl 4)
theorem q_o_arrange (hR : k_P1 (ρ 124) σ) (hI : k_Ty σ) (hA : k_Ar σ) : k_op (e_arrange σ) ((f_abest σ).2.2.2) (u_arr σ) ρ (m_arrangeNow ρ) := by
  unfold e_arrange m_arrangeNow
  have hS := hI.1
  have hB := hI.2.1
  have hP := hI.2.2.1
  have hz := z_sumLe0 (g := fun p : Nat => m_classesOf (ρ 124) (p : Int)) (fun p => m_classes_nn _ _) (σ 1 2).toNat
  rw [q_lessAll hR hI, hR.2.1.1.2.2]
  by_cases h : 0 < z_sum (σ 1 2).toNat (fun p => m_classesOf (ρ 124) (p : Int))
  · rw [if_pos h]
    have hex : ∃ j, 0 ≤ j ∧ j < 0 + (σ 1 2).toNat ∧ b_arrangeNow_2 ρ j () = .inl ((0, (k_up ρ 123 (k_u1 (ρ 123) 8 (3))))) := by
      refine Classical.byContradiction fun y => ?_
      have := hz.2.mpr fun i hi => by
        refine Classical.byContradiction fun w => y ⟨i, by omega, by omega, if_neg w⟩
      omega
    rw [k_for_some (f := b_arrangeNow_2 ρ) (v := ((0, (k_up ρ 123 (k_u1 (ρ 123) 8 (3)))))) _ 0 (fun j _ _ => ?_) hex]
    · exact k_op_no (by decide)
    · unfold b_arrangeNow_2
      split
      · exact Or.inl rfl
      · exact Or.inr rfl
  · rw [if_neg h]
    have hall := hz.2.mp (by omega)
    rw [k_for_all (f := b_arrangeNow_2 ρ) _ 0 fun j _ hj => if_pos (hall j (by omega))]
    obtain ⟨⟨q1, q2, q3⟩, -, q4⟩ := q_arr hR hI hA
    have h124 : (m_findsArrangement ρ).2 124 = ρ 124 := m_findsArrangement_out ρ 124 (by decide) (by decide) (by decide)
    have h123 : (m_findsArrangement ρ).2 123 = ρ 123 := m_findsArrangement_out ρ 123 (by decide) (by decide) (by decide)
    show k_op 0 _ _ ρ (r_arrangeNow_2 ρ ())
    unfold r_arrangeNow_2 r_arrangeNow_39
    rw [h124, hR.2.1.1.1]
    have eM : k_it (b_arrangeNow_39 ρ ()) (σ 1 0).toNat 0 (ρ 124) = k_fold (σ 1 0).toNat (g_arM ((m_findsArrangement ρ).2 136)) (ρ 124) := k_it_fold _ _ _
    rw [eM]
    have hx : ∀ n : Nat, n ≤ (σ 1 0).toNat → (∀ s b : Nat, s < n → b < 4 → k_fold n (g_arM ((m_findsArrangement ρ).2 136)) (ρ 124) (17 + 4 * s + b) = if (f_abest σ).2.1 s = (b : Int) then 1 else 0) ∧ (∀ j, j < 17 ∨ 45 ≤ j → k_fold n (g_arM ((m_findsArrangement ρ).2 136)) (ρ 124) j = ρ 124 j) ∧ k_Mo (k_fold n (g_arM ((m_findsArrangement ρ).2 136)) (ρ 124)) := fun n => by
      induction n with
      | zero => exact fun _ => ⟨fun s b h _ => absurd h (Nat.not_lt_zero s), fun _ _ => rfl, hR.1⟩
      | succ n ih =>
        intro hn
        obtain ⟨i1, i2, i3⟩ := ih (by omega)
        have e : k_fold (n + 1) (g_arM ((m_findsArrangement ρ).2 136)) (ρ 124) = g_arM ((m_findsArrangement ρ).2 136) n (k_fold n (g_arM ((m_findsArrangement ρ).2 136)) (ρ 124)) := rfl
        rw [e]
        generalize k_fold n (g_arM ((m_findsArrangement ρ).2 136)) (ρ 124) = x at i1 i2 i3 ⊢
        obtain ⟨z1, z2⟩ := z_arM ((m_findsArrangement ρ).2 136) n x
        refine ⟨fun s b hs hb => ?_, fun j hj => (z2 j (by omega)).trans (i2 j hj), ?_⟩
        · by_cases w : s = n
          · subst w
            rw [z1 b hb, (q4 s (by omega)).1]
          · rw [z2 _ (by omega)]
            exact i1 s b (by omega) hb
        · unfold g_arM
          have hstep : ∀ m : Nat, m ≤ 4 → k_Mo (k_it (fun (b : Nat) x => if (m_findsArrangement ρ).2 136 ((n : Int)).toNat = (b : Int) then (k_u1 x ((17 + (4 * ((n : Int)))) + ((b : Int))).toNat (1)) else (k_u1 x ((17 + (4 * ((n : Int)))) + ((b : Int))).toNat (0))) m 0 x) := fun m => by
            induction m with
            | zero => exact fun _ => i3
            | succ m ih =>
              intro hm
              rw [k_it_succ, Nat.zero_add]
              split
              · exact k_Mo_u (ih (by omega)) (by omega)
              · exact k_Mo_u (ih (by omega)) (by omega)
          exact hstep 4 (Nat.le_refl 4)
    obtain ⟨x1, x2, x3⟩ := hx (σ 1 0).toNat (Nat.le_refl _)
    generalize k_fold (σ 1 0).toNat (g_arM ((m_findsArrangement ρ).2 136)) (ρ 124) = x at x1 x2 x3 ⊢
    refine ⟨Or.inr ⟨rfl, q1.symm, ?_, ?_⟩, fun _ => (by
      dsimp only
      rw [k_up_ne (by decide), h123])⟩
    · dsimp only
      rw [k_up_ne (by decide), h123]
    · dsimp only
      rw [k_up_same]
      obtain ⟨hM, ⟨ha, b, c, d, e⟩, hw, ht, hc⟩ := hR
      have hop : ∀ j : Nat, k_fold (σ 1 0).toNat (fun s g => k_u1 g s (z_one ((f_abest σ).2.1 s))) (σ 3) j = if j < (σ 1 0).toNat then z_one ((f_abest σ).2.1 j) else σ 3 j := fun j => z_foldu (fun s => z_one ((f_abest σ).2.1 s)) (σ 3) j _
      show k_PR x (σ 1) (σ 2) (k_fold (σ 1 0).toNat (fun s g => k_u1 g s (z_one ((f_abest σ).2.1 s))) (σ 3)) (σ 4) (σ 5) (σ 6) (σ 7) (σ 8) (σ 9)
      generalize k_fold (σ 1 0).toNat (fun s g => k_u1 g s (z_one ((f_abest σ).2.1 s))) (σ 3) = op' at hop ⊢
      refine ⟨x3, ⟨?_, fun s s0 s1 => ?_, fun s y s0 s1 y0 y1 => ?_, fun s y s0 s1 y0 hy => ?_, fun j hj => ?_⟩, k_PRw_r hw hP.2 (fun j => (hI.2.2.2.2.2.2.1 j).2) (fun j h1 _ => x2 j (by omega)), k_PRt_op (k_PRt_r ht hP.2 (fun j h1 _ => x2 j (by omega))) fun p s y p0 s0 s1 y0 y1 hb _ => ?_, k_PRc_r hc hI.2.2.2.2.2.2.2.2.2.1.2 (fun j h1 _ => x2 j (by omega))⟩
      · rw [x2 0 (by omega), x2 1 (by omega), x2 2 (by omega)]
        exact ha
      · rw [x2 _ (by omega)]
        exact b s s0 s1
      · have q5 := q4 s.toNat (by omega)
        rw [show (17 + 4 * s + y).toNat = 17 + 4 * s.toNat + y.toNat by omega, x1 s.toNat y.toNat (by omega) (by omega), hop, if_pos (show s.toNat < (σ 1 0).toNat by omega), z_bit_one q5.2.1 y0, decide_eq_true_eq, show ((y.toNat : Nat) : Int) = y by omega]
        split
        · rename_i w
          exact ⟨fun _ => w, fun _ => rfl⟩
        · rename_i w
          exact ⟨fun z => absurd z (by decide), fun z => absurd z w⟩
      · have q5 := q4 s.toNat (by omega)
        rw [hop, if_pos (by omega), z_bit_one q5.2.1 y0] at hy
        have := of_decide_eq_true hy
        omega
      · rw [hop, if_neg (by omega)]
        exact e j hj
      · exfalso
        rcases Int.lt_or_le p (σ 1 2) with w | w
        · have := (ht.1 p s y p0 w s0 s1 y0 y1).mp hb
          have hc0 := z_classes0 (ρ 124) p (by
            have := hall p.toNat (by omega)
            rwa [show ((p.toNat : Nat) : Int) = p by omega] at this) y y0 y1
          omega
        · rw [ht.2.1 p s y w s0 s1 y0 y1] at hb
          cases hb
end K_R26
