/-! ===== THE SIMPLE CHANGES: the model's and the class's are alike ===== -/
section K_R9
variable {σ ρ τ : Nat → Nat → Int} {r : Nat → Int}
/-- what a change answers on both sides -/
def k_op (e v : Int) (τ ρ : Nat → Nat → Int) (y : Int × (Nat → Nat → Int)) : Prop := ((e ≠ 0 ∧ y.1 = 0 ∧ y.2 123 8 = e ∧ y.2 124 = ρ 124) ∨ (e = 0 ∧ y.1 = v ∧ y.2 123 8 = ρ 123 8 ∧ k_P1 (y.2 124) τ)) ∧ (e ≠ 4 → y.2 123 9 = ρ 123 9)
theorem k_op_no {e v : Int} (he : e ≠ 0) : k_op e v τ ρ (0, k_up ρ 123 (k_u1 (ρ 123) 8 e)) := ⟨Or.inl ⟨he, rfl, (congrFun (k_up_same (σ := ρ) (a := 123) (f := k_u1 (ρ 123) 8 e)) 8).trans (if_pos rfl), k_up_ne (σ := ρ) (a := 123) (i := 124) (f := k_u1 (ρ 123) 8 e) (by decide)⟩, fun _ => (congrFun (k_up_same (σ := ρ) (a := 123) (f := k_u1 (ρ 123) 8 e)) 9).trans (if_neg (by decide))⟩
theorem k_op_yes {v : Int} {f : Nat → Int} (h : k_P1 f τ) : k_op 0 v τ ρ (v, k_up ρ 124 f) := ⟨Or.inr ⟨rfl, rfl, congrFun (k_up_ne (σ := ρ) (a := 124) (i := 123) (f := f) (by decide)) 8, (congrArg (fun g => k_P1 g τ) (k_up_same (σ := ρ) (a := 124) (f := f))).mpr h⟩, fun _ => congrFun (k_up_ne (σ := ρ) (a := 124) (i := 123) (f := f) (by decide)) 9⟩
theorem q_o_addSubject (hR : k_P1 (ρ 124) σ) (hI : k_Ty σ) (z : Int) : k_op (e_subject σ z) (σ 1 0) (u_newSubject σ z) ρ (m_addSubjectNow ρ z) := by
  unfold e_subject m_addSubjectNow
  have hn : ρ 124 0 = σ 1 0 := hR.2.1.1.1
  have hS := hI.1
  by_cases h : 1 ≤ z ∧ z ≤ 9
  · rw [if_pos h, if_pos h, hn]
    by_cases h7 : σ 1 0 = 7
    · rw [if_neg (by omega), if_pos h7]
      exact k_op_no (by decide)
    · rw [if_pos (by omega), if_neg h7]
      unfold r_addSubjectNow_52
      rw [hn]
      have hX : ∀ j : Nat, k_it (b_addSubjectNow_52 ρ z) 4 0 (k_u1 (ρ 124) (10 + σ 1 0).toNat z) j = if 17 + 4 * (σ 1 0).toNat ≤ j ∧ j < 21 + 4 * (σ 1 0).toNat then 0 else if j = (10 + σ 1 0).toNat then z else ρ 124 j := by
        intro j
        show k_u1 (k_u1 (k_u1 (k_u1 (k_u1 (ρ 124) (10 + σ 1 0).toNat z) ((17 + (4 * ρ 124 0)) + ((0 : Nat) : Int)).toNat 0) ((17 + (4 * ρ 124 0)) + ((1 : Nat) : Int)).toNat 0) ((17 + (4 * ρ 124 0)) + ((2 : Nat) : Int)).toNat 0) ((17 + (4 * ρ 124 0)) + ((3 : Nat) : Int)).toNat 0 j = _
        rw [hn]
        unfold k_u1
        (repeat' split) <;> first | rfl | (exfalso; omega)
      have hMo : k_Mo (k_it (b_addSubjectNow_52 ρ z) 4 0 (k_u1 (ρ 124) (10 + σ 1 0).toNat z)) := by
        show k_Mo (k_u1 (k_u1 (k_u1 (k_u1 (k_u1 (ρ 124) (10 + σ 1 0).toNat z) ((17 + (4 * ρ 124 0)) + ((0 : Nat) : Int)).toNat 0) ((17 + (4 * ρ 124 0)) + ((1 : Nat) : Int)).toNat 0) ((17 + (4 * ρ 124 0)) + ((2 : Nat) : Int)).toNat 0) ((17 + (4 * ρ 124 0)) + ((3 : Nat) : Int)).toNat 0)
        rw [hn]
        exact k_Mo_u (k_Mo_u (k_Mo_u (k_Mo_u (k_Mo_u hR.1 (by omega)) (by omega)) (by omega)) (by omega)) (by omega)
      generalize k_it (b_addSubjectNow_52 ρ z) 4 0 (k_u1 (ρ 124) (10 + σ 1 0).toNat z) = X at hX hMo ⊢
      have hX0 : X 0 = σ 1 0 := by
        rw [hX, if_neg (by omega), if_neg (by omega)]
        exact hn
      rw [hX0]
      refine k_op_yes ?_
      obtain ⟨hM, ⟨⟨a0, a1, a2⟩, b, c, d, e⟩, ⟨w1, w2, w3, w4⟩, ⟨t1, t2, t3, t4⟩, hc⟩ := hR
      have hr : ∀ j : Nat, k_u1 X 0 (σ 1 0 + 1) j = if j = 0 then σ 1 0 + 1 else if 17 + 4 * (σ 1 0).toNat ≤ j ∧ j < 21 + 4 * (σ 1 0).toNat then 0 else if j = (10 + σ 1 0).toNat then z else ρ 124 j := fun j => by
        unfold k_u1
        rw [hX]
      have hM' : k_Mo (k_u1 X 0 (σ 1 0 + 1)) := k_Mo_u hMo (by omega)
      generalize k_u1 X 0 (σ 1 0 + 1) = r' at hr hM' ⊢
      have ho : ∀ j : Nat, j ≠ 0 → k_u1 (σ 1) 0 (σ 1 0 + 1) j = σ 1 j := fun j hj => if_neg hj
      have ho0 : k_u1 (σ 1) 0 (σ 1 0 + 1) 0 = σ 1 0 + 1 := if_pos rfl
      have hP := hI.2.2.1
      show k_PR r' (k_u1 (σ 1) 0 (σ 1 0 + 1)) (k_u1 (σ 2) (σ 1 0).toNat z) (σ 3) (σ 4) (σ 5) (σ 6) (σ 7) (σ 8) (σ 9)
      generalize k_u1 (σ 1) 0 (σ 1 0 + 1) = o' at ho ho0 ⊢
      have o1 := ho 1 (by decide)
      have o2 := ho 2 (by decide)
      have o9 := ho 9 (by decide)
      have hlow : ∀ j : Nat, (0 < j ∧ j < 10) ∨ 45 ≤ j → r' j = ρ 124 j := fun j hj => by
        rw [hr, if_neg (by omega), if_neg (by omega), if_neg (by omega)]
      refine ⟨hM', ⟨⟨?_, ?_, ?_⟩, fun s s0 s1 => ?_, fun s x s0 s1 x0 x1 => ?_, fun s x s0 s1 x0 hx => ?_, fun j hj => e j (by omega)⟩, ⟨fun p p0 p1 => ?_, fun p k p0 p1 k0 k1 => ?_, ?_, ?_⟩, ⟨?_, ?_, ?_, ?_⟩, ?_⟩
      · rw [hr, if_pos rfl, ho0]
      · rw [hlow 1 (by omega), o1]
        exact a1
      · rw [hlow 2 (by omega), o2]
        exact a2
      · by_cases q : s = σ 1 0
        · subst q
          rw [hr, if_neg (by omega), if_neg (by omega), if_pos rfl]
          exact (if_pos rfl).symm
        · rw [hr, if_neg (by omega), if_neg (by omega), if_neg (by omega), b s s0 (by omega)]
          exact (if_neg (by omega)).symm
      · by_cases q : s = σ 1 0
        · subst q
          rw [hr, if_neg (by omega), if_pos (by omega), e _ (by omega), z_bit_0]
          exact ⟨fun y => (by omega), fun y => (by cases y)⟩
        · rw [hr, if_neg (by omega), if_neg (by omega), if_neg (by omega)]
          exact c s x s0 (by omega) x0 x1
      · by_cases q : s = σ 1 0
        · subst q
          rw [e _ (by omega), z_bit_0] at hx
          cases hx
        · rw [o1]
          exact d s x s0 (by omega) x0 hx
      · rw [hlow _ (by omega), hlow _ (by omega)]
        have := w1 p p0 (by omega)
        omega
      · have h5 := hI.2.2.2.2.2.2.1 p.toNat
        rw [hlow _ (by omega)]
        have := w2 p k p0 (by omega) k0 k1
        omega
      · intro p k l p0 p1
        exact w3 p k l p0 (by omega)
      · intro j hj
        exact w4 j (by omega)
      · intro p s x p0 p1 s0 s1 x0 x1
        rw [hlow _ (by omega)]
        exact t1 p s x p0 (by omega) s0 s1 x0 x1
      · intro p s x p0
        exact t2 p s x (by omega)
      · intro p s x p0 s0 s1 x0 x1 hz
        have := t3 p s x p0 s0 s1 x0 x1 hz
        exact ⟨by omega, this.2⟩
      · intro p x y p0 p1 x0 x1 y0 y1
        rw [hlow _ (by omega), hlow _ (by omega)]
        exact t4 p x y p0 (by omega) x0 x1 y0 y1
      · have h9 := hI.2.2.2.2.2.2.2.2.2.1
        refine ⟨?_, fun k k0 k1 => ?_⟩
        · rw [hlow 3 (by omega), o9]
          exact hc.1
        · rw [hlow _ (by omega), hlow _ (by omega)]
          exact hc.2 k k0 (by omega)
  · rw [if_neg h, if_neg h]
    exact k_op_no (by decide)
theorem q_o_addPupil (hR : k_P1 (ρ 124) σ) (hI : k_Ty σ) : k_op (e_pupil σ) (σ 1 2) (u_newPupil σ) ρ (m_addPupilNow ρ) := by
  unfold e_pupil m_addPupilNow
  have hn : ρ 124 2 = σ 1 2 := hR.2.1.1.2.2
  have hP := hI.2.2.1
  have hS := hI.1
  rw [hn]
  by_cases h7 : σ 1 2 = 12
  · rw [if_pos (by omega), if_pos h7]
    exact k_op_no (by decide)
  · rw [if_neg (by omega), if_neg h7]
    unfold r_addPupilNow_46
    rw [hn]
    have hX : ∀ j : Nat, k_it (b_addPupilNow_46 ρ) 4 0 (k_u1 (k_u1 (ρ 124) (45 + σ 1 2).toNat 0) (93 + σ 1 2).toNat (-1)) j = if 105 + 4 * (σ 1 2).toNat ≤ j ∧ j < 109 + 4 * (σ 1 2).toNat then -1 else if j = (93 + σ 1 2).toNat then -1 else if j = (45 + σ 1 2).toNat then 0 else ρ 124 j := by
      intro j
      show k_u1 (k_u1 (k_u1 (k_u1 (k_u1 (k_u1 (ρ 124) (45 + σ 1 2).toNat 0) (93 + σ 1 2).toNat (-1)) ((105 + (4 * ρ 124 2)) + ((0 : Nat) : Int)).toNat (-1)) ((105 + (4 * ρ 124 2)) + ((1 : Nat) : Int)).toNat (-1)) ((105 + (4 * ρ 124 2)) + ((2 : Nat) : Int)).toNat (-1)) ((105 + (4 * ρ 124 2)) + ((3 : Nat) : Int)).toNat (-1) j = _
      rw [hn]
      unfold k_u1
      (repeat' split) <;> first | rfl | (exfalso; omega)
    have hMo : k_Mo (k_it (b_addPupilNow_46 ρ) 4 0 (k_u1 (k_u1 (ρ 124) (45 + σ 1 2).toNat 0) (93 + σ 1 2).toNat (-1))) := by
      show k_Mo (k_u1 (k_u1 (k_u1 (k_u1 (k_u1 (k_u1 (ρ 124) (45 + σ 1 2).toNat 0) (93 + σ 1 2).toNat (-1)) ((105 + (4 * ρ 124 2)) + ((0 : Nat) : Int)).toNat (-1)) ((105 + (4 * ρ 124 2)) + ((1 : Nat) : Int)).toNat (-1)) ((105 + (4 * ρ 124 2)) + ((2 : Nat) : Int)).toNat (-1)) ((105 + (4 * ρ 124 2)) + ((3 : Nat) : Int)).toNat (-1))
      rw [hn]
      exact k_Mo_u (k_Mo_u (k_Mo_u (k_Mo_u (k_Mo_u (k_Mo_u hR.1 (by omega)) (by omega)) (by omega)) (by omega)) (by omega)) (by omega)
    generalize k_it (b_addPupilNow_46 ρ) 4 0 (k_u1 (k_u1 (ρ 124) (45 + σ 1 2).toNat 0) (93 + σ 1 2).toNat (-1)) = X at hX hMo ⊢
    have hX0 : X 2 = σ 1 2 := by
      rw [hX, if_neg (by omega), if_neg (by omega), if_neg (by omega)]
      exact hn
    rw [hX0]
    refine k_op_yes ?_
    obtain ⟨hM, ⟨⟨a0, a1, a2⟩, b, c, d, e⟩, ⟨w1, w2, w3, w4⟩, ⟨t1, t2, t3, t4⟩, hc⟩ := hR
    have hr : ∀ j : Nat, k_u1 X 2 (σ 1 2 + 1) j = if j = 2 then σ 1 2 + 1 else if 105 + 4 * (σ 1 2).toNat ≤ j ∧ j < 109 + 4 * (σ 1 2).toNat then -1 else if j = (93 + σ 1 2).toNat then -1 else if j = (45 + σ 1 2).toNat then 0 else ρ 124 j := fun j => by
      unfold k_u1
      rw [hX]
    have hM' : k_Mo (k_u1 X 2 (σ 1 2 + 1)) := k_Mo_u hMo (by omega)
    generalize k_u1 X 2 (σ 1 2 + 1) = r' at hr hM' ⊢
    have ho : ∀ j : Nat, j ≠ 2 → k_u1 (σ 1) 2 (σ 1 2 + 1) j = σ 1 j := fun j hj => if_neg hj
    have ho0 : k_u1 (σ 1) 2 (σ 1 2 + 1) 2 = σ 1 2 + 1 := if_pos rfl
    show k_PR r' (k_u1 (σ 1) 2 (σ 1 2 + 1)) (σ 2) (σ 3) (σ 4) (σ 5) (σ 6) (k_u1 (σ 7) (σ 1 2).toNat (-1)) (σ 8) (σ 9)
    generalize k_u1 (σ 1) 2 (σ 1 2 + 1) = o' at ho ho0 ⊢
    have o0 := ho 0 (by decide)
    have o1 := ho 1 (by decide)
    have o9 := ho 9 (by decide)
    have hlow : ∀ j : Nat, j ≠ 2 ∧ j < 45 → r' j = ρ 124 j := fun j hj => by
      rw [hr, if_neg (by omega), if_neg (by omega), if_neg (by omega), if_neg (by omega)]
    refine ⟨hM', ⟨⟨?_, ?_, ?_⟩, fun s s0 s1 => ?_, fun s x s0 s1 x0 x1 => ?_, fun s x s0 s1 x0 hx => ?_, fun j hj => e j (by omega)⟩, ⟨fun p p0 p1 => ?_, fun p k p0 p1 k0 k1 => ?_, ?_, ?_⟩, ⟨?_, ?_, ?_, ?_⟩, ?_⟩
    · rw [hlow 0 (by omega), o0]
      exact a0
    · rw [hlow 1 (by omega), o1]
      exact a1
    · rw [hr, if_pos rfl, ho0]
    · rw [hlow _ (by omega)]
      exact b s s0 (by omega)
    · rw [hlow _ (by omega)]
      exact c s x s0 (by omega) x0 x1
    · rw [o1]
      exact d s x s0 (by omega) x0 hx
    · by_cases q : p = σ 1 2
      · subst q
        have := w4 (σ 1 2).toNat (by omega)
        rw [hr, if_neg (by omega), if_neg (by omega), if_neg (by omega), if_pos rfl, this, hr, if_neg (by omega), if_neg (by omega), if_pos rfl, show k_u1 (σ 7) (σ 1 2).toNat (-1) (σ 1 2).toNat = -1 from if_pos rfl]
        omega
      · have := w1 p p0 (by omega)
        rw [hr, if_neg (by omega), if_neg (by omega), if_neg (by omega), if_neg (by omega), hr, if_neg (by omega), if_neg (by omega), if_neg (by omega), if_neg (by omega), show k_u1 (σ 7) (σ 1 2).toNat (-1) p.toNat = σ 7 p.toNat from if_neg (by omega)]
        omega
    · by_cases q : p = σ 1 2
      · subst q
        have := w4 (σ 1 2).toNat (by omega)
        omega
      · have h5 := hI.2.2.2.2.2.2.1 p.toNat
        have := w2 p k p0 (by omega) k0 k1
        rw [hr, if_neg (by omega), if_neg (by omega), if_neg (by omega), if_neg (by omega), show k_u1 (σ 7) (σ 1 2).toNat (-1) p.toNat = σ 7 p.toNat from if_neg (by omega)]
        omega
    · intro p k l p0 p1 k0 k1 k2
      by_cases q : p = σ 1 2
      · subst q
        have := w4 (σ 1 2).toNat (by omega)
        omega
      · exact w3 p k l p0 (by omega) k0 k1 k2
    · intro j hj
      exact w4 j (by omega)
    · intro p s x p0 p1 s0 s1 x0 x1
      by_cases q : p = σ 1 2
      · subst q
        rw [t2 _ s x (by omega) s0 s1 x0 x1, hr, if_neg (by omega), if_pos (by omega)]
        exact ⟨fun y => (by cases y), fun y => (by omega)⟩
      · rw [hr, if_neg (by omega), if_neg (by omega), if_neg (by omega), if_neg (by omega)]
        exact t1 p s x p0 (by omega) s0 s1 x0 x1
    · intro p s x p0
      exact t2 p s x (by omega)
    · intro p s x p0 s0 s1 x0 x1 hz
      have := t3 p s x p0 s0 s1 x0 x1 hz
      exact ⟨by omega, this.2⟩
    · intro p x y p0 p1 x0 x1 y0 y1
      by_cases q : p = σ 1 2
      · subst q
        rw [hr, if_neg (by omega), if_pos (by omega)]
        intro _ z
        exact absurd rfl z
      · rw [hr, if_neg (by omega), if_neg (by omega), if_neg (by omega), if_neg (by omega), hr, if_neg (by omega), if_neg (by omega), if_neg (by omega), if_neg (by omega)]
        exact t4 p x y p0 (by omega) x0 x1 y0 y1
    · have h9 := hI.2.2.2.2.2.2.2.2.2.1
      refine ⟨?_, fun k k0 k1 => ?_⟩
      · rw [hlow 3 (by omega), o9]
        exact hc.1
      · rw [hlow _ (by omega), hlow _ (by omega)]
        exact hc.2 k k0 (by omega)
/-- an open class more or less -/
theorem q_o_opened (hR : k_P1 r σ) (hI : k_Ty σ) {s b w : Int} {v : Int} (hs : 0 ≤ s ∧ s < σ 1 0) (hb : 0 ≤ b ∧ b < σ 1 1) (hv : v = 0 ∨ v = 1) (hw : ∀ c : Int, 0 ≤ c → z_bit w c = if c = b then decide (v = 1) else z_bit (f_open σ s) c) (hk : v = 0 → f_roster σ s b = 0) : k_P1 (k_u1 r (17 + 4 * s + b).toNat v) (k_up σ 3 (k_u1 (σ 3) s.toNat w)) := by
  obtain ⟨hM, ⟨ha, h1, c, d, e⟩, hw', ht, hc⟩ := hR
  have hS := hI.1
  have hB := hI.2.1
  refine ⟨k_Mo_u hM (by omega), ⟨?_, fun t t0 t1 => ?_, fun t x t0 t1 x0 x1 => ?_, fun t x t0 t1 x0 hx => ?_, fun j hj => ?_⟩, k_PRw_r hw' hI.2.2.1.2 (fun j => (hI.2.2.2.2.2.2.1 j).2) (k_al_u k_al_rf (by omega)), k_PRt_op (k_PRt_r ht hI.2.2.1.2 (k_al_u k_al_rf (by omega))) ?_, k_PRc_r hc hI.2.2.2.2.2.2.2.2.2.1.2 (k_al_u k_al_rf (by omega))⟩
  · exact ⟨(if_neg (by omega)).trans ha.1, (if_neg (by omega)).trans ha.2.1, (if_neg (by omega)).trans ha.2.2⟩
  · have t1' : t < σ 1 0 := t1
    exact (if_neg (by omega)).trans (h1 t t0 t1)
  · have t1' : t < σ 1 0 := t1
    show k_u1 r _ _ _ = 1 ↔ z_bit (k_u1 (σ 3) s.toNat w t.toNat) x = true
    unfold k_u1
    by_cases q : t = s
    · subst q
      rw [if_pos (show t.toNat = t.toNat from rfl), hw x x0]
      by_cases q2 : x = b
      · subst q2
        rw [if_pos rfl, if_pos rfl, decide_eq_true_eq]
      · rw [if_neg (by omega), if_neg q2, f_open_in hs]
        exact c t x t0 t1 x0 x1
    · rw [if_neg (by omega), if_neg (by omega)]
      exact c t x t0 t1 x0 x1
  · have t1' : t < σ 1 0 := t1
    show x < σ 1 1
    have hx' : z_bit (k_u1 (σ 3) s.toNat w t.toNat) x = true := hx
    unfold k_u1 at hx'
    by_cases q : t = s
    · subst q
      rw [if_pos rfl, hw x x0] at hx'
      by_cases q2 : x = b
      · omega
      · rw [if_neg q2, f_open_in hs] at hx'
        exact d t x t0 t1 x0 hx'
    · rw [if_neg (by omega)] at hx'
      exact d t x t0 t1 x0 hx'
  · have hj' : σ 1 0 ≤ (j : Int) := hj
    exact (if_neg (by omega)).trans (e j hj)
  · intro p t x p0 t0 t1 x0 x1 hz hx
    show z_bit (k_u1 (σ 3) s.toNat w t.toNat) x = true
    unfold k_u1
    by_cases q : t = s
    · subst q
      rw [if_pos rfl, hw x x0]
      by_cases q2 : x = b
      · subst q2
        rw [if_pos rfl]
        rcases hv with z | z
        · have := hk z
          rw [f_roster_in ⟨⟨t0, t1⟩, x0, x1⟩] at this
          have hz' : z_bit (σ 4 (t * 4 + x).toNat) p = true := hz
          rw [this, z_bit_0] at hz'
          cases hz'
        · exact decide_eq_true z
      · rw [if_neg q2, f_open_in hs]
        exact hx
    · rw [if_neg (by omega)]
      exact hx
end K_R9
