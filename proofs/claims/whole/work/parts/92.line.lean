/-! ===== THE LINE of a timetable, alike ===== -/
section K_R36
variable {σ ρ τ : Nat → Nat → Int} {r : Nat → Int}
abbrev G_L : Type := (Nat → Int) × (Nat → Int)
/-- the line as the class holds it and as the model does -/
def k_Ln (τ : Nat → Nat → Int) (g : Nat → Int) (x : G_L) : Prop := (x.1 15 = τ 121 3 ∧ 0 ≤ τ 121 3) ∧ (∀ j : Nat, (j : Int) < τ 121 3 → x.2 j = τ 122 j) ∧ ∀ j, j ≠ 15 → x.1 j = g j
def g_pc (x : G_L) (c : Int) : G_L := (k_u1 x.1 15 (x.1 15 + 1), k_u1 x.2 (x.1 15).toNat c)
theorem ln_gen {g : Nat → Int} {x : G_L} {c : Int} (h : k_Ln σ g x) (h3 : τ 121 3 = σ 121 3 + 1) (hc : τ 122 = k_u1 (σ 122) (σ 121 3).toNat c) : k_Ln τ g (g_pc x c) := by
  obtain ⟨⟨a1, a2⟩, b, d⟩ := h
  refine ⟨⟨?_, by omega⟩, fun j hj => ?_, fun j hj => (if_neg hj).trans (d j hj)⟩
  · rw [h3, ← a1]
    show k_u1 x.1 15 (x.1 15 + 1) 15 = x.1 15 + 1
    exact if_pos rfl
  · rw [hc]
    show k_u1 x.2 (x.1 15).toNat c j = k_u1 (σ 122) (σ 121 3).toNat c j
    rw [a1]
    unfold k_u1
    by_cases e : j = (σ 121 3).toNat
    · rw [if_pos e, if_pos e]
    · rw [if_neg e, if_neg e]
      exact b j (by omega)
theorem ln_C {g : Nat → Int} {x : G_L} {c : Int} (h : k_Ln σ g x) : k_Ln (u_C σ c) g (g_pc x c) := by
  refine ln_gen h ?_ ?_
  · show k_up (k_up σ 121 (k_u1 (σ 121) 3 (σ 121 3 + 1))) 122 (k_u1 (σ 122) (σ 121 3).toNat c) 121 3 = _
    rw [k_up_ne (by decide), k_up_same]
    exact if_pos rfl
  · show k_up (k_up σ 121 (k_u1 (σ 121) 3 (σ 121 3 + 1))) 122 (k_u1 (σ 122) (σ 121 3).toNat c) 122 = _
    rw [k_up_same]
theorem ln_I {g : Nat → Int} {x : G_L} {c : Int} (h : k_Ln σ g x) (hc : c < 10) : k_Ln (u_I σ c) g (g_pc x (48 + c)) := by
  have e1 : f_dg c = 1 := if_pos hc
  refine ln_gen h ?_ ?_
  · show k_up (k_up σ 122 (g_digits (σ 122) c (σ 121 3 + f_dg c))) 121 (k_u1 (σ 121) 3 (σ 121 3 + f_dg c)) 121 3 = _
    rw [k_up_same, e1]
    exact if_pos rfl
  · show k_up (k_up σ 122 (g_digits (σ 122) c (σ 121 3 + f_dg c))) 121 (k_u1 (σ 121) 3 (σ 121 3 + f_dg c)) 122 = _
    rw [k_up_ne (by decide), k_up_same, e1]
    unfold g_digits
    rw [if_pos hc, show σ 121 3 + 1 - 1 = σ 121 3 by omega]
theorem ln_I2 {g : Nat → Int} {x : G_L} {c : Int} (h : k_Ln σ g x) (hc : ¬ c < 10) : k_Ln (u_I σ c) g (g_pc (g_pc x (48 + c / 10)) (48 + c % 10)) := by
  have e1 : f_dg c = 2 := if_neg hc
  obtain ⟨⟨a1, a2⟩, b, d⟩ := h
  have s3 : u_I σ c 121 3 = σ 121 3 + 2 := by
    show k_up (k_up σ 122 (g_digits (σ 122) c (σ 121 3 + f_dg c))) 121 (k_u1 (σ 121) 3 (σ 121 3 + f_dg c)) 121 3 = _
    rw [k_up_same, e1]
    exact if_pos rfl
  have s22 : u_I σ c 122 = k_u1 (k_u1 (σ 122) (σ 121 3 + 1).toNat (48 + c % 10)) (σ 121 3).toNat (48 + c / 10) := by
    show k_up (k_up σ 122 (g_digits (σ 122) c (σ 121 3 + f_dg c))) 121 (k_u1 (σ 121) 3 (σ 121 3 + f_dg c)) 122 = _
    rw [k_up_ne (by decide), k_up_same, e1]
    unfold g_digits
    rw [if_neg hc, show σ 121 3 + 2 - 1 = σ 121 3 + 1 by omega, show σ 121 3 + 2 - 2 = σ 121 3 by omega]
  have p15 : (g_pc x (48 + c / 10)).1 15 = σ 121 3 + 1 := by
    rw [← a1]
    show k_u1 x.1 15 (x.1 15 + 1) 15 = x.1 15 + 1
    exact if_pos rfl
  refine ⟨⟨?_, by omega⟩, fun j hj => ?_, fun j hj => (if_neg hj).trans ((if_neg hj).trans (d j hj))⟩
  · rw [s3]
    show k_u1 (g_pc x (48 + c / 10)).1 15 ((g_pc x (48 + c / 10)).1 15 + 1) 15 = _
    rw [show k_u1 (g_pc x (48 + c / 10)).1 15 ((g_pc x (48 + c / 10)).1 15 + 1) 15 = (g_pc x (48 + c / 10)).1 15 + 1 from if_pos rfl, p15]
    omega
  · rw [s3] at hj
    rw [s22]
    show k_u1 (k_u1 x.2 (x.1 15).toNat (48 + c / 10)) ((g_pc x (48 + c / 10)).1 15).toNat (48 + c % 10) j = _
    rw [p15, a1]
    unfold k_u1
    by_cases e : j = (σ 121 3).toNat
    · rw [if_neg (by omega), if_pos e, if_pos e]
    · rw [if_neg e, if_neg e]
      by_cases e2 : j = (σ 121 3 + 1).toNat
      · rw [if_pos e2, if_pos e2]
      · rw [if_neg e2, if_neg e2]
        exact b j (by omega)
theorem u_C_n2 {c : Int} {i : Nat} (h : i ≠ 121 ∧ i ≠ 122) : u_C σ c i = σ i := (k_up_ne (σ := k_up σ 121 (k_u1 (σ 121) 3 (σ 121 3 + 1))) (a := 122) (f := k_u1 (σ 122) (σ 121 3).toNat c) h.2).trans (k_up_ne h.1)
theorem u_I_n2 {c : Int} {i : Nat} (h : i ≠ 121 ∧ i ≠ 122) : u_I σ c i = σ i := (k_up_ne (σ := k_up σ 122 (g_digits (σ 122) c (σ 121 3 + f_dg c))) (a := 121) (f := k_u1 (σ 121) 3 (σ 121 3 + f_dg c)) h.1).trans (k_up_ne h.2)
/-- a lesson written by the model -/
def g_les (r : Nat → Int) (p s : Int) (x : G_L) : G_L := if s = -1 then g_pc (g_pc x 32) 45 else if s = r (93 + p).toNat then g_pc (g_pc (g_pc x 32) (48 + s)) 33 else g_pc (g_pc x 32) (48 + s)
theorem b_wt (ρ : Nat → Nat → Int) (p : Int) (i : Nat) (x : G_L) : b_writeTimetable_57 ρ p i x = g_les (ρ 124) p (ρ 124 (105 + 4 * p + (i : Int)).toNat) x ∧ b_writeTimetable_57_2 ρ p i x = b_writeTimetable_57 ρ p i x := by
  refine ⟨?_, rfl⟩
  unfold b_writeTimetable_57 g_les
  by_cases q : ρ 124 (105 + 4 * p + (i : Int)).toNat = -1
  · rw [if_pos q, if_pos q, if_pos q]
    rfl
  · rw [if_neg q, if_neg q, if_neg q]
    by_cases w : ρ 124 (105 + 4 * p + (i : Int)).toNat = ρ 124 (93 + p).toNat
    · rw [if_pos w, if_pos w]
      rfl
    · rw [if_neg w, if_neg w]
      rfl
theorem ln_wl {g : Nat → Int} {x : G_L} {p s : Int} (h : k_Ln τ g x) (h7 : τ 7 p.toNat = r (93 + p).toNat) (hs : s < 10) : k_Ln (u_wl (u_C τ 32) p s) g (g_les r p s x) := by
  unfold u_wl g_les
  by_cases q : s = -1
  · rw [if_pos q, if_pos q]
    exact ln_C (ln_C h)
  · rw [if_neg q, if_neg q, u_C_n2 (σ := τ) (c := 32) (i := 7) (by decide), h7]
    by_cases w : s = r (93 + p).toNat
    · rw [if_pos w, if_pos w]
      exact ln_C (ln_I (ln_C h) hs)
    · rw [if_neg w, if_neg w]
      exact ln_I (ln_C h) hs
theorem u_wl_n2 {p s : Int} {i : Nat} (h : i ≠ 121 ∧ i ≠ 122) : u_wl σ p s i = σ i := by
  unfold u_wl
  split
  · exact u_C_n2 h
  · split
    · exact (u_C_n2 h).trans (u_I_n2 h)
    · exact u_I_n2 h
/-- the whole line -/
theorem q_tt (hR : k_P1 (ρ 124) σ) (hI : k_Ty σ) {p : Int} (hp : 0 ≤ p ∧ p < σ 1 2) {g : Nat → Int} {x : G_L} (h : k_Ln (u_tt0 σ p) g x) : ∀ n : Nat, n ≤ (σ 1 1).toNat → k_Ln (g_tt σ p n) g (k_it (b_writeTimetable_57 ρ p) n 0 x) ∧ ∀ i, i ≠ 121 ∧ i ≠ 122 → g_tt σ p n i = σ i
  | 0, _ => ⟨h, fun i hi => by
    show u_C (u_I (u_set0 σ 121) p) 58 i = σ i
    rw [u_C_n2 hi, u_I_n2 hi]
    exact k_up_ne hi.1⟩
  | n + 1, hn => by
    obtain ⟨i1, i2⟩ := q_tt hR hI hp h n (by omega)
    have hB := hI.2.1
    have hb : 0 ≤ (n : Int) ∧ (n : Int) < 4 := by omega
    have e : g_tt σ p (n + 1) = u_wl (u_C (g_tt σ p n) 32) p (f_lesson σ p (n : Int)) := rfl
    rw [e, k_it_succ, Nat.zero_add, (b_wt ρ p n _).1, ← q_lesson hR hI hp hb]
    have ht := q_tab hR hI hp hb
    rw [← q_lesson hR hI hp hb] at ht
    refine ⟨ln_wl (r := ρ 124) i1 ?_ (by omega), fun i hi => (u_wl_n2 hi).trans ((u_C_n2 hi).trans (i2 i hi))⟩
    rw [i2 7 (by decide)]
    exact (hR.2.2.1.1 p hp.1 hp.2).2.1.symm
end K_R36
