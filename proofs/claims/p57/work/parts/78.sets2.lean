/-! ===== served by search, by sets, by counting: alike ===== -/
section K_R22
variable {σ ρ τ : Nat → Nat → Int} {r : Nat → Int}
/-- the sets that some of the wishes can use -/
def g_ways (us : Nat → Int) (set : Int) (n : Nat) : Int := k_fold n (fun i x => if z_bit set (i : Int) = true then f_swo x (us i) else x) 1
theorem q_canPlace {p set nr : Int} {us : Nat → Int} (hr : 1 ≤ r 1 ∧ r 1 ≤ 4) (hm : r (45 + p).toNat ≤ 3) (hus : ∀ i : Nat, (i : Int) < r (45 + p).toNat → ∀ b : Nat, b < 4 → (z_bit (us i) (b : Int) = true ↔ (b : Int) < r 1 ∧ (if nr = 0 then r (17 + 4 * r (57 + 3 * p + (i : Int)).toNat + (b : Int)).toNat = 1 else m_hasRoom r (r (57 + 3 * p + (i : Int)).toNat) (b : Int) p = true))) : m_canPlace r p set nr = true ↔ g_ways us set (r (45 + p).toNat).toNat ≠ 0 := by
  have e : k_it (b_canPlace_6 r p set nr) (r (45 + p).toNat).toNat 0 1 = g_ways us set (r (45 + p).toNat).toNat := by
    rw [k_it_fold]
    refine k_fold_cong _ fun i hi x => ?_
    unfold b_canPlace_6
    by_cases q : z_bit set (i : Int) = true
    · rw [if_pos ((z_bit_shr _ _).mpr q), if_pos q]
      exact q_more hr (hus i (by omega))
    · rw [if_neg fun y => q ((z_bit_shr _ _).mp y), if_neg q]
  unfold m_canPlace r_canPlace_6
  rw [e]
  by_cases q : g_ways us set (r (45 + p).toNat).toNat = 0
  · rw [if_pos q]
    exact ⟨fun y => (by cases y), fun y => absurd q y⟩
  · rw [if_neg q]
    exact ⟨fun _ => q, fun _ => rfl⟩
theorem z_swo_0 (us : Int) : f_swo 0 us = 0 := by
  have h : ∀ n : Nat, f_swoN 0 us n = 0 := fun n => by
    induction n with
    | zero => rfl
    | succ n ih =>
      show f_swoI 0 us n (f_swoN 0 us n) 4 = 0
      rw [ih]
      unfold f_swoI
      exact k_fold_stop (fun (b : Nat) a => if z_bit 0 (n : Int) = true ∧ z_bit (z_diff us (n : Int)) (b : Int) = true then z_or a (z_one (z_or (n : Int) (z_one (b : Int)))) else a) 0 0 4 (by omega) fun i y _ _ => if_neg fun z => by
        rw [z_bit_0] at z
        cases z.1
  exact h 16
theorem z_swo_no (sets : Int) : f_swo sets 0 = 0 := by
  have h : ∀ n : Nat, f_swoN sets 0 n = 0 := fun n => by
    induction n with
    | zero => rfl
    | succ n ih =>
      show f_swoI sets 0 n (f_swoN sets 0 n) 4 = 0
      rw [ih]
      unfold f_swoI
      exact k_fold_stop (fun (b : Nat) a => if z_bit sets (n : Int) = true ∧ z_bit (z_diff 0 (n : Int)) (b : Int) = true then z_or a (z_one (z_or (n : Int) (z_one (b : Int)))) else a) 0 0 4 (by omega) fun i y _ _ => if_neg fun z => by
        rw [z_bit_diff, z_bit_0] at z
        cases z.2
  exact h 16
/-- what a wish may use, among the class's notes -/
theorem u_open11 (σ : Nat → Nat → Int) (p : Int) {i : Nat} (hi : i < 3) : u_open σ p 3 11 i = if (i : Int) < σ 5 p.toNat then f_open σ (f_wish σ p (i : Int)) else 0 := by
  have e : u_open σ p 3 11 = k_fold 3 (fun r g => k_u1 g r (if (r : Int) < σ 5 p.toNat then f_open σ (f_wish σ p (r : Int)) else 0)) (σ 11) := rfl
  rw [e, z_foldu (fun r => if (r : Int) < σ 5 p.toNat then f_open σ (f_wish σ p (r : Int)) else 0), if_pos hi]
theorem q_opens (hR : k_P1 r σ) (hI : k_Ty σ) {p : Int} (hp : 0 ≤ p ∧ p < σ 1 2) {i : Nat} (hi : (i : Int) < r (45 + p).toNat) {b : Nat} (hb : b < 4) : z_bit (u_open σ p 3 11 i) (b : Int) = true ↔ (b : Int) < r 1 ∧ r (17 + 4 * r (57 + 3 * p + (i : Int)).toNat + (b : Int)).toNat = 1 := by
  have h5 := hI.2.2.2.2.2.2.1 p.toNat
  rw [(hR.2.2.1.1 p hp.1 hp.2).1] at hi
  rw [u_open11 σ p (by omega), if_pos hi, hR.2.1.1.2.1]
  obtain ⟨w1, w2, w3⟩ := q_wish hR hI hp (k := (i : Int)) ⟨by omega, hi⟩
  rw [← w1, q_hasOpen hR ⟨w2, w3⟩ (b := (b : Int)) ⟨by omega, by omega⟩]
  exact ⟨fun h => ⟨(q_openB hR (by omega) h).2, h⟩, fun h => h.2⟩
/-- depth-first search and sets of blocks agree -/
theorem q_srv {us : Nat → Int} {cnt : Int} (hus : ∀ j, 0 ≤ us j ∧ us j < 16) (hc : 0 ≤ cnt ∧ cnt ≤ 3) {set : Int} (hset : ∀ i : Nat, (i : Int) < cnt → z_bit set (i : Int) = true) : g_srv us cnt 3 0 = true ↔ g_ways us set cnt.toNat ≠ 0 := by
  have hw16 : ∀ n : Nat, 0 ≤ g_ways us set n ∧ g_ways us set n < 65536 := fun n => by
    induction n with
    | zero => exact ⟨show (0 : Int) ≤ 1 by decide, show (1 : Int) < 65536 by decide⟩
    | succ n ih =>
      show 0 ≤ (if z_bit set (n : Int) = true then f_swo (g_ways us set n) (us n) else g_ways us set n) ∧ (if z_bit set (n : Int) = true then f_swo (g_ways us set n) (us n) else g_ways us set n) < 65536
      split
      · exact f_swoN_r _ _ 16 (Nat.le_refl 16)
      · exact ih
  have key : ∀ n : Nat, n ≤ cnt.toNat → (g_srv us cnt 3 0 = true ↔ ∃ t : Nat, t < 16 ∧ z_bit (g_ways us set n) (t : Int) = true ∧ g_srv us cnt (3 - n) (t : Int) = true) := fun n => by
    induction n with
    | zero =>
      intro _
      constructor
      · exact fun h => ⟨0, by omega, show z_bit 1 ((0 : Nat) : Int) = true by decide, h⟩
      · rintro ⟨t, t1, t2, t3⟩
        have e : z_bit (z_one 0) (t : Int) = true := t2
        rw [z_bit_one (Int.le_refl 0) (by omega)] at e
        have := of_decide_eq_true e
        rw [← this] at t3
        exact t3
    | succ n ih =>
      intro hn
      rw [ih (by omega)]
      have e3 : 3 - n = (3 - (n + 1)) + 1 := by omega
      have hs := hset n (by omega)
      have ew : g_ways us set (n + 1) = f_swo (g_ways us set n) (us n) := if_pos hs
      have eg : ∀ t : Int, g_srv us cnt (3 - n) t = true ↔ ∃ b : Nat, b < 4 ∧ z_bit (z_diff (us n) t) (b : Int) = true ∧ g_srv us cnt (3 - (n + 1)) (z_or t (z_one (b : Int))) = true := fun t => by
        rw [e3]
        show (if cnt ≤ 2 - ((3 - (n + 1) : Nat) : Int) then true else z_any 4 (fun b => z_bit (z_diff (us (2 - (3 - (n + 1)))) t) (b : Int) && g_srv us cnt (3 - (n + 1)) (z_or t (z_one (b : Int))))) = true ↔ _
        rw [if_neg (by omega), z_any_iff, show 2 - (3 - (n + 1)) = n by omega]
        constructor
        · rintro ⟨b, b1, b2⟩
          rw [Bool.and_eq_true] at b2
          exact ⟨b, b1, b2⟩
        · rintro ⟨b, b1, b2⟩
          exact ⟨b, b1, by rw [Bool.and_eq_true]; exact b2⟩
      rw [ew]
      constructor
      · rintro ⟨t, t1, t2, t3⟩
        obtain ⟨b, b1, b2, b3⟩ := (eg _).mp t3
        have hz := f_swo1 t1 b1
        refine ⟨(z_or (t : Int) (z_one (b : Int))).toNat, by omega, ?_, ?_⟩
        · rw [show (((z_or (t : Int) (z_one (b : Int))).toNat : Nat) : Int) = z_or (t : Int) (z_one (b : Int)) by omega]
          exact (z_swo _ _ _ hz.1).mpr ⟨t, b, t1, b1, ⟨t2, b2⟩, rfl⟩
        · rw [show (((z_or (t : Int) (z_one (b : Int))).toNat : Nat) : Int) = z_or (t : Int) (z_one (b : Int)) by omega]
          exact b3
      · rintro ⟨u, u1, u2, u3⟩
        obtain ⟨t, b, t1, b1, ⟨t2, b2⟩, e⟩ := (z_swo _ _ _ (by omega)).mp u2
        rw [e] at u3
        exact ⟨t, t1, t2, (eg _).mpr ⟨b, b1, b2, u3⟩⟩
  rw [key cnt.toNat (Nat.le_refl _)]
  have hend : ∀ t : Int, g_srv us cnt (3 - cnt.toNat) t = true := fun t => by
    by_cases q : cnt = 3
    · subst q
      rfl
    · rw [show 3 - cnt.toNat = (2 - cnt.toNat) + 1 by omega]
      show (if cnt ≤ 2 - ((2 - cnt.toNat : Nat) : Int) then true else _) = true
      rw [if_pos (by omega)]
  have hw := hw16 cnt.toNat
  generalize g_ways us set cnt.toNat = w at hw ⊢
  constructor
  · rintro ⟨t, _, t2, _⟩ z
    rw [z, z_bit_0] at t2
    cases t2
  · intro z
    by_cases q : ∃ t : Nat, t < 16 ∧ z_bit w (t : Int) = true
    · obtain ⟨t, t1, t2⟩ := q
      exact ⟨t, t1, t2, hend _⟩
    · exfalso
      have : w.toNat = 0 := Nat.eq_of_testBit_eq fun i => by
        rw [Nat.zero_testBit]
        by_cases hi : i < 16
        · cases h : w.toNat.testBit i with
          | false => rfl
          | true => exact absurd ⟨i, hi, h⟩ q
        · refine Nat.testBit_lt_two_pow ?_
          have : 2 ^ 16 ≤ 2 ^ i := Nat.pow_le_pow_right (by decide) (by omega)
          omega
      omega
theorem z_full (c : Int) (hc : 0 ≤ c ∧ c ≤ 3) (i : Nat) (hi : (i : Int) < c) : z_bit (z_one c - 1) (i : Int) = true := by
  have : c = 1 ∨ c = 2 ∨ c = 3 := by omega
  have hi3 : i = 0 ∨ i = 1 ∨ i = 2 := by omega
  rcases this with rfl | rfl | rfl <;> rcases hi3 with rfl | rfl | rfl <;> first | rfl | omega
theorem q_servable (hR : k_P1 r σ) (hI : k_Ty σ) (hS : k_Sc σ) {p : Int} (hp : 0 ≤ p ∧ p < σ 1 2) : g_srv (u_open σ p 3 11) (σ 5 p.toNat) 3 0 = true ↔ m_isServable r p = true := by
  have hm := (hR.2.2.1.1 p hp.1 hp.2).1
  have h5 := hI.2.2.2.2.2.2.1 p.toNat
  unfold m_isServable
  rw [decide_eq_true_eq, q_canPlace (us := u_open σ p 3 11) hR.1.2.1 (by omega) (fun i hi b hb => by rw [if_pos rfl]; exact q_opens hR hI hp hi hb), hm]
  exact q_srv (u_open_11 hI hS p 3) h5 fun i hi => z_full _ h5 i hi
end K_R22
