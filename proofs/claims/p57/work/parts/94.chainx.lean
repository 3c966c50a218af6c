/-! ===== JOINING: the path of a join's chain, and the plan behind it ===== -/
section P_C
variable {σ ρ τ : Nat → Nat → Int} {r : Nat → Int}
/-- the state from which a chain is carried out, the notes made -/
def u_cx (σ : Nat → Nat → Int) (s : Int) (m e : Nat) : Nat → Nat → Int := k_up (u_carN σ s m e m) 1 (k_u1 (σ 1) 9 (m : Int))
/-- what is known of a join with a chain of m moves that begins at e -/
def p_CX (r : Nat → Int) (σ : Nat → Nat → Int) (p s : Int) (m e : Nat) (x0 : Nat → Int) : Prop := ((m ≤ 3 ∧ e < 4) ∧ f_few σ s (f_free σ p) = (m : Int)) ∧ k_pth r (f_mover σ s m e) (f_path σ s m e) s m ∧ ((∀ k, k < m → p ≠ f_mover σ s m e k) ∧ r (105 + 4 * p + (e : Int)).toNat = -1 ∧ ∀ c : Int, 0 ≤ c → c < 4 → r (105 + 4 * p + c).toNat ≠ s) ∧ (∀ j, j < 3 ∨ 10 ≤ j → x0 j = r j) ∧ ((∀ k, k ≤ m → z_bit (f_open σ s) (f_path σ s m e k) = true) ∧ z_bit (f_roomy σ s 0) (f_path σ s m e m) = true) ∧ (u_car σ p s = u_enter (k_fold m (g_stepC (f_mover σ s m e) (f_path σ s m e) s) (u_cx σ s m e)) p s (e : Int)) ∧ ((k_P1 x0 (u_cx σ s m e) ∧ k_Ty (u_cx σ s m e)) ∧ k_P1 (k_u1 (k_fold m (g_step (f_mover σ s m e) (f_path σ s m e) s) x0) (105 + 4 * p + (e : Int)).toNat s) (u_car σ p s)) ∧ ∀ k, k < m → u_cx σ s m e 8 k = f_mover σ s m e k ∧ u_cx σ s m e 9 k = f_path σ s m e (k + 1)
theorem q_carX (hR : k_P1 (ρ 124) σ) (hI : k_Ty σ) (hC : k_Ch σ) {p s : Int} (hp : 0 ≤ p ∧ p < σ 1 2) (hs : 0 ≤ s ∧ s < σ 1 0) (hno : f_taken σ p s = -1) (hne0 : f_few σ s (f_free σ p) ≠ -1) : ∃ (m e : Nat) (x0 : Nat → Int), p_CX (ρ 124) σ p s m e x0 := by
  have hlk := q_lk hR hI hp hs
  rcases q_seek hI hlk with h | ⟨e, m, he, hm, s1, s2, s3, y, s4, s5⟩
  · exact absurd h.1 hne0
  · have hne : f_few σ s (f_free σ p) ≠ -1 := hne0
    have hS := hI.1
    have hPu := hI.2.2.1
    have hMo := hR.1
    obtain ⟨k1, k2, k3, k4⟩ := u_carry (s := s) (p := p) (m := (m : Int)) (e := (e : Int)) hI hC s2.symm s1.symm hne
    have hm3 : m ≤ 3 := by omega
    have hr2 : ρ 124 2 = σ 1 2 := hR.2.1.1.2.2
    have hpok := g_path_ok (u_few_inv σ s) (m := (m : Int)) (e := (e : Int)) k2 (by rw [Int.toNat_natCast]; exact s3)
    have hPd : ∀ k, k ≤ m → u_few σ s 17 (f_path σ s m e k).toNat = (m : Int) - k := fun k hk => (hpok k (by omega)).2
    have hP : ∀ k, k ≤ m → 0 ≤ f_path σ s m e k ∧ f_path σ s m e k < 4 := fun k hk => k3 k (by omega)
    have hmove : ∀ k, k < m → f_mover σ s m e k = m_mover (ρ 124) s (f_path σ s m e k) (f_path σ s m e (k + 1)) := fun k hk => by
      have p0 := hP k (by omega)
      have p1 := hP (k + 1) (by omega)
      rw [← hlk.1 _ _ p0 p1]
      unfold f_mover
      rw [u_few15 σ s _ (by omega), u_few16 σ s _ (by omega), show (((f_path σ s m e k).toNat : Nat) : Int) = f_path σ s m e k by omega, show (((f_path σ s m e (k + 1)).toNat : Nat) : Int) = f_path σ s m e (k + 1) by omega]
    have hpth : k_pth (ρ 124) (f_mover σ s m e) (f_path σ s m e) s m := by
      refine ⟨hP, fun k l hk hl z => ?_, fun k hk => ?_, fun q b c hq hq2 hb hb4 hc hc4 z1 z2 => ?_⟩
      · have a := hPd k hk
        rw [z, hPd l hl] at a
        omega
      · have a := hmove k hk
        have b := k4 k (by omega)
        have hv : m_mover (ρ 124) s (f_path σ s m e k) (f_path σ s m e (k + 1)) ≠ -1 := by rw [← a]; omega
        have c := z_mover (ρ 124) s (f_path σ s m e k) (f_path σ s m e (k + 1))
        rcases z_first_spec (P := fun q : Nat => decide (ρ 124 (105 + 4 * (q : Int) + f_path σ s m e k).toNat = s ∧ ρ 124 (105 + 4 * (q : Int) + f_path σ s m e (k + 1)).toNat = -1)) (ρ 124 2).toNat with ⟨w1, w2⟩ | ⟨q, w1, w2, w3, w4⟩
        · exact absurd (c.trans w1) hv
        · have w3 := of_decide_eq_true w3
          have eq : f_mover σ s m e k = (q : Int) := a.trans (c.trans w2)
          rw [eq]
          exact ⟨⟨by omega, by omega⟩, w3.1, w3.2, c.trans w2⟩
      · rw [hr2] at hq2
        exact hR.2.2.2.1.2.2.2 q b c hq hq2 hb hb4 hc hc4 (z1.trans z2.symm) (by omega)
    -- the class's notes
    have hcar : ∀ j, u_carN σ s m e m 8 j = if j < m then f_mover σ s m e j else σ 8 j := fun j => by
      have : u_carN σ s m e m 8 = k_fold m (fun k g => k_u1 g k (f_mover σ s m e k)) (u_few σ s 8) := rfl
      rw [this, z_foldu]
      rfl
    have hcar9 : ∀ j, u_carN σ s m e m 9 j = if j < m then f_path σ s m e (j + 1) else σ 9 j := fun j => by
      have : u_carN σ s m e m 9 = k_fold m (fun k g => k_u1 g k (f_path σ s m e (k + 1))) (u_few σ s 9) := rfl
      rw [this, z_foldu (fun k => f_path σ s m e (k + 1))]
      rfl
    have hIc := u_carN_ty hI k3 k4 m (by omega)
    have hI0 : k_Ty (k_up (u_carN σ s m e m) 1 (k_u1 (σ 1) 9 (m : Int))) := k_up19_ty (m := (m : Int)) hIc ⟨by omega, by omega⟩
    -- the row with the notes
    have hx0 : ∃ x0 : Nat → Int, x0 3 = m ∧ (∀ k, k < m → x0 (4 + k) = f_mover σ s m e k ∧ x0 (7 + k) = f_path σ s m e (k + 1)) ∧ (∀ j, j < 3 ∨ 10 ≤ j → x0 j = ρ 124 j) ∧ k_Mo x0 ∧ (∀ j, 4 ≤ j → j < 10 → (∀ k, k < m → j ≠ 4 + k ∧ j ≠ 7 + k) → x0 j = ρ 124 j) := by
      have step : ∀ n, n ≤ m → ∃ x0 : Nat → Int, x0 3 = m ∧ (∀ k, k < n → x0 (4 + k) = f_mover σ s m e k ∧ x0 (7 + k) = f_path σ s m e (k + 1)) ∧ (∀ j, j < 3 ∨ 10 ≤ j → x0 j = ρ 124 j) ∧ k_Mo x0 ∧ (∀ j, 4 ≤ j → j < 10 → (∀ k, k < n → j ≠ 4 + k ∧ j ≠ 7 + k) → x0 j = ρ 124 j) := by
        intro n
        induction n with
        | zero => exact fun _ => ⟨k_u1 (ρ 124) 3 m, if_pos rfl, fun k hk => absurd hk (Nat.not_lt_zero k), fun j hj => if_neg (by omega), k_Mo_u hMo (by omega), fun j h1 _ _ => if_neg (by omega)⟩
        | succ n ih =>
          intro hn
          obtain ⟨x, x1, x2, x3, x4, x5⟩ := ih (by omega)
          have b := k4 n (by omega)
          have c := hP (n + 1) (by omega)
          refine ⟨k_u1 (k_u1 x (4 + n) (f_mover σ s m e n)) (7 + n) (f_path σ s m e (n + 1)), (if_neg (by omega)).trans ((if_neg (by omega)).trans x1), fun k hk => ?_, fun j hj => (if_neg (by omega)).trans ((if_neg (by omega)).trans (x3 j hj)), k_Mo_u (k_Mo_u x4 (by omega)) (by omega), fun j h1 h2 h3 => by
            have := h3 n (by omega)
            exact (if_neg (by omega)).trans ((if_neg (by omega)).trans (x5 j h1 h2 fun k hk => h3 k (by omega)))⟩
          by_cases q : k = n
          · subst q
            exact ⟨(if_neg (by omega)).trans (if_pos rfl), if_pos rfl⟩
          · have := x2 k (by omega)
            exact ⟨(if_neg (by omega)).trans ((if_neg (by omega)).trans this.1), (if_neg (by omega)).trans ((if_neg (by omega)).trans this.2)⟩
      exact step m (Nat.le_refl m)
    obtain ⟨x0, x1, x2, x3, x4, x5⟩ := hx0
    have hP0 : k_P1 x0 (k_up (u_carN σ s m e m) 1 (k_u1 (σ 1) 9 (m : Int))) := by
      obtain ⟨hM, ⟨⟨a0, a1, a2⟩, b, c, d, e'⟩, ⟨w1, w2, w3, w4⟩, ⟨t1, t2, t3, t4⟩, hc⟩ := hR
      have ho : ∀ j : Nat, j ≠ 9 → k_u1 (σ 1) 9 (m : Int) j = σ 1 j := fun j hj => if_neg hj
      have ho9 : k_u1 (σ 1) 9 (m : Int) 9 = m := if_pos rfl
      show k_PR x0 (k_u1 (σ 1) 9 (m : Int)) (σ 2) (σ 3) (σ 4) (σ 5) (σ 6) (σ 7) (u_carN σ s m e m 8) (u_carN σ s m e m 9)
      generalize k_u1 (σ 1) 9 (m : Int) = o' at ho ho9 ⊢
      have o0 := ho 0 (by decide)
      have o1 := ho 1 (by decide)
      have o2 := ho 2 (by decide)
      refine ⟨x4, k_PRo_r (r := ρ 124) ⟨?_, ?_, ?_, ?_, ?_⟩ (by omega) (fun j h1 h2 => x3 j (by omega)) (fun j h1 h2 => x3 j (by omega)), k_PRw_r (r := ρ 124) ⟨?_, ?_, ?_, ?_⟩ (by omega) (fun j => (hI.2.2.2.2.2.2.1 j).2) (fun j h1 _ => x3 j (by omega)), k_PRt_r (r := ρ 124) ⟨?_, ?_, ?_, ?_⟩ (by omega) (fun j h1 _ => x3 j (by omega)), ?_, fun k hk0 hk1 => ?_⟩
      · rw [o0, o1, o2]
        exact ⟨a0, a1, a2⟩
      · rw [o0]
        exact b
      · rw [o0]
        exact c
      · rw [o0, o1]
        exact d
      · rw [o0]
        exact e'
      · rw [o2, o0]
        exact w1
      · rw [o2, o0]
        exact w2
      · rw [o2]
        exact w3
      · rw [o2]
        exact w4
      · rw [o2]
        exact t1
      · rw [o2]
        exact t2
      · rw [o0]
        exact t3
      · rw [o2]
        exact t4
      · rw [x1, ho9]
      · rw [ho9] at hk1
        rw [hcar, hcar9, if_pos (by omega), if_pos (by omega), show (4 + k).toNat = 4 + k.toNat by omega, show (7 + k).toNat = 7 + k.toNat by omega]
        exact x2 k.toNat (by omega)
    have hopen : ∀ k, k ≤ m → z_bit (f_open σ s) (f_path σ s m e k) = true := fun k hk => by
      have p0 := hP k hk
      refine (hlk.2.2.2.2 _ p0).mp ?_
      by_cases q : k = m
      · subst q
        have h0 := hPd k (Nat.le_refl k)
        have hb : (f_path σ s k e k).toNat < 4 := by omega
        have h00 := g_dist_0 (ro := u_few σ s 15) (bu := u_few σ s 16) (d0 := u_lookN σ s 4 17) 3 (f_path σ s k e k).toNat hb (show u_few σ s 17 (f_path σ s k e k).toNat = 0 by omega)
        rw [u_look17 σ s _ hb] at h00
        by_cases w : z_bit (f_roomy σ s 0) (((f_path σ s k e k).toNat : Nat) : Int) = true
        · rw [show (((f_path σ s k e k).toNat : Nat) : Int) = f_path σ s k e k by omega] at w
          exact ((hlk.2.1 _ p0).mp w).1
        · rw [if_neg w] at h00
          cases h00
      · have p1 := hP (k + 1) (by omega)
        refine hlk.2.2.2.1 _ _ p0 p1 ?_
        rw [← hmove k (by omega)]
        have := k4 k (by omega)
        omega
    have hup := q_upC (τ := k_up (u_carN σ s m e m) 1 (k_u1 (σ 1) 9 (m : Int))) hpth x0 (fun j hj => x3 j (by omega)) hP0 hI0 hr2 hs (fun k hk => by
      have : f_open (k_up (u_carN σ s m e m) 1 (k_u1 (σ 1) 9 (m : Int))) s = f_open σ s := rfl
      rw [this]
      exact hopen k hk) m (Nat.le_refl m)
    obtain ⟨g1, g2, g3⟩ := g_up hpth x0 (fun j hj => x3 j (by omega)) m (Nat.le_refl m)
    obtain ⟨c1, c2, c3⟩ := hup
    have hfree : ∀ c : Int, 0 ≤ c → c < 4 → ρ 124 (105 + 4 * p + c).toNat ≠ s := by
      rw [q_taken hR hI hp (s := s) ⟨hs.1, by omega⟩] at hno
      exact ((z_blockOf (ρ 124) p s).resolve_right fun y => by omega).2
    have hpM : ∀ k, k < m → p ≠ f_mover σ s m e k := fun k hk z => by
      have := (hpth.2.2.1 k hk).2.1
      rw [← z] at this
      have p0 := hP k (by omega)
      exact hfree _ p0.1 p0.2 this
    have hpe : ρ 124 (105 + 4 * p + (e : Int)).toNat = -1 := by
      have h0 := hopen 0 (Nat.zero_le m)
      have h1 := (hlk.2.2.2.2 (e : Int) ⟨by omega, by omega⟩).mpr h0
      refine (hlk.2.2.1 (e : Int) ⟨by omega, by omega⟩ h1).1.mp ?_
      rcases g_near_spec (u_few σ s 17) (f_free σ p) 4 with ⟨w1, -⟩ | ⟨e2, w1, w2, w3, -⟩
      · have : g_near (u_few σ s 17) (f_free σ p) = -1 := w1
        omega
      · have : g_near (u_few σ s 17) (f_free σ p) = (e2 : Int) := w2
        have : e2 = e := by omega
        subst this
        exact w3.1
    have hfin := q_enter c1 c2 (p := p) (s := s) (b := (e : Int)) (by rw [c3 1 (by decide)]; exact hp) (by rw [c3 1 (by decide)]; exact hs) ⟨by omega, by omega⟩ ((g2 p (e : Int) hp.1 (by omega) (by omega) hpM).trans hpe) (fun c c0 c4 => by
      rw [g2 p c hp.1 c0 c4 hpM]
      exact hfree c c0 c4) (by
      rw [f_open_ne c3]
      exact hopen 0 (Nat.zero_le m))
    have hu : u_car σ p s = u_enter (k_fold m (g_stepC (f_mover σ s m e) (f_path σ s m e) s) (k_up (u_carN σ s m e m) 1 (k_u1 (σ 1) 9 (m : Int)))) p s (e : Int) := by
      unfold u_car u_carE u_moves u_movesN
      rw [s1, s2, Int.toNat_natCast]
      have hf : ∀ n, n ≤ m → k_fold n (fun k τ => u_enter (u_leave τ (u_carN σ s m e m 8 k) s (u_moveF (u_carN σ s m e m) e k)) (u_carN σ s m e m 8 k) s (u_carN σ s m e m 9 k)) (k_up (u_carN σ s m e m) 1 (k_u1 (u_carN σ s m e m 1) 9 (m : Int))) = k_fold n (g_stepC (f_mover σ s m e) (f_path σ s m e) s) (k_up (u_carN σ s m e m) 1 (k_u1 (σ 1) 9 (m : Int))) := by
        intro n
        induction n with
        | zero => exact fun _ => rfl
        | succ n ih =>
          intro hn
          show u_enter (u_leave (k_fold n _ _) _ s _) _ s _ = u_enter (u_leave (k_fold n _ _) _ s _) _ s _
          rw [ih (by omega), hcar, hcar9, if_pos (by omega), if_pos (by omega)]
          have : u_moveF (u_carN σ s m e m) e n = f_path σ s m e n := by
            cases n with
            | zero => rfl
            | succ n =>
              show u_carN σ s m e m 9 n = _
              rw [hcar9, if_pos (by omega)]
          rw [this]
      rw [hf m (Nat.le_refl m)]
    have hroom : z_bit (f_roomy σ s 0) (f_path σ s m e m) = true := by
      have p0 := hP m (Nat.le_refl m)
      have h0 := hPd m (Nat.le_refl m)
      have hb : (f_path σ s m e m).toNat < 4 := by omega
      have h00 := g_dist_0 (ro := u_few σ s 15) (bu := u_few σ s 16) (d0 := u_lookN σ s 4 17) 3 (f_path σ s m e m).toNat hb (show u_few σ s 17 (f_path σ s m e m).toNat = 0 by omega)
      rw [u_look17 σ s _ hb] at h00
      by_cases w : z_bit (f_roomy σ s 0) (((f_path σ s m e m).toNat : Nat) : Int) = true
      · rwa [show (((f_path σ s m e m).toNat : Nat) : Int) = f_path σ s m e m by omega] at w
      · rw [if_neg w] at h00
        cases h00
    have hfin2 : k_P1 (k_u1 (k_fold m (g_step (f_mover σ s m e) (f_path σ s m e) s) x0) (105 + 4 * p + (e : Int)).toNat s) (u_car σ p s) := by
      rw [hu]
      exact hfin
    refine ⟨m, e, x0, ⟨⟨hm3, he⟩, s2⟩, hpth, ⟨hpM, hpe, hfree⟩, x3, ⟨hopen, hroom⟩, hu, ⟨⟨hP0, hI0⟩, hfin2⟩, fun k hk => ⟨?_, ?_⟩⟩
    · have := hcar k
      rw [if_pos hk] at this
      exact this
    · have := hcar9 k
      rw [if_pos hk] at this
      exact this
end P_C
