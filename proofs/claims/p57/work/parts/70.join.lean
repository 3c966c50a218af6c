/-! ===== JOINING and CHANGING alike ===== -/
section K_R14
variable {σ ρ τ : Nat → Nat → Int} {r : Nat → Int} {M P : Nat → Int} {s : Int} {m : Nat}
def g_stepC (M P : Nat → Int) (s : Int) (k : Nat) (τ : Nat → Nat → Int) : Nat → Nat → Int := u_enter (u_leave τ (M k) s (P k)) (M k) s (P (k + 1))
theorem f_open_ne {τ' : Nat → Nat → Int} (h : ∀ i, i ≠ 4 → τ' i = τ i) (s : Int) : f_open τ' s = f_open τ s := by
  unfold f_open
  rw [h 1 (by decide), h 3 (by decide)]
theorem q_upC (h : k_pth r M P s m) (x0 : Nat → Int) (hx0 : ∀ j, 105 ≤ j → x0 j = r j) (hP0 : k_P1 x0 τ) (hI0 : k_Ty τ) (hr2 : r 2 = τ 1 2) (hs : 0 ≤ s ∧ s < τ 1 0) (hop : ∀ k, k ≤ m → z_bit (f_open τ s) (P k) = true) : ∀ n : Nat, n ≤ m → k_P1 (k_fold n (g_step M P s) x0) (k_fold n (g_stepC M P s) τ) ∧ k_Ty (k_fold n (g_stepC M P s) τ) ∧ ∀ i, i ≠ 4 → k_fold n (g_stepC M P s) τ i = τ i
  | 0, _ => ⟨hP0, hI0, fun _ _ => rfl⟩
  | n + 1, hn => by
    obtain ⟨c1, c2, c3⟩ := q_upC h x0 hx0 hP0 hI0 hr2 hs hop n (by omega)
    obtain ⟨i1, i2, i3⟩ := g_up h x0 hx0 n (by omega)
    have hh := h
    obtain ⟨h1, h2, h3, h4⟩ := h
    obtain ⟨a1, a2, a3, a4⟩ := h3 n (by omega)
    have p0 := h1 n (by omega)
    have p1 := h1 (n + 1) (by omega)
    have hP := hI0.2.2.1
    have hS := hI0.1
    have e1 : k_fold (n + 1) (g_step M P s) x0 = g_step M P s n (k_fold n (g_step M P s) x0) := rfl
    have e2 : k_fold (n + 1) (g_stepC M P s) τ = g_stepC M P s n (k_fold n (g_stepC M P s) τ) := rfl
    have hrow : ∀ b : Int, 0 ≤ b → b < 4 → k_fold n (g_step M P s) x0 (105 + 4 * M n + b).toNat = r (105 + 4 * M n + b).toNat := fun b b0 b4 => i2 (M n) b a1.1 b0 b4 fun l hl z => by have := g_M_ne hh (by omega) (by omega) z; omega
    rw [e1, e2]
    generalize k_fold n (g_step M P s) x0 = x at c1 hrow ⊢
    generalize k_fold n (g_stepC M P s) τ = υ at c1 c2 c3 ⊢
    have v1 : υ 1 = τ 1 := c3 1 (by decide)
    have hb0 : P n < υ 1 1 := by
      have := (q_openB c1 p0.1 (s := s) (b := P n) (by rw [f_open_ne c3]; exact hop n (by omega))).2
      exact this
    have hne : P n ≠ P (n + 1) := fun z => by have := h2 n (n + 1) (by omega) (by omega) z; omega
    have hs' : 0 ≤ s ∧ s < υ 1 0 := by rw [v1]; exact hs
    have hMn : 0 ≤ M n ∧ M n < υ 1 2 := by rw [v1, ← hr2]; exact a1
    have l1 := q_leave c1 c2 (p := M n) (s := s) (b := P n) hMn hs' ⟨p0.1, hb0⟩ (by rw [hrow _ p0.1 p0.2]; exact a2)
    have l2 := u_leave_ty (p := M n) (s := s) (b := P n) c2
    have l3 : ∀ i, i ≠ 4 → u_leave υ (M n) s (P n) i = υ i := fun i hi => u_leave_ne hi
    have w1 : u_leave υ (M n) s (P n) 1 = τ 1 := (l3 1 (by decide)).trans v1
    have n1 := q_enter l1 l2 (p := M n) (s := s) (b := P (n + 1)) (by rw [w1, ← hr2]; exact a1) (by rw [w1]; exact hs) p1 ((if_neg (by omega)).trans ((hrow _ p1.1 p1.2).trans a3)) (fun c c0 c4 => by
      unfold k_u1
      by_cases e : c = P n
      · rw [if_pos (by rw [e])]
        omega
      · rw [if_neg (by omega), hrow c c0 c4]
        intro z
        exact e (h4 (M n) c (P n) a1.1 a1.2 c0 c4 p0.1 p0.2 z a2)) (by rw [f_open_ne l3, f_open_ne c3]; exact hop (n + 1) hn)
    refine ⟨n1, u_enter_ty l2 ⟨a1.1, by omega⟩, fun i hi => ?_⟩
    exact (u_enter_ne hi).trans ((l3 i hi).trans (c3 i hi))
theorem q_car (hR : k_P1 (ρ 124) σ) (hI : k_Ty σ) (hC : k_Ch σ) {p s : Int} (hp : 0 ≤ p ∧ p < σ 1 2) (hs : 0 ≤ s ∧ s < σ 1 0) (hno : f_taken σ p s = -1) : (f_few σ s (f_free σ p) = -1 ∧ (m_findsChain ρ p s).1 = -1) ∨ (f_few σ s (f_free σ p) ≠ -1 ∧ (m_findsChain ρ p s).1 = f_few σ s (f_free σ p) ∧ k_P1 (k_u1 (k_u1 (k_it (b_joinNow_71 ρ p s) ((m_findsChain ρ p s).1).toNat 0 ((m_findsChain ρ p s).2 124)) ((105 + (4 * p)) + (((m_findsChain ρ p s).2 133) 0)).toNat s) 3 ((m_findsChain ρ p s).1)) (u_car σ p s)) := by
  have hlk := q_lk hR hI hp hs
  rcases q_seek hI hlk with h | ⟨e, m, he, hm, s1, s2, s3, y, s4, s5⟩
  · exact Or.inl h
  · right
    have hne : f_few σ s (f_free σ p) ≠ -1 := by rw [s2]; omega
    have hS := hI.1
    have hPu := hI.2.2.1
    have hMo := hR.1
    obtain ⟨k1, k2, k3, k4⟩ := u_carry (s := s) (p := p) (m := (m : Int)) (e := (e : Int)) hI hC s2.symm s1.symm hne
    have hm3 : m ≤ 3 := by omega
    have hr2 : ρ 124 2 = σ 1 2 := hR.2.1.1.2.2
    have hpok := g_path_ok (u_few_inv σ s) (m := (m : Int)) (e := (e : Int)) k2 (by rw [Int.toNat_natCast]; exact s3)
    have hPd : ∀ k, k ≤ m → u_few σ s 17 (f_path σ s m e k).toNat = (m : Int) - k := fun k hk => (hpok k (by omega)).2
    have hP : ∀ k, k ≤ m → 0 ≤ f_path σ s m e k ∧ f_path σ s m e k < 4 := fun k hk => k3 k (by omega)
    have hmove : ∀ k, k < m → f_mover σ s m e k = m_mover (ρ 124) s (f_path σ s m e k) (f_path σ s m e (k + 1)) := fun k hk => by
      have p0 := hP k (by omega)
      have p1 := hP (k + 1) (by omega)
      rw [← hlk.1 _ _ p0 p1]
      unfold f_mover
      rw [u_few15 σ s _ (by omega), u_few16 σ s _ (by omega), show (((f_path σ s m e k).toNat : Nat) : Int) = f_path σ s m e k by omega, show (((f_path σ s m e (k + 1)).toNat : Nat) : Int) = f_path σ s m e (k + 1) by omega]
    have hpth : k_pth (ρ 124) (f_mover σ s m e) (f_path σ s m e) s m := by
      refine ⟨hP, fun k l hk hl z => ?_, fun k hk => ?_, fun q b c hq hq2 hb hb4 hc hc4 z1 z2 => ?_⟩
      · have a := hPd k hk
        rw [z, hPd l hl] at a
        omega
      · have a := hmove k hk
        have b := k4 k (by omega)
        have hv : m_mover (ρ 124) s (f_path σ s m e k) (f_path σ s m e (k + 1)) ≠ -1 := by rw [← a]; omega
        have c := z_mover (ρ 124) s (f_path σ s m e k) (f_path σ s m e (k + 1))
        rcases z_first_spec (P := fun q : Nat => decide (ρ 124 (105 + 4 * (q : Int) + f_path σ s m e k).toNat = s ∧ ρ 124 (105 + 4 * (q : Int) + f_path σ s m e (k + 1)).toNat = -1)) (ρ 124 2).toNat with ⟨w1, w2⟩ | ⟨q, w1, w2, w3, w4⟩
        · exact absurd (c.trans w1) hv
        · have w3 := of_decide_eq_true w3
          have eq : f_mover σ s m e k = (q : Int) := a.trans (c.trans w2)
          rw [eq]
          exact ⟨⟨by omega, by omega⟩, w3.1, w3.2, c.trans w2⟩
      · rw [hr2] at hq2
        exact hR.2.2.2.1.2.2.2 q b c hq hq2 hb hb4 hc hc4 (z1.trans z2.symm) (by omega)
    -- the class's notes
    have hcar : ∀ j, u_carN σ s m e m 8 j = if j < m then f_mover σ s m e j else σ 8 j := fun j => by
      have : u_carN σ s m e m 8 = k_fold m (fun k g => k_u1 g k (f_mover σ s m e k)) (u_few σ s 8) := rfl
      rw [this, z_foldu]
      rfl
    have hcar9 : ∀ j, u_carN σ s m e m 9 j = if j < m then f_path σ s m e (j + 1) else σ 9 j := fun j => by
      have : u_carN σ s m e m 9 = k_fold m (fun k g => k_u1 g k (f_path σ s m e (k + 1))) (u_few σ s 9) := rfl
      rw [this, z_foldu (fun k => f_path σ s m e (k + 1))]
      rfl
    have hIc := u_carN_ty hI k3 k4 m (by omega)
    have hI0 : k_Ty (k_up (u_carN σ s m e m) 1 (k_u1 (σ 1) 9 (m : Int))) := k_up19_ty (m := (m : Int)) hIc ⟨by omega, by omega⟩
    -- the row with the notes
    have hx0 : ∃ x0 : Nat → Int, x0 3 = m ∧ (∀ k, k < m → x0 (4 + k) = f_mover σ s m e k ∧ x0 (7 + k) = f_path σ s m e (k + 1)) ∧ (∀ j, j < 3 ∨ 10 ≤ j → x0 j = ρ 124 j) ∧ k_Mo x0 ∧ (∀ j, 4 ≤ j → j < 10 → (∀ k, k < m → j ≠ 4 + k ∧ j ≠ 7 + k) → x0 j = ρ 124 j) := by
      have step : ∀ n, n ≤ m → ∃ x0 : Nat → Int, x0 3 = m ∧ (∀ k, k < n → x0 (4 + k) = f_mover σ s m e k ∧ x0 (7 + k) = f_path σ s m e (k + 1)) ∧ (∀ j, j < 3 ∨ 10 ≤ j → x0 j = ρ 124 j) ∧ k_Mo x0 ∧ (∀ j, 4 ≤ j → j < 10 → (∀ k, k < n → j ≠ 4 + k ∧ j ≠ 7 + k) → x0 j = ρ 124 j) := by
        intro n
        induction n with
        | zero => exact fun _ => ⟨k_u1 (ρ 124) 3 m, if_pos rfl, fun k hk => absurd hk (Nat.not_lt_zero k), fun j hj => if_neg (by omega), k_Mo_u hMo (by omega), fun j h1 _ _ => if_neg (by omega)⟩
        | succ n ih =>
          intro hn
          obtain ⟨x, x1, x2, x3, x4, x5⟩ := ih (by omega)
          have b := k4 n (by omega)
          have c := hP (n + 1) (by omega)
          refine ⟨k_u1 (k_u1 x (4 + n) (f_mover σ s m e n)) (7 + n) (f_path σ s m e (n + 1)), (if_neg (by omega)).trans ((if_neg (by omega)).trans x1), fun k hk => ?_, fun j hj => (if_neg (by omega)).trans ((if_neg (by omega)).trans (x3 j hj)), k_Mo_u (k_Mo_u x4 (by omega)) (by omega), fun j h1 h2 h3 => by
            have := h3 n (by omega)
            exact (if_neg (by omega)).trans ((if_neg (by omega)).trans (x5 j h1 h2 fun k hk => h3 k (by omega)))⟩
          by_cases q : k = n
          · subst q
            exact ⟨(if_neg (by omega)).trans (if_pos rfl), if_pos rfl⟩
          · have := x2 k (by omega)
            exact ⟨(if_neg (by omega)).trans ((if_neg (by omega)).trans this.1), (if_neg (by omega)).trans ((if_neg (by omega)).trans this.2)⟩
      exact step m (Nat.le_refl m)
    obtain ⟨x0, x1, x2, x3, x4, x5⟩ := hx0
    have hP0 : k_P1 x0 (k_up (u_carN σ s m e m) 1 (k_u1 (σ 1) 9 (m : Int))) := by
      obtain ⟨hM, ⟨⟨a0, a1, a2⟩, b, c, d, e'⟩, ⟨w1, w2, w3, w4⟩, ⟨t1, t2, t3, t4⟩, hc⟩ := hR
      have ho : ∀ j : Nat, j ≠ 9 → k_u1 (σ 1) 9 (m : Int) j = σ 1 j := fun j hj => if_neg hj
      have ho9 : k_u1 (σ 1) 9 (m : Int) 9 = m := if_pos rfl
      show k_PR x0 (k_u1 (σ 1) 9 (m : Int)) (σ 2) (σ 3) (σ 4) (σ 5) (σ 6) (σ 7) (u_carN σ s m e m 8) (u_carN σ s m e m 9)
      generalize k_u1 (σ 1) 9 (m : Int) = o' at ho ho9 ⊢
      have o0 := ho 0 (by decide)
      have o1 := ho 1 (by decide)
      have o2 := ho 2 (by decide)
      refine ⟨x4, k_PRo_r (r := ρ 124) ⟨?_, ?_, ?_, ?_, ?_⟩ (by omega) (fun j h1 h2 => x3 j (by omega)) (fun j h1 h2 => x3 j (by omega)), k_PRw_r (r := ρ 124) ⟨?_, ?_, ?_, ?_⟩ (by omega) (fun j => (hI.2.2.2.2.2.2.1 j).2) (fun j h1 _ => x3 j (by omega)), k_PRt_r (r := ρ 124) ⟨?_, ?_, ?_, ?_⟩ (by omega) (fun j h1 _ => x3 j (by omega)), ?_, fun k hk0 hk1 => ?_⟩
      · rw [o0, o1, o2]
        exact ⟨a0, a1, a2⟩
      · rw [o0]
        exact b
      · rw [o0]
        exact c
      · rw [o0, o1]
        exact d
      · rw [o0]
        exact e'
      · rw [o2, o0]
        exact w1
      · rw [o2, o0]
        exact w2
      · rw [o2]
        exact w3
      · rw [o2]
        exact w4
      · rw [o2]
        exact t1
      · rw [o2]
        exact t2
      · rw [o0]
        exact t3
      · rw [o2]
        exact t4
      · rw [x1, ho9]
      · rw [ho9] at hk1
        rw [hcar, hcar9, if_pos (by omega), if_pos (by omega), show (4 + k).toNat = 4 + k.toNat by omega, show (7 + k).toNat = 7 + k.toNat by omega]
        exact x2 k.toNat (by omega)
    have hopen : ∀ k, k ≤ m → z_bit (f_open σ s) (f_path σ s m e k) = true := fun k hk => by
      have p0 := hP k hk
      refine (hlk.2.2.2.2 _ p0).mp ?_
      by_cases q : k = m
      · subst q
        have h0 := hPd k (Nat.le_refl k)
        have hb : (f_path σ s k e k).toNat < 4 := by omega
        have h00 := g_dist_0 (ro := u_few σ s 15) (bu := u_few σ s 16) (d0 := u_lookN σ s 4 17) 3 (f_path σ s k e k).toNat hb (show u_few σ s 17 (f_path σ s k e k).toNat = 0 by omega)
        rw [u_look17 σ s _ hb] at h00
        by_cases w : z_bit (f_roomy σ s 0) (((f_path σ s k e k).toNat : Nat) : Int) = true
        · rw [show (((f_path σ s k e k).toNat : Nat) : Int) = f_path σ s k e k by omega] at w
          exact ((hlk.2.1 _ p0).mp w).1
        · rw [if_neg w] at h00
          cases h00
      · have p1 := hP (k + 1) (by omega)
        refine hlk.2.2.2.1 _ _ p0 p1 ?_
        rw [← hmove k (by omega)]
        have := k4 k (by omega)
        omega
    have hup := q_upC (τ := k_up (u_carN σ s m e m) 1 (k_u1 (σ 1) 9 (m : Int))) hpth x0 (fun j hj => x3 j (by omega)) hP0 hI0 hr2 hs (fun k hk => by
      have : f_open (k_up (u_carN σ s m e m) 1 (k_u1 (σ 1) 9 (m : Int))) s = f_open σ s := rfl
      rw [this]
      exact hopen k hk) m (Nat.le_refl m)
    obtain ⟨g1, g2, g3⟩ := g_up hpth x0 (fun j hj => x3 j (by omega)) m (Nat.le_refl m)
    obtain ⟨c1, c2, c3⟩ := hup
    have hfree : ∀ c : Int, 0 ≤ c → c < 4 → ρ 124 (105 + 4 * p + c).toNat ≠ s := by
      rw [q_taken hR hI hp (s := s) ⟨hs.1, by omega⟩] at hno
      exact ((z_blockOf (ρ 124) p s).resolve_right fun y => by omega).2
    have hpM : ∀ k, k < m → p ≠ f_mover σ s m e k := fun k hk z => by
      have := (hpth.2.2.1 k hk).2.1
      rw [← z] at this
      have p0 := hP k (by omega)
      exact hfree _ p0.1 p0.2 this
    have hpe : ρ 124 (105 + 4 * p + (e : Int)).toNat = -1 := by
      have h0 := hopen 0 (Nat.zero_le m)
      have h1 := (hlk.2.2.2.2 (e : Int) ⟨by omega, by omega⟩).mpr h0
      refine (hlk.2.2.1 (e : Int) ⟨by omega, by omega⟩ h1).1.mp ?_
      rcases g_near_spec (u_few σ s 17) (f_free σ p) 4 with ⟨w1, -⟩ | ⟨e2, w1, w2, w3, -⟩
      · have : g_near (u_few σ s 17) (f_free σ p) = -1 := w1
        omega
      · have : g_near (u_few σ s 17) (f_free σ p) = (e2 : Int) := w2
        have : e2 = e := by omega
        subst this
        exact w3.1
    -- the model's
    have hcm : ((m_findsChain ρ p s).1) = (m : Int) := by rw [s5]
    have hc2 : (m_findsChain ρ p s).2 = k_up ρ 133 y := by rw [s5]
    have hb : b_joinNow_71 ρ p s = g_down s y m := by
      funext i x
      unfold b_joinNow_71 g_down
      rw [hcm, hc2, k_up_same]
    have hdn := g_dn (y := y) hpth hMo hm3 ⟨hs.1, by omega⟩ s4 m (Nat.le_refl m)
    rw [hcm, hc2, hb, k_up_same, k_up_ne (show (124 : Nat) ≠ 133 by decide), Int.toNat_natCast, s4 0 (Nat.zero_le m)]
    refine ⟨hne, s2.symm, ?_⟩
    have hfin := q_enter c1 c2 (p := p) (s := s) (b := (e : Int)) (by rw [c3 1 (by decide)]; exact hp) (by rw [c3 1 (by decide)]; exact hs) ⟨by omega, by omega⟩ ((g2 p (e : Int) hp.1 (by omega) (by omega) hpM).trans hpe) (fun c c0 c4 => by
      rw [g2 p c hp.1 c0 c4 hpM]
      exact hfree c c0 c4) (by
      rw [f_open_ne c3]
      exact hopen 0 (Nat.zero_le m))
    have hu : u_car σ p s = u_enter (k_fold m (g_stepC (f_mover σ s m e) (f_path σ s m e) s) (k_up (u_carN σ s m e m) 1 (k_u1 (σ 1) 9 (m : Int)))) p s (e : Int) := by
      unfold u_car u_carE u_moves u_movesN
      rw [s1, s2, Int.toNat_natCast]
      have hf : ∀ n, n ≤ m → k_fold n (fun k τ => u_enter (u_leave τ (u_carN σ s m e m 8 k) s (u_moveF (u_carN σ s m e m) e k)) (u_carN σ s m e m 8 k) s (u_carN σ s m e m 9 k)) (k_up (u_carN σ s m e m) 1 (k_u1 (u_carN σ s m e m 1) 9 (m : Int))) = k_fold n (g_stepC (f_mover σ s m e) (f_path σ s m e) s) (k_up (u_carN σ s m e m) 1 (k_u1 (σ 1) 9 (m : Int))) := by
        intro n
        induction n with
        | zero => exact fun _ => rfl
        | succ n ih =>
          intro hn
          show u_enter (u_leave (k_fold n _ _) _ s _) _ s _ = u_enter (u_leave (k_fold n _ _) _ s _) _ s _
          rw [ih (by omega), hcar, hcar9, if_pos (by omega), if_pos (by omega)]
          have : u_moveF (u_carN σ s m e m) e n = f_path σ s m e n := by
            cases n with
            | zero => rfl
            | succ n =>
              show u_carN σ s m e m 9 n = _
              rw [hcar9, if_pos (by omega)]
          rw [this]
      rw [hf m (Nat.le_refl m)]
    rw [hu]
    refine k_P1_r hfin (u_enter_ty c2 ⟨hp.1, by omega⟩) (k_Mo_u (k_Mo_u hdn.2.2.2.2.1 (by have := hP 0 (Nat.zero_le m); omega)) (by omega)) fun j _ hj => ?_
    obtain ⟨d1, d2, d3, d4, d5, d6⟩ := hdn
    show k_u1 (k_u1 _ (105 + 4 * p + (e : Int)).toNat s) 3 (m : Int) j = k_u1 _ (105 + 4 * p + (e : Int)).toNat s j
    unfold k_u1
    by_cases q3 : j = 3
    · subst q3
      rw [if_pos rfl, if_neg (by omega), g3 3 (by omega), x1]
    · rw [if_neg q3]
      by_cases qp : j = (105 + 4 * p + (e : Int)).toNat
      · rw [if_pos qp, if_pos qp]
      · rw [if_neg qp, if_neg qp]
        rcases Nat.lt_or_ge j 105 with hl | hl
        · rw [g3 j hl]
          by_cases q4 : j < 4 ∨ 10 ≤ j
          · rw [d3 j (by omega), x3 j (by omega)]
          · by_cases w : ∃ k, k < m ∧ j = 4 + k
            · obtain ⟨k, w1, w2⟩ := w
              rw [w2, (d4 k (by omega) w1).1, (x2 k w1).1]
            · by_cases w' : ∃ k, k < m ∧ j = 7 + k
              · obtain ⟨k, w1, w2⟩ := w'
                rw [w2, (d4 k (by omega) w1).2, (x2 k w1).2]
              · rw [d6 j (by omega) (by omega) (fun k _ hk => ⟨fun z => w ⟨k, hk, z⟩, fun z => w' ⟨k, hk, z⟩⟩), x5 j (by omega) (by omega) (fun k hk => ⟨fun z => w ⟨k, hk, z⟩, fun z => w' ⟨k, hk, z⟩⟩)]
        · obtain ⟨q, b, hq, hb, hb4, rfl⟩ : ∃ q b : Int, 0 ≤ q ∧ 0 ≤ b ∧ b < 4 ∧ j = (105 + 4 * q + b).toNat := ⟨((j : Int) - 105) / 4, ((j : Int) - 105) % 4, by omega, by omega, by omega, by omega⟩
          by_cases w : ∃ k, k < m ∧ q = f_mover σ s m e k
          · obtain ⟨k, w1, w2⟩ := w
            rw [w2, d1 k (by omega) w1 b hb hb4, g1 k w1 b hb hb4]
          · rw [d2 q b hq hb hb4 (fun k _ hk z => w ⟨k, hk, z⟩), g2 q b hq hb hb4 (fun k hk z => w ⟨k, hk, z⟩)]
theorem q_o_join (hR : k_P1 (ρ 124) σ) (hI : k_Ty σ) (hC : k_Ch σ) (p s : Int) : k_op (e_join σ p s) (f_few σ s (f_free σ p)) (u_car σ p s) ρ (m_joinNow ρ p s) ∧ (m_joinNow ρ p s).2 123 9 = if e_join σ p s = 4 then f_reason σ s (f_free σ p) else ρ 123 9 := by
  unfold e_join e_joiner m_joinNow
  have hn : ρ 124 0 = σ 1 0 := hR.2.1.1.1
  have hm : ρ 124 2 = σ 1 2 := hR.2.1.1.2.2
  have hS := hI.1
  have no : ∀ e : Int, e ≠ 0 → e ≠ 4 → k_op e (f_few σ s (f_free σ p)) (u_car σ p s) ρ (0, k_up ρ 123 (k_u1 (ρ 123) 8 e)) ∧ (0, k_up ρ 123 (k_u1 (ρ 123) 8 e)).2 123 9 = if e = 4 then f_reason σ s (f_free σ p) else ρ 123 9 := fun e h0 h4 => by
    refine ⟨k_op_no h0, ?_⟩
    rw [if_neg h4]
    show k_up ρ 123 (k_u1 (ρ 123) 8 e) 123 9 = _
    rw [k_up_same]
    exact if_neg (by decide)
  rw [hn, hm]
  by_cases h : 0 ≤ p ∧ p < σ 1 2
  · rw [if_pos h]
    by_cases h2 : 0 ≤ s ∧ s < σ 1 0
    · rw [if_pos (show _ ∧ _ from ⟨h, h2⟩), if_pos h2, ← q_taken hR hI h (s := s) ⟨h2.1, by omega⟩]
      by_cases q : f_taken σ p s = -1
      · rw [if_pos q, if_pos rfl, if_pos q]
        unfold e_seek
        rcases q_car hR hI hC h h2 q with ⟨c1, c2⟩ | ⟨c1, c2, c3⟩
        · have h124 : (m_findsChain ρ p s).2 124 = ρ 124 := m_findsChain_out ρ p s 124 (by decide)
          have h123 : (m_findsChain ρ p s).2 123 = ρ 123 := m_findsChain_out ρ p s 123 (by decide)
          rw [if_pos c1, if_pos c2, h124, h123, if_pos rfl]
          refine ⟨⟨Or.inl ⟨by decide, rfl, ?_, ?_⟩, fun z => absurd rfl z⟩, ?_⟩
          · dsimp only
            rw [k_up_same]
            exact if_pos rfl
          · dsimp only
            rw [k_up_ne (by decide)]
            exact h124
          · dsimp only
            rw [k_up_same, q_why hI hR.1 ⟨h2.1, by omega⟩ (q_lk hR hI h h2)]
            exact (if_neg (by decide)).trans (if_pos rfl)
        · have h123 : (m_findsChain ρ p s).2 123 = ρ 123 := m_findsChain_out ρ p s 123 (by decide)
          rw [if_neg c1, if_neg (by rw [c2]; exact c1), if_neg (by decide)]
          unfold r_joinNow_71
          refine ⟨⟨Or.inr ⟨rfl, c2, ?_, ?_⟩, fun _ => ?_⟩, ?_⟩
          · dsimp only
            rw [k_up_ne (by decide), h123]
          · dsimp only
            rw [k_up_same]
            exact c3
          · dsimp only
            rw [k_up_ne (by decide), h123]
          · dsimp only
            rw [k_up_ne (by decide), h123]
      · rw [if_neg q, if_neg q, if_neg (show ¬ (3 : Int) = 0 by decide)]
        exact no 3 (by decide) (by decide)
    · rw [if_neg (show ¬ (_ ∧ _) from fun y => h2 y.2), if_neg h2, if_neg (show ¬ (1 : Int) = 0 by decide)]
      exact no 1 (by decide) (by decide)
  · rw [if_neg h, if_neg (show ¬ (_ ∧ _) from fun y => h y.1), if_neg (show ¬ (1 : Int) = 0 by decide)]
    exact no 1 (by decide) (by decide)
end K_R14
