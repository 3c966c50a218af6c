/-! ===== SIZES are kept; what enrolling does to the rosters ===== -/
section P_D
variable {σ ρ τ : Nat → Nat → Int} {r : Nat → Int} {M P : Nat → Int}
theorem z_cnt_or1 (x p : Int) (hp : 0 ≤ p ∧ p < 16) : z_cnt (z_or x (z_one p)) ≤ z_cnt x + 1 := by
  have h1 := z_cnt_diff1 (z_or x (z_one p)) p hp
  have h2 := z_cnt_diff1 x p hp
  have e : z_diff (z_or x (z_one p)) (z_one p) = z_diff x (z_one p) := by
    refine z_ext (z_diff_nn _ _) (z_diff_nn _ _) fun i hi => ?_
    rw [z_bit_diff, z_bit_diff, z_bit_or]
    cases z_bit x i <;> cases z_bit (z_one p) i <;> rfl
  rw [e] at h1
  have h3 := zb_r (z_bit (z_or x (z_one p)) p = true)
  have h4 := zb_r (z_bit x p = true)
  omega
theorem r_leave {q s b s' b' : Int} (hs : 0 ≤ s ∧ s < τ 1 0) (h7 : s < 7) (hb : 0 ≤ b ∧ b < τ 1 1) (h4 : b < 4) (hs' : 0 ≤ s' ∧ s' < 7) (hb' : 0 ≤ b' ∧ b' < 4) : f_roster (u_leave τ q s b) s' b' = if s' = s ∧ b' = b then z_diff (f_roster τ s b) (z_one q) else f_roster τ s' b' := by
  have e0 : u_leave τ q s b = k_up τ 4 (k_u1 (τ 4) (s * 4 + b).toNat (z_diff (f_roster τ s b) (z_one q))) := if_pos ⟨hs, hb⟩
  rw [e0, f_roster_in (σ := k_up τ 4 _) ⟨hs', hb'⟩, k_up_same]
  by_cases e : s' = s ∧ b' = b
  · rw [if_pos e]
    exact if_pos (by rw [e.1, e.2])
  · rw [if_neg e, f_roster_in (σ := τ) ⟨hs', hb'⟩]
    exact if_neg (by omega)
theorem r_enter {q s b s' b' : Int} (hs : 0 ≤ s ∧ s < τ 1 0) (h7 : s < 7) (hb : 0 ≤ b ∧ b < τ 1 1) (h4 : b < 4) (hs' : 0 ≤ s' ∧ s' < 7) (hb' : 0 ≤ b' ∧ b' < 4) : f_roster (u_enter τ q s b) s' b' = if s' = s ∧ b' = b then z_or (f_roster τ s b) (z_one q) else f_roster τ s' b' := by
  have e0 : u_enter τ q s b = k_up τ 4 (k_u1 (τ 4) (s * 4 + b).toNat (z_or (f_roster τ s b) (z_one q))) := if_pos ⟨hs, hb⟩
  rw [e0, f_roster_in (σ := k_up τ 4 _) ⟨hs', hb'⟩, k_up_same]
  by_cases e : s' = s ∧ b' = b
  · rw [if_pos e]
    exact if_pos (by rw [e.1, e.2])
  · rw [if_neg e, f_roster_in (σ := τ) ⟨hs', hb'⟩]
    exact if_neg (by omega)
/-- no class has more pupils than its size -/
def p_SZ (σ : Nat → Nat → Int) : Prop := ∀ s b : Int, 0 ≤ s → s < σ 1 0 → 0 ≤ b → b < 4 → z_cnt (f_roster σ s b) ≤ σ 2 s.toNat
theorem p_SZ_pl (h : k_PlEq τ σ) (hZ : p_SZ σ) : p_SZ τ := fun s b h0 h1 b0 b1 => by
  rw [h.roster, h 2 (by decide)]
  rw [h 1 (by decide)] at h1
  exact hZ s b h0 h1 b0 b1
theorem p_SZ_leave (hI : k_Ty τ) {q s b : Int} (hq : 0 ≤ q ∧ q < 16) (hZ : p_SZ τ) : p_SZ (u_leave τ q s b) := fun s' b' h0 h1 b0 b1 => by
  have hS := hI.1
  have hB := hI.2.1
  rw [u_leave_ne (i := 1) (by decide)] at h1
  rw [u_leave_ne (i := 2) (by decide)]
  have h := hZ s' b' h0 h1 b0 b1
  by_cases w : (0 ≤ s ∧ s < τ 1 0) ∧ (0 ≤ b ∧ b < τ 1 1)
  · rw [r_leave w.1 (by omega) w.2 (by omega) ⟨h0, by omega⟩ ⟨b0, b1⟩]
    split
    · rename_i e
      have h2 := z_cnt_diff1 (f_roster τ s b) q hq
      have h3 := zb_r (z_bit (f_roster τ s b) q = true)
      rw [e.1, e.2] at h
      rw [e.1]
      omega
    · exact h
  · have e0 : u_leave τ q s b = τ := if_neg w
    rw [e0]
    exact h
theorem p_SZ_drop (hI : k_Ty τ) {p : Int} (hp : 0 ≤ p ∧ p < 12) (hZ : p_SZ τ) : p_SZ (u_drop τ p) := by
  have h : ∀ n : Nat, k_Ty (u_dropN τ p n) ∧ p_SZ (u_dropN τ p n) := fun n => by
    induction n with
    | zero => exact ⟨hI, hZ⟩
    | succ n ih => exact ⟨u_leave_ty ih.1, p_SZ_leave ih.1 (by omega) ih.2⟩
  exact (h _).2
/-- the counts along a chain -/
theorem p_cnt_chain {s : Int} {m : Nat} (h : k_pth r M P s m) (x0 : Nat → Int) (hx0 : ∀ j, 105 ≤ j → x0 j = r j) (hP0 : k_P1 x0 τ) (hI0 : k_Ty τ) (hr2 : r 2 = τ 1 2) (hs : 0 ≤ s ∧ s < τ 1 0) (hop : ∀ k, k ≤ m → z_bit (f_open τ s) (P k) = true) : ∀ n : Nat, n ≤ m → ∀ s' b' : Int, (0 ≤ s' ∧ s' < 7) → (0 ≤ b' ∧ b' < 4) → z_cnt (f_roster (k_fold n (g_stepC M P s) τ) s' b') + (if s' = s ∧ b' = P 0 then 1 else 0) ≤ z_cnt (f_roster τ s' b') + (if s' = s ∧ b' = P n then 1 else 0)
  | 0, _, _, _, _, _ => Int.le_refl _
  | n + 1, hn, s', b', hs', hb' => by
    have ih := p_cnt_chain h x0 hx0 hP0 hI0 hr2 hs hop n (by omega) s' b' hs' hb'
    obtain ⟨c1, c2, c3⟩ := q_upC h x0 hx0 hP0 hI0 hr2 hs hop n (by omega)
    obtain ⟨i1, i2, i3⟩ := g_up h x0 hx0 n (by omega)
    have hh := h
    obtain ⟨h1, h2, h3, h4⟩ := h
    obtain ⟨a1, a2, a3, a4⟩ := h3 n (by omega)
    have p0 := h1 n (by omega)
    have p1 := h1 (n + 1) (by omega)
    have hP := hI0.2.2.1
    have hS := hI0.1
    have e2 : k_fold (n + 1) (g_stepC M P s) τ = g_stepC M P s n (k_fold n (g_stepC M P s) τ) := rfl
    have hrow : k_fold n (g_step M P s) x0 (105 + 4 * M n + P n).toNat = s := (i2 (M n) (P n) a1.1 p0.1 p0.2 fun l hl z => by have := g_M_ne hh (by omega) (by omega) z; omega).trans a2
    rw [e2]
    generalize k_fold n (g_step M P s) x0 = x at c1 hrow
    generalize k_fold n (g_stepC M P s) τ = υ at ih c1 c2 c3 ⊢
    have v1 : υ 1 = τ 1 := c3 1 (by decide)
    have hbl : ∀ k, k ≤ m → P k < υ 1 1 := fun k hk => (q_openB c1 (h1 k hk).1 (s := s) (b := P k) (by rw [f_open_ne c3]; exact hop k hk)).2
    have hb0 := hbl n (by omega)
    have hb1 := hbl (n + 1) hn
    have hne : P n ≠ P (n + 1) := fun z => by have := h2 n (n + 1) (by omega) (by omega) z; omega
    have hsv : 0 ≤ s ∧ s < υ 1 0 := by rw [v1]; exact hs
    have hMn : 0 ≤ M n ∧ M n < υ 1 2 := by rw [v1, ← hr2]; exact a1
    have hM12 : M n < 12 := by have := c2.2.2.1; omega
    have hbit : z_bit (f_roster υ s (P n)) (M n) = true := (q_bit c1 hMn (s := s) ⟨hs.1, by omega⟩ p0).mpr hrow
    have l3 : ∀ i, i ≠ 4 → u_leave υ (M n) s (P n) i = υ i := fun i hi => u_leave_ne hi
    have d1 := z_cnt_diff1 (f_roster υ s (P n)) (M n) ⟨a1.1, by omega⟩
    rw [zb_t hbit] at d1
    have hlv := fun (s' b' : Int) (hs' : 0 ≤ s' ∧ s' < 7) (hb' : 0 ≤ b' ∧ b' < 4) => r_leave (τ := υ) (q := M n) (s := s) (b := P n) hsv (by omega) ⟨p0.1, hb0⟩ p0.2 hs' hb'
    have d2 := z_cnt_or1 (f_roster υ s (P (n + 1))) (M n) ⟨a1.1, by omega⟩
    unfold g_stepC
    rw [r_enter (τ := u_leave υ (M n) s (P n)) (q := M n) (s := s) (b := P (n + 1)) (by rw [l3 1 (by decide)]; exact hsv) (by omega) (by rw [l3 1 (by decide)]; exact ⟨p1.1, hb1⟩) p1.2 hs' hb']
    by_cases e1 : s' = s ∧ b' = P (n + 1)
    · rw [if_pos e1, if_pos e1, hlv s (P (n + 1)) ⟨hs.1, by omega⟩ p1, if_neg (fun y => hne y.2.symm)]
      rw [if_neg (show ¬ (s' = s ∧ b' = P n) from fun y => hne (y.2.symm.trans e1.2))] at ih
      rw [e1.1, e1.2] at ih ⊢
      omega
    · rw [if_neg e1, if_neg e1, hlv s' b' hs' hb']
      by_cases e3 : s' = s ∧ b' = P n
      · rw [if_pos e3]
        rw [if_pos e3] at ih
        rw [e3.1, e3.2] at ih ⊢
        omega
      · rw [if_neg e3]
        rw [if_neg e3] at ih
        exact ih
theorem f_roster_cx {s : Int} {m e : Nat} (s' b' : Int) : f_roster (u_cx σ s m e) s' b' = f_roster σ s' b' := rfl
theorem f_open_cx {s : Int} {m e : Nat} (s' : Int) : f_open (u_cx σ s m e) s' = f_open σ s' := rfl
theorem z_diff_0 {x : Int} (h : 0 ≤ x) : z_diff x 0 = x := z_ext (z_diff_nn _ _) h fun i hi => by
  rw [z_bit_diff, z_bit_0]
  cases z_bit x i <;> rfl
/-- a join keeps the sizes -/
theorem p_SZ_car (hR : k_P1 r σ) (hI : k_Ty σ) {p s : Int} (hp : 0 ≤ p ∧ p < σ 1 2) (hs : 0 ≤ s ∧ s < σ 1 0) {m e : Nat} {x0 : Nat → Int} (h : p_CX r σ p s m e x0) (hZ : p_SZ σ) : p_SZ (u_car σ p s) := by
  obtain ⟨⟨⟨hm, he⟩, hf⟩, hpth, ⟨hpM, hpe, hno⟩, hx, ⟨hop, hroom⟩, hu, ⟨⟨hP0, hI0⟩, hfin⟩, hnote⟩ := h
  have hS := hI.1
  have hP := hI.2.2.1
  have hr2 : r 2 = σ 1 2 := hR.2.1.1.2.2
  have o1 : ∀ j, j ≠ 9 → u_cx σ s m e 1 j = σ 1 j := fun j hj => if_neg hj
  have hc := p_cnt_chain hpth x0 (fun j hj => hx j (by omega)) hP0 hI0 (by rw [o1 2 (by decide)]; exact hr2) (by rw [o1 0 (by decide)]; exact hs) (fun k hk => by rw [f_open_cx]; exact hop k hk) m (Nat.le_refl m)
  obtain ⟨c1, c2, c3⟩ := q_upC hpth x0 (fun j hj => hx j (by omega)) hP0 hI0 (by rw [o1 2 (by decide)]; exact hr2) (by rw [o1 0 (by decide)]; exact hs) (fun k hk => by rw [f_open_cx]; exact hop k hk) m (Nat.le_refl m)
  have e0 : f_path σ s m e 0 = (e : Int) := rfl
  have hrm := (z_roomyN σ s 0 (f_path σ s m e m) (hpth.1 m (Nat.le_refl m)).1 (σ 1 1).toNat).mp hroom
  have hb0 : (e : Int) < σ 1 1 := (q_openB hR (by omega) (by have := hop 0 (Nat.zero_le m); rw [e0] at this; exact this)).2
  intro s' b' h0 h1 b0 b1
  rw [hu] at h1 ⊢
  generalize hυ : k_fold m (g_stepC (f_mover σ s m e) (f_path σ s m e) s) (u_cx σ s m e) = υ at hc c1 c2 c3 h1 ⊢
  have v1 : ∀ j, j ≠ 9 → υ 1 j = σ 1 j := fun j hj => by
    rw [c3 1 (by decide)]
    exact o1 j hj
  have v2 : υ 2 = σ 2 := (c3 2 (by decide)).trans rfl
  rw [u_enter_ne (i := 1) (by decide), v1 0 (by decide)] at h1
  rw [u_enter_ne (i := 2) (by decide), v2]
  have hc2 := hc s' b' ⟨h0, by omega⟩ ⟨b0, b1⟩
  rw [f_roster_cx, e0] at hc2
  have hz := hZ s' b' h0 h1 b0 b1
  have hpm := z_diff_0 (f_roster_r hI s (f_path σ s m e m)).1
  rw [hpm] at hrm
  have hrd : f_read (σ 2) 7 s = σ 2 s.toNat := if_pos ⟨hs.1, by omega⟩
  rw [hrd] at hrm
  have hor := z_cnt_or1 (f_roster υ s (e : Int)) p ⟨hp.1, by omega⟩
  rw [r_enter (τ := υ) (q := p) (s := s) (b := (e : Int)) (by rw [v1 0 (by decide)]; exact hs) (by omega) (by rw [v1 1 (by decide)]; exact ⟨by omega, hb0⟩) (by omega) ⟨h0, by omega⟩ ⟨b0, b1⟩]
  by_cases w : s' = s ∧ b' = f_path σ s m e m
  · rw [if_pos w] at hc2
    have hlt : z_cnt (f_roster σ s' b') < σ 2 s'.toNat := by
      rw [w.1, w.2]
      exact hrm.2.2
    by_cases w2 : s' = s ∧ b' = (e : Int)
    · rw [if_pos w2]
      rw [if_pos w2] at hc2
      rw [w2.1, w2.2] at hc2 hlt
      rw [w2.1]
      omega
    · rw [if_neg w2]
      rw [if_neg w2] at hc2
      omega
  · rw [if_neg w] at hc2
    by_cases w2 : s' = s ∧ b' = (e : Int)
    · rw [if_pos w2]
      rw [if_pos w2] at hc2
      rw [w2.1, w2.2] at hc2 hz
      rw [w2.1]
      omega
    · rw [if_neg w2]
      rw [if_neg w2] at hc2
      omega
/-! enrolling -/
theorem p_give (hI : k_Ty σ) (p : Int) : u_give σ p = k_fold 4 (g_enS σ p (f_best (u_roomy σ p)).2.1) (u_best (u_roomy σ p)) := by
  have h5 := hI.2.2.2.2.2.2.1 p.toNat
  unfold u_give u_giveN
  have e4 : k_fold 4 (g_enS σ p (f_best (u_roomy σ p)).2.1) (u_best (u_roomy σ p)) = u_enter (k_fold 3 (g_enS σ p (f_best (u_roomy σ p)).2.1) (u_best (u_roomy σ p))) p (σ 7 p.toNat) ((f_best (u_roomy σ p)).2.1 3) := rfl
  rw [e4]
  have e3 := k_fold_cond (fun r τ => u_enter τ p (f_wish σ p (r : Int)) ((f_best (u_roomy σ p)).2.1 r)) (u_best (u_roomy σ p)) (σ 5 p.toNat).toNat 3 (by omega)
  rw [← e3]
  refine congrArg (fun z => u_enter z p (σ 7 p.toNat) ((f_best (u_roomy σ p)).2.1 3)) (k_fold_cong 3 fun i hi y => ?_)
  unfold g_enS
  rw [if_neg (show ¬ i = 3 by omega), show (((σ 5 p.toNat).toNat : Nat) : Int) = σ 5 p.toNat by omega]
/-- the subject of a part of a placement -/
def p_sub4 (σ : Nat → Nat → Int) (p : Int) (i : Nat) : Int := if i = 3 then σ 7 p.toNat else f_wish σ p (i : Int)
theorem p_enS (σ : Nat → Nat → Int) (p : Int) (B : Nat → Int) (i : Nat) (τ : Nat → Nat → Int) : g_enS σ p B i τ = if i = 3 ∨ (i : Int) < σ 5 p.toNat then u_enter τ p (p_sub4 σ p i) (B i) else τ := by
  unfold g_enS p_sub4
  by_cases q : i = 3
  · subst q
    rw [if_pos rfl, if_pos rfl, if_pos (Or.inl rfl)]
  · rw [if_neg q, if_neg q]
    by_cases q2 : (i : Int) < σ 5 p.toNat
    · rw [if_pos q2, if_pos (Or.inr q2)]
    · rw [if_neg q2, if_neg (fun y => y.elim q q2)]
/-- all who aren't enrolled keep their places; the enrolled one is only where there is room -/
theorem p_en (hR : k_P1 r σ) (hI : k_Ty σ) {p : Int} (hp : 0 ≤ p ∧ p < σ 1 2) {B : Nat → Int} (hB : ∀ i, i < 4 → B i < 4 ∧ (0 ≤ B i → z_bit (u_roomy σ p 11 i) (B i) = true)) (hτ : k_PlEq τ σ) : ∀ n : Nat, n ≤ 4 → (∀ i, i ≠ 4 → k_fold n (g_enS σ p B) τ i = τ i) ∧ (∀ s b : Int, z_diff (f_roster (k_fold n (g_enS σ p B) τ) s b) (z_one p) = z_diff (f_roster σ s b) (z_one p)) ∧ (∀ s b : Int, z_bit (f_roster (k_fold n (g_enS σ p B) τ) s b) p = true → z_bit (f_roster σ s b) p = true ∨ z_bit (f_roomy σ s (z_one p)) b = true) ∧ (∀ s b : Int, z_bit (f_roster τ s b) p = true → z_bit (f_roster (k_fold n (g_enS σ p B) τ) s b) p = true) ∧ ∀ i, i < n → 0 ≤ B i → z_bit (f_roster (k_fold n (g_enS σ p B) τ) (p_sub4 σ p i) (B i)) p = true
  | 0, _ => ⟨fun _ _ => rfl, fun s b => by
      show z_diff (f_roster τ s b) _ = _
      rw [hτ.roster], fun s b h => Or.inl (by
      have h : z_bit (f_roster τ s b) p = true := h
      rwa [hτ.roster] at h), fun _ _ h => h, fun i hi => absurd hi (Nat.not_lt_zero i)⟩
  | n + 1, hn => by
    obtain ⟨i1, i2, i3, i4, i5⟩ := p_en hR hI hp hB hτ n (by omega)
    have hS := hI.1
    have hBl := hI.2.1
    have hPu := hI.2.2.1
    have e2 : k_fold (n + 1) (g_enS σ p B) τ = g_enS σ p B n (k_fold n (g_enS σ p B) τ) := rfl
    rw [e2, p_enS]
    generalize k_fold n (g_enS σ p B) τ = υ at i1 i2 i3 i4 i5 ⊢
    have v1 : υ 1 = σ 1 := (i1 1 (by decide)).trans (hτ 1 (by decide))
    by_cases q : n = 3 ∨ (n : Int) < σ 5 p.toNat
    · rw [if_pos q]
      by_cases w : (0 ≤ p_sub4 σ p n ∧ p_sub4 σ p n < υ 1 0) ∧ (0 ≤ B n ∧ B n < υ 1 1)
      · have wv := w
        rw [v1] at wv
        have hBn := (hB n (by omega)).2 w.2.1
        rw [u_roomy11 σ p (by omega)] at hBn
        have hbn : z_bit (f_roomy σ (p_sub4 σ p n) (z_one p)) (B n) = true := by
          unfold p_sub4
          by_cases q3 : n = 3
          · rw [if_pos q3] at hBn ⊢
            exact hBn
          · rw [if_neg q3] at hBn ⊢
            unfold f_useR at hBn
            rwa [if_pos (q.resolve_left q3)] at hBn
        have hro : ∀ s b : Int, f_roster (u_enter υ p (p_sub4 σ p n) (B n)) s b = if s = p_sub4 σ p n ∧ b = B n then z_or (f_roster υ (p_sub4 σ p n) (B n)) (z_one p) else f_roster υ s b := fun s b => by
          by_cases v : (0 ≤ s ∧ s < 7) ∧ (0 ≤ b ∧ b < 4)
          · exact r_enter w.1 (by omega) w.2 (by omega) v.1 v.2
          · have f0 : ∀ τ' : Nat → Nat → Int, f_roster τ' s b = 0 := fun τ' => if_neg v
            rw [f0, f0, if_neg (fun y => v (by rw [y.1, y.2]; exact ⟨⟨w.1.1, by omega⟩, w.2.1, by omega⟩))]
        have hself : z_bit (z_or (f_roster υ (p_sub4 σ p n) (B n)) (z_one p)) p = true := by
          rw [z_bit_or, z_bit_one hp.1 hp.1, decide_eq_true rfl, Bool.or_true]
        refine ⟨fun i hi => (u_enter_ne hi).trans (i1 i hi), fun s b => ?_, fun s b h => ?_, fun s b h => ?_, fun i hi h => ?_⟩
        · rw [hro, ← i2]
          split
          · rename_i e
            rw [e.1, e.2]
            refine z_ext (z_diff_nn _ _) (z_diff_nn _ _) fun j hj => ?_
            rw [z_bit_diff, z_bit_diff, z_bit_or]
            cases z_bit (f_roster υ (p_sub4 σ p n) (B n)) j <;> cases z_bit (z_one p) j <;> rfl
          · rfl
        · rw [hro] at h
          by_cases e : s = p_sub4 σ p n ∧ b = B n
          · right
            rw [e.1, e.2]
            exact hbn
          · rw [if_neg e] at h
            exact i3 s b h
        · rw [hro]
          split
          · exact hself
          · exact i4 s b h
        · rw [hro]
          by_cases e : p_sub4 σ p i = p_sub4 σ p n ∧ B i = B n
          · rw [if_pos e]
            exact hself
          · rw [if_neg e]
            by_cases e3 : i = n
            · exact absurd (by rw [e3]; exact ⟨rfl, rfl⟩) e
            · exact i5 i (by omega) h
      · have e0 : u_enter υ p (p_sub4 σ p n) (B n) = υ := if_neg w
        rw [e0]
        refine ⟨i1, i2, i3, i4, fun i hi h => ?_⟩
        by_cases e3 : i = n
        · subst e3
          exfalso
          have hb := (hB i (by omega)).2 h
          obtain ⟨o1, o2⟩ := q_use2 hR hI hp (i := i) (by omega) ⟨h, (hB i (by omega)).1⟩ hb
          have e4 : p_sub4 σ p i = g_subj r p i := by
            unfold p_sub4
            by_cases q3 : i = 3
            · subst q3
              rw [if_pos rfl]
              unfold g_subj
              rw [if_pos rfl, (hR.2.2.1.1 p hp.1 hp.2).2.1]
            · rw [if_neg q3, o2 q3]
          rw [← e4] at o1
          have := q_openB hR h o1
          rw [v1] at w
          exact w ⟨this.1, h, this.2⟩
        · exact i5 i (by omega) h
    · rw [if_neg q]
      refine ⟨i1, i2, i3, i4, fun i hi h => ?_⟩
      by_cases e3 : i = n
      · subst e3
        have hb := (hB i (by omega)).2 h
        rw [u_roomy11 σ p (by omega), if_neg (fun y => q (Or.inl y))] at hb
        unfold f_useR at hb
        rw [if_neg (fun y => q (Or.inr y)), z_bit_0] at hb
        cases hb
      · exact i5 i (by omega) h
/-- a walk uses what is there -/
theorem p_use (hR : k_P1 r σ) (hI : k_Ty σ) {p : Int} (hp : 0 ≤ p ∧ p < σ 1 2) {a : Nat → Int} (ha : ∀ k, k < 4 → 0 ≤ a k ∧ a k ≤ 4) : ∀ n : Nat, n ≤ 4 → ∀ t sc : Int, k_for (b_worth_7 r a p) n 0 (0, 0) = .inr (t, sc) → ∀ i, i < n → a i ≠ 4 → z_bit (u_roomy σ p 11 i) (a i) = true
  | 0, _, _, _, _, i, hi, _ => absurd hi (Nat.not_lt_zero i)
  | n + 1, hn, t, sc, h, i, hi, h4 => by
    rw [k_for_succ, Nat.zero_add] at h
    cases hx : k_for (b_worth_7 r a p) n 0 (0, 0) with
    | inl w =>
      rw [hx] at h
      cases h
    | inr x =>
      obtain ⟨t', sc'⟩ := x
      by_cases e : i = n
      · subst e
        rw [hx] at h
        have h : b_worth_7 r a p i (t', sc') = .inr (t, sc) := h
        rw [q_worth_step hR hI hp (by omega) (ha i (by omega)), if_neg h4] at h
        by_cases hb : z_bit (z_diff (u_roomy σ p 11 i) t') (a i) = true
        · rw [z_bit_diff, Bool.and_eq_true] at hb
          exact hb.1
        · rw [if_neg hb] at h
          cases h
      · exact p_use hR hI hp ha n (by omega) t' sc' hx i (by omega) h4
theorem p_idle {p : Int} {a : Nat → Int} : ∀ n : Nat, n ≤ 4 → (∀ i, i < n → a i = 4) → k_for (b_worth_7 r a p) n 0 (0, 0) = .inr (0, 0)
  | 0, _, _ => rfl
  | n + 1, hn, h => by
    rw [k_for_succ, Nat.zero_add, p_idle n (by omega) (fun i hi => h i (by omega))]
    show b_worth_7 r a p n (0, 0) = .inr (0, 0)
    unfold b_worth_7
    rw [Int.toNat_natCast, if_pos (h n (by omega))]
/-- the best placement's blocks -/
theorem p_blocks (hR : k_P1 r σ) (hI : k_Ty σ) {p : Int} (hp : 0 ≤ p ∧ p < σ 1 2) : (∀ i, i < 4 → (f_best (u_roomy σ p)).2.1 i < 4 ∧ (0 ≤ (f_best (u_roomy σ p)).2.1 i → z_bit (u_roomy σ p 11 i) ((f_best (u_roomy σ p)).2.1 i) = true)) ∧ (2 ≤ (f_best (u_roomy σ p)).2.2 → ∃ i, i < 3 ∧ 0 ≤ (f_best (u_roomy σ p)).2.1 i) := by
  obtain ⟨b0, ⟨a, b2, b3⟩, -⟩ := p_best hR hI hp
  have ha : ∀ k, k < 4 → 0 ≤ a k ∧ a k ≤ 4 := fun k hk => (b2 k hk).2
  have e : m_worth r a p = k_els (r_worth_7 r a p) (k_for (b_worth_7 r a p) 4 0 (0, 0)) := rfl
  have hw : ∃ t sc, k_for (b_worth_7 r a p) 4 0 (0, 0) = .inr (t, sc) := by
    obtain ⟨u, sc, w1, w2⟩ := p_walk hR hI hp ha (by omega)
    have e4 := k_for_succ (b_worth_7 r a p) 3 0 (0, 0)
    rw [Nat.zero_add, w1] at e4
    have e4 : k_for (b_worth_7 r a p) 4 0 (0, 0) = b_worth_7 r a p 3 (u, sc) := e4
    rw [q_worth_step hR hI hp (by decide) (ha 3 (by decide))] at e4
    rw [e4]
    rw [e4] at e
    by_cases q : a 3 = 4
    · rw [if_pos q]
      exact ⟨_, _, rfl⟩
    · rw [if_neg q]
      rw [if_neg q] at e
      by_cases hb : z_bit (z_diff (u_roomy σ p 11 3) u) (a 3) = true
      · rw [if_pos hb]
        exact ⟨_, _, rfl⟩
      · rw [if_neg hb] at e
        have e : m_worth r a p = -1 := e
        omega
  obtain ⟨t, sc, hts⟩ := hw
  refine ⟨fun i hi => ?_, fun h2 => ?_⟩
  · rw [(b2 i hi).1]
    have := ha i hi
    unfold g_dg
    by_cases q : a i = 4
    · rw [if_pos q]
      exact ⟨by decide, fun h => absurd h (by decide)⟩
    · rw [if_neg q]
      exact ⟨by omega, fun _ => p_use hR hI hp ha 4 (Nat.le_refl 4) t sc hts i hi q⟩
  · refine Classical.byContradiction fun hn => ?_
    have hall : ∀ i, i < 3 → a i = 4 := fun i hi => by
      refine Classical.byContradiction fun h4 => hn ⟨i, hi, ?_⟩
      rw [(b2 i (by omega)).1]
      unfold g_dg
      rw [if_neg h4]
      exact (ha i (by omega)).1
    obtain ⟨u, sc, w1, w2⟩ := p_walk hR hI hp ha (by omega)
    rw [p_idle 3 (by decide) hall] at w1
    have : (0 : Int) = sc := congrArg Prod.snd (Sum.inr.inj w1)
    omega
/-- what enrolling does to the rosters -/
theorem p_gives (hR : k_P1 r σ) (hI : k_Ty σ) {p : Int} (hp : 0 ≤ p ∧ p < σ 1 2) : (∀ s b : Int, z_diff (f_roster (u_give σ p) s b) (z_one p) = z_diff (f_roster σ s b) (z_one p)) ∧ (∀ s b : Int, z_bit (f_roster (u_give σ p) s b) p = true → z_bit (f_roster σ s b) p = true ∨ z_bit (f_roomy σ s (z_one p)) b = true) ∧ (2 ≤ (f_best (u_roomy σ p)).2.2 → ∃ s b : Int, z_bit (f_roster (u_give σ p) s b) p = true) := by
  obtain ⟨h1, h2⟩ := p_blocks hR hI hp
  obtain ⟨i1, i2, i3, i4, i5⟩ := p_en hR hI hp h1 (τ := u_best (u_roomy σ p)) (fun i hi => (u_best_pl i hi).trans (u_roomy_pl p i hi)) 4 (Nat.le_refl 4)
  rw [← p_give hI p] at i2 i3 i5
  refine ⟨i2, i3, fun h => ?_⟩
  obtain ⟨i, hi, hb⟩ := h2 h
  exact ⟨_, _, i5 i (by omega) hb⟩
theorem p_SZ_give (hR : k_P1 r σ) (hI : k_Ty σ) {p : Int} (hp : 0 ≤ p ∧ p < σ 1 2) (hZ : p_SZ σ) : p_SZ (u_give σ p) := by
  obtain ⟨g1, g2, -⟩ := p_gives hR hI hp
  have hPu := hI.2.2.1
  have hS := hI.1
  intro s b h0 h1 b0 b1
  rw [u_give_far p (i := 1) (by decide)] at h1
  rw [u_give_far p (i := 2) (by decide)]
  have hz := hZ s b h0 h1 b0 b1
  have c1 := z_cnt_diff1 (f_roster (u_give σ p) s b) p ⟨hp.1, by omega⟩
  have c2 := z_cnt_diff1 (f_roster σ s b) p ⟨hp.1, by omega⟩
  rw [g1] at c1
  have z2 := zb_r (z_bit (f_roster σ s b) p = true)
  by_cases q : z_bit (f_roster (u_give σ p) s b) p = true
  · rw [zb_t q] at c1
    rcases g2 s b q with w | w
    · rw [zb_t w] at c2
      omega
    · have h3 := ((z_roomyN σ s (z_one p) b b0 (σ 1 1).toNat).mp w).2.2
      have hrd : f_read (σ 2) 7 s = σ 2 s.toNat := if_pos ⟨h0, by omega⟩
      rw [hrd] at h3
      omega
  · rw [zb_f q] at c1
    omega
/-- the value hangs on what others have -/
theorem f_vbs_cong {us us' : Nat → Int} (h : ∀ i, i < 3 → us i = us' i) : f_vbs us = f_vbs us' := by
  have hs : ∀ v, f_suf us v = f_suf us' v := fun v => by
    unfold f_suf f_sufN
    exact k_fold_cong 3 fun i hi x => by rw [h i hi]
  unfold f_vbs
  simp only [hs]
theorem p_val_cong (p : Int) (h1 : τ 1 1 = σ 1 1 ∧ τ 1 0 = σ 1 0) (h2 : τ 2 = σ 2) (h3 : τ 3 = σ 3) (h5 : τ 5 = σ 5) (h6 : τ 6 = σ 6) (hd : ∀ s b : Int, z_diff (f_roster τ s b) (z_one p) = z_diff (f_roster σ s b) (z_one p)) : f_vbs (u_roomy τ p 11) = f_vbs (u_roomy σ p 11) := by
  refine f_vbs_cong fun i hi => ?_
  rw [u_roomy11 τ p (by omega), u_roomy11 σ p (by omega), if_neg (by omega), if_neg (by omega)]
  have hr : ∀ s, f_roomy τ s (z_one p) = f_roomy σ s (z_one p) := fun s => by
    unfold f_roomy f_roomyN
    rw [h1.1]
    have ho : f_open τ s = f_open σ s := by
      unfold f_open
      rw [h1.2, h3]
    exact k_fold_cong _ fun b _ x => by rw [ho, hd, h2]
  unfold f_useR
  rw [h5]
  have hw : f_wish τ p (i : Int) = f_wish σ p (i : Int) := by
    unfold f_wish
    rw [h6]
  rw [hw, hr]
end P_D
