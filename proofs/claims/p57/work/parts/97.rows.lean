/-! ===== TABLES as rows; a chain read backwards; what joins, changes and classes show ===== -/
section P_F
variable {σ ρ τ υ : Nat → Nat → Int} {r x0 : Nat → Int} {M P : Nat → Int} {s : Int} {m : Nat}
/-- all timetables, one behind another -/
def p_T (σ : Nat → Nat → Int) (j : Nat) : Int := if (j : Int) % 4 < σ 1 1 then f_lesson σ ((j : Int) / 4) ((j : Int) % 4) else -1
theorem p_T_row (hR : k_P1 r σ) (hI : k_Ty σ) {j : Nat} (hj : (j : Int) < 4 * σ 1 2) : p_T σ j = r (105 + j) := by
  have hp : 0 ≤ (j : Int) / 4 ∧ (j : Int) / 4 < σ 1 2 := by omega
  have hb : 0 ≤ (j : Int) % 4 ∧ (j : Int) % 4 < 4 := by omega
  have e : (105 + 4 * ((j : Int) / 4) + (j : Int) % 4).toNat = 105 + j := by omega
  unfold p_T
  by_cases q : (j : Int) % 4 < σ 1 1
  · rw [if_pos q, q_lesson hR hI hp hb, e]
  · rw [if_neg q]
    refine Classical.byContradiction fun hn => ?_
    have := (q_tabS hR hI hp hb (by rw [e]; exact fun z => hn z.symm)).2
    exact q this
theorem p_T_r (hI : k_Ty σ) (j : Nat) : -1 ≤ p_T σ j ∧ p_T σ j < 7 := by
  have hS := hI.1
  unfold p_T
  split
  · have := f_lesson_r hI ((j : Int) / 4) ((j : Int) % 4)
    omega
  · decide
theorem p_T_pl (h : k_PlEq τ σ) (j : Nat) : p_T τ j = p_T σ j := by
  unfold p_T
  rw [h.c1, h.lesson]
/-! a chain backwards -/
def p_bk (M P : Nat → Int) (s : Int) (k : Nat) (f : Nat → Int) : Nat → Int := k_u1 (k_u1 f (4 * M k + P (k + 1)).toNat (-1)) (4 * M k + P k).toNat s
def p_BI (r M P : Nat → Int) (s : Int) (m k : Nat) (f : Nat → Int) : Prop := ∀ q b : Int, 0 ≤ q → q < r 2 → 0 ≤ b → b < 4 → (∀ l, k ≤ l → l < m → q = M l → f (4 * q + b).toNat = g_val r M P s l b) ∧ ((∀ l, k ≤ l → l < m → q ≠ M l) → f (4 * q + b).toNat = r (105 + 4 * q + b).toNat)
theorem p_BI_0 (h : k_pth r M P s m) (hx : ∀ j, 105 ≤ j → x0 j = r j) {p e : Int} (hp : 0 ≤ p ∧ p < r 2) (he : 0 ≤ e ∧ e < 4) (hpM : ∀ k, k < m → p ≠ M k) (hpe : r (105 + 4 * p + e).toNat = -1) {f : Nat → Int} (hf : ∀ j : Nat, (j : Int) < 4 * r 2 → f j = k_u1 (k_fold m (g_step M P s) x0) (105 + 4 * p + e).toNat s (105 + j)) : p_BI r M P s m 0 (k_u1 f (4 * p + e).toNat (-1)) := by
  obtain ⟨g1, g2, g3⟩ := g_up h x0 hx m (Nat.le_refl m)
  intro q b q0 q1 b0 b1
  have e4 : k_u1 f (4 * p + e).toNat (-1) (4 * q + b).toNat = if q = p ∧ b = e then -1 else k_fold m (g_step M P s) x0 (105 + 4 * q + b).toNat := by
    by_cases w : q = p ∧ b = e
    · rw [if_pos w]
      exact if_pos (by rw [w.1, w.2])
    · rw [if_neg w]
      have e5 : k_u1 f (4 * p + e).toNat (-1) (4 * q + b).toNat = f (4 * q + b).toNat := if_neg (by omega)
      rw [e5, hf _ (by omega)]
      have e6 : 105 + (4 * q + b).toNat = (105 + 4 * q + b).toNat := by omega
      rw [e6]
      exact if_neg (by omega)
  rw [e4]
  refine ⟨fun l _ hl hq => ?_, fun hn => ?_⟩
  · rw [if_neg (fun y => hpM l hl (y.1.symm.trans hq)), hq]
    exact g1 l hl b b0 b1
  · by_cases w : q = p ∧ b = e
    · rw [if_pos w, w.1, w.2, hpe]
    · rw [if_neg w]
      exact g2 q b q0 b0 b1 fun k hk => hn k (Nat.zero_le k) hk
theorem p_BI_s (h : k_pth r M P s m) {k : Nat} (hk : k < m) {f : Nat → Int} (hf : p_BI r M P s m k f) : f (4 * M k + P (k + 1)).toNat = s ∧ f (4 * M k + P k).toNat = -1 ∧ p_BI r M P s m (k + 1) (p_bk M P s k f) := by
  have hh := h
  obtain ⟨h1, h2, h3, h4⟩ := h
  obtain ⟨a1, a2, a3, a4⟩ := h3 k hk
  have p0 := h1 k (by omega)
  have p1 := h1 (k + 1) (by omega)
  have hne : P k ≠ P (k + 1) := fun z => by have := h2 k (k + 1) (by omega) (by omega) z; omega
  refine ⟨?_, ?_, fun q b q0 q1 b0 b1 => ?_⟩
  · rw [(hf (M k) (P (k + 1)) a1.1 a1.2 p1.1 p1.2).1 k (Nat.le_refl k) hk rfl]
    exact if_pos rfl
  · rw [(hf (M k) (P k) a1.1 a1.2 p0.1 p0.2).1 k (Nat.le_refl k) hk rfl]
    unfold g_val
    rw [if_neg hne, if_pos rfl]
  · obtain ⟨i1, i2⟩ := hf q b q0 q1 b0 b1
    have e4 : p_bk M P s k f (4 * q + b).toNat = if q = M k ∧ b = P k then s else if q = M k ∧ b = P (k + 1) then -1 else f (4 * q + b).toNat := by
      unfold p_bk
      by_cases w : q = M k ∧ b = P k
      · rw [if_pos w]
        exact if_pos (by rw [w.1, w.2])
      · rw [if_neg w]
        have e5 : k_u1 (k_u1 f (4 * M k + P (k + 1)).toNat (-1)) (4 * M k + P k).toNat s (4 * q + b).toNat = k_u1 f (4 * M k + P (k + 1)).toNat (-1) (4 * q + b).toNat := if_neg (by omega)
        rw [e5]
        by_cases w2 : q = M k ∧ b = P (k + 1)
        · rw [if_pos w2]
          exact if_pos (by rw [w2.1, w2.2])
        · rw [if_neg w2]
          exact if_neg (by omega)
    rw [e4]
    refine ⟨fun l hl hlm hq => ?_, fun hn => ?_⟩
    · have hnk : q ≠ M k := fun z => by have := g_M_ne hh hk hlm (z.symm.trans hq); omega
      rw [if_neg (fun y => hnk y.1), if_neg (fun y => hnk y.1)]
      exact i1 l (by omega) hlm hq
    · by_cases w : q = M k
      · have hv := i1 k (Nat.le_refl k) hk w
        by_cases w1 : b = P k
        · rw [if_pos ⟨w, w1⟩, w, w1, a2]
        · rw [if_neg (fun y => w1 y.2)]
          by_cases w2 : b = P (k + 1)
          · rw [if_pos ⟨w, w2⟩, w, w2, a3]
          · rw [if_neg (fun y => w2 y.2), hv]
            unfold g_val
            rw [if_neg w2, if_neg w1, w]
      · rw [if_neg (fun y => w y.1), if_neg (fun y => w y.1)]
        refine i2 fun l hl hlm => ?_
        by_cases e : l = k
        · rw [e]
          exact w
        · exact hn l (by omega) hlm
theorem p_BI_m {f : Nat → Int} (hf : p_BI r M P s m m f) {j : Nat} (hj : (j : Int) < 4 * r 2) : f j = r (105 + j) := by
  have := (hf ((j : Int) / 4) ((j : Int) % 4) (by omega) (by omega) (by omega) (by omega)).2 fun l h1 h2 => by omega
  rwa [show (4 * ((j : Int) / 4) + (j : Int) % 4).toNat = j by omega, show (105 + 4 * ((j : Int) / 4) + (j : Int) % 4).toNat = 105 + j by omega] at this
/-- what leads back: the plan τ behind a join of p in s, over the row r before -/
def p_LB (r : Nat → Int) (τ : Nat → Nat → Int) (p s : Int) (m e : Nat) (M P x0 : Nat → Int) : Prop := k_pth r M P s m ∧ ((m ≤ 3 ∧ e < 4) ∧ (e : Int) < τ 1 1) ∧ ((∀ k, k < m → p ≠ M k) ∧ r (105 + 4 * p + (e : Int)).toNat = -1 ∧ ∀ c : Int, 0 ≤ c → c < 4 → r (105 + 4 * p + c).toNat ≠ s) ∧ ((r 2 = τ 1 2 ∧ (0 ≤ p ∧ p < τ 1 2)) ∧ (0 ≤ s ∧ s < τ 1 0)) ∧ (∀ j, 105 ≤ j → x0 j = r j) ∧ k_P1 (k_u1 (k_fold m (g_step M P s) x0) (105 + 4 * p + (e : Int)).toNat s) τ ∧ τ 1 9 = (m : Int) ∧ ((∀ k, k < m → τ 8 k = M k ∧ τ 9 k = P (k + 1)) ∧ P 0 = (e : Int))
theorem p_LB_car (hR : k_P1 r σ) (hI : k_Ty σ) (hC : k_Ch σ) {p s : Int} (hp : 0 ≤ p ∧ p < σ 1 2) (hs : 0 ≤ s ∧ s < σ 1 0) (hno : f_taken σ p s = -1) (hne : f_few σ s (f_free σ p) ≠ -1) : ∃ (m e : Nat) (M P x0 : Nat → Int), f_few σ s (f_free σ p) = (m : Int) ∧ p_LB r (u_car σ p s) p s m e M P x0 := by
  obtain ⟨m, e, x0, ⟨⟨hm, he⟩, hf⟩, hpth, ⟨hpM, hpe, hfr⟩, hx, ⟨hop, hroom⟩, hu, ⟨⟨hP0, hI0⟩, hfin⟩, hnote⟩ := q_carX (ρ := fun i => if i = 124 then r else fun _ => 0) (σ := σ) hR hI hC hp hs hno hne
  have hpth : k_pth r (f_mover σ s m e) (f_path σ s m e) s m := hpth
  have hr2 : r 2 = σ 1 2 := hR.2.1.1.2.2
  have o1 : ∀ j, j ≠ 9 → u_cx σ s m e 1 j = σ 1 j := fun j hj => if_neg hj
  have hx5 : ∀ j, 105 ≤ j → x0 j = r j := fun j hj => hx j (by omega)
  obtain ⟨c1, c2, c3⟩ := q_upC hpth x0 hx5 hP0 hI0 (by rw [o1 2 (by decide)]; exact hr2) (by rw [o1 0 (by decide)]; exact hs) (fun k hk => by rw [f_open_cx]; exact hop k hk) m (Nat.le_refl m)
  have hc : ∀ i, i ≠ 4 → u_car σ p s i = u_cx σ s m e i := fun i hi => by
    rw [hu]
    exact (u_enter_ne hi).trans (c3 i hi)
  have e1 := hc 1 (by decide)
  have hp0 : f_path σ s m e 0 = (e : Int) := rfl
  have hb0 : (e : Int) < σ 1 1 := (q_openB hR (by omega) (by have := hop 0 (Nat.zero_le m); rw [hp0] at this; exact this)).2
  refine ⟨m, e, f_mover σ s m e, f_path σ s m e, x0, hf, hpth, ⟨⟨hm, he⟩, ?_⟩, ⟨hpM, hpe, hfr⟩, ⟨⟨?_, ?_⟩, ?_⟩, hx5, hfin, ?_, fun k hk => ⟨?_, ?_⟩, rfl⟩
  · rw [e1, o1 1 (by decide)]
    exact hb0
  · rw [e1, o1 2 (by decide)]
    exact hr2
  · rw [e1, o1 2 (by decide)]
    exact hp
  · rw [e1, o1 0 (by decide)]
    exact hs
  · rw [e1]
    show k_up _ 1 (k_u1 (σ 1) 9 (m : Int)) 1 9 = (m : Int)
    rw [k_up_same]
    exact if_pos rfl
  · rw [hc 8 (by decide)]
    exact (hnote k hk).1
  · rw [hc 9 (by decide)]
    exact (hnote k hk).2
theorem p_LB_pl (hτ : ∀ i, i < 10 → υ i = τ i) {p : Int} {e : Nat} (h : p_LB r τ p s m e M P x0) : p_LB r υ p s m e M P x0 := by
  obtain ⟨h1, h2, h3, h4, h5, h6, h7, h8, h9⟩ := h
  have e1 := hτ 1 (by decide)
  refine ⟨h1, by rw [e1]; exact h2, h3, by rw [e1]; exact h4, h5, k_P1_pl (fun i hi => hτ i hi) h6, by rw [e1]; exact h7, fun k hk => ?_, h9⟩
  rw [hτ 8 (by decide), hτ 9 (by decide)]
  exact h8 k hk
/-- the joined class in the timetable: at the chain's first block alone -/
theorem p_LB_entry (hI : k_Ty τ) {p : Int} {e : Nat} (h : p_LB r τ p s m e M P x0) {b : Nat} (hb : b < 4) : p_T τ (4 * p + (b : Int)).toNat = s ↔ b = e := by
  obtain ⟨h1, ⟨⟨hm, he⟩, -⟩, ⟨hpM, hpe, hno⟩, ⟨⟨h4, hp⟩, hs⟩, h5, h6, h7, h8, -⟩ := h
  obtain ⟨g1, g2, g3⟩ := g_up h1 x0 h5 m (Nat.le_refl m)
  rw [p_T_row h6 hI (by omega), show 105 + (4 * p + (b : Int)).toNat = (105 + 4 * p + (b : Int)).toNat by omega]
  by_cases q : b = e
  · subst q
    exact ⟨fun _ => rfl, fun _ => if_pos rfl⟩
  · have e1 : k_u1 (k_fold m (g_step M P s) x0) (105 + 4 * p + (e : Int)).toNat s (105 + 4 * p + (b : Int)).toNat = k_fold m (g_step M P s) x0 (105 + 4 * p + (b : Int)).toNat := if_neg (by omega)
    rw [e1, g2 p (b : Int) hp.1 (by omega) (by omega) hpM]
    exact ⟨fun z => absurd z (hno (b : Int) (by omega) (by omega)), fun z => absurd z q⟩
/-- classes fit timetables -/
theorem p_cls (hR : k_P1 r σ) (hI : k_Ty σ) {s b : Int} (hs : 0 ≤ s ∧ s < σ 1 0) (hb : 0 ≤ b ∧ b < σ 1 1) {p : Nat} (hp : (p : Int) < σ 1 2) : (f_lesson σ (p : Int) b = s ↔ z_bit (f_roster σ s b) (p : Int) = true) ∧ (f_lesson σ (p : Int) b = s → f_taken σ (p : Int) s = b ∧ (0 ≤ z_cntn (f_roster σ s b) p ∧ z_cntn (f_roster σ s b) p < z_cnt (f_roster σ s b)) ∧ g_memb (f_roster σ s b) (z_cntn (f_roster σ s b) p) = (p : Int)) := by
  have hS := hI.1
  have hB := hI.2.1
  have hPu := hI.2.2.1
  have hp' : 0 ≤ (p : Int) ∧ (p : Int) < σ 1 2 := ⟨by omega, hp⟩
  have e1 := q_lesson hR hI hp' (b := b) ⟨hb.1, by omega⟩
  have e2 := q_bit hR hp' (s := s) (b := b) ⟨hs.1, by omega⟩ ⟨hb.1, by omega⟩
  have h1 : f_lesson σ (p : Int) b = s ↔ z_bit (f_roster σ s b) (p : Int) = true := by rw [e1, e2]
  refine ⟨h1, fun h => ?_⟩
  have hbit := h1.mp h
  have hrow : r (105 + 4 * (p : Int) + b).toNat = s := e1.symm.trans h
  have hmono : ∀ j : Nat, p < j → z_cntn (f_roster σ s b) p + 1 ≤ z_cntn (f_roster σ s b) j := fun j => by
    induction j with
    | zero => exact fun h => absurd h (Nat.not_lt_zero _)
    | succ j ih =>
      intro hj
      rw [z_cntn_s]
      have hz := zb_r (z_bit (f_roster σ s b) (j : Int) = true)
      by_cases q : p = j
      · subst q
        rw [zb_t hbit]
        omega
      · have := ih (by omega)
        omega
  have hmon2 : ∀ i j : Nat, i < j → z_bit (f_roster σ s b) (i : Int) = true → z_cntn (f_roster σ s b) i + 1 ≤ z_cntn (f_roster σ s b) j := fun i j => by
    induction j with
    | zero => exact fun h => absurd h (Nat.not_lt_zero _)
    | succ j ih =>
      intro hj hbi
      rw [z_cntn_s]
      have hz := zb_r (z_bit (f_roster σ s b) (j : Int) = true)
      by_cases q : i = j
      · subst q
        rw [zb_t hbi]
        omega
      · have := ih (by omega) hbi
        omega
  refine ⟨?_, ⟨(z_cntn_r _ p).1, ?_⟩, ?_⟩
  · rw [q_taken hR hI hp' (s := s) ⟨hs.1, by omega⟩]
    rcases z_blockOf r (p : Int) s with ⟨-, w⟩ | ⟨w1, w2⟩
    · exact absurd hrow (w b hb.1 (by omega))
    · exact hR.2.2.2.1.2.2.2 (p : Int) _ _ hp'.1 hp'.2 w1.1 w1.2 hb.1 (by omega) (w2.trans hrow.symm) (by omega)
  · have := hmono 16 (by omega)
    have e16 : z_cnt (f_roster σ s b) = z_cntn (f_roster σ s b) 16 := rfl
    omega
  · unfold g_memb
    refine z_first_some (i := p) ?_ (fun j hj => ?_) 16 (by omega)
    · rw [hbit, decide_eq_true rfl]
      rfl
    · cases hbj : z_bit (f_roster σ s b) (j : Int) with
      | false => rfl
      | true =>
        have := hmon2 j p hj hbj
        rw [Bool.true_and]
        exact decide_eq_false (by omega)
/-- the count of a class's pupils, all pupils looked at -/
theorem p_cls_n (hR : k_P1 r σ) (hI : k_Ty σ) {s b : Int} : z_cntn (f_roster σ s b) (σ 1 2).toNat = z_cnt (f_roster σ s b) := by
  have hPu := hI.2.2.1
  have h : ∀ n : Nat, (σ 1 2).toNat ≤ n → z_cntn (f_roster σ s b) n = z_cntn (f_roster σ s b) (σ 1 2).toNat := fun n => by
    induction n with
    | zero => intro h; rw [show (σ 1 2).toNat = 0 by omega]
    | succ n ih =>
      intro h
      by_cases q : (σ 1 2).toNat = n + 1
      · rw [q]
      · rw [z_cntn_s, ih (by omega), zb_f, Int.add_zero]
        intro hb
        have := (q_bitS hR (p := (n : Int)) (by omega) hb).2.1
        omega
  exact (h 16 (by omega)).symm
/-- who has a class sees an open one -/
theorem p_cls_o (hR : k_P1 r σ) {s b : Int} (h : 0 < z_cnt (f_roster σ s b)) : z_bit (f_open σ s) b = true := by
  refine Classical.byContradiction fun hn => ?_
  have : z_cnt (f_roster σ s b) = 0 := z_cntn_0 16 fun j hj => by
    cases hb : z_bit (f_roster σ s b) (j : Int) with
    | false => rfl
    | true => exact absurd (q_bitS hR (p := (j : Int)) (by omega) hb).2.2 hn
  omega
/-- behind a change: quit here, entered there -/
theorem p_chg (hR : k_P1 r σ) (hOK : k_OK σ) {p a c : Int} (h0 : e_change σ p a c = 0) (hch : f_few (u_quit σ p a) c (f_free (u_quit σ p a) p) ≠ -1) : f_taken (u_car (u_quit σ p a) p c) p a = -1 ∧ f_taken (u_car (u_quit σ p a) p c) p c ≠ -1 ∧ u_car (u_quit σ p a) p c 1 9 = f_few (u_quit σ p a) c (f_free (u_quit σ p a) p) := by
  obtain ⟨hI, hS, hC, hA, hH⟩ := id hOK
  have hSn := hI.1
  obtain ⟨j1, j2⟩ := e_change_0 h0
  obtain ⟨⟨⟨j3, j4⟩, j5⟩, j6, j7⟩ := e_chg_0 j1
  have hne : c ≠ a := fun z => by rw [z] at j7; exact j6 j7
  have hI2 : k_Ty (u_quit σ p a) := u_leave_ty hI
  have u1 : u_quit σ p a 1 = σ 1 := u_leave_ne (by decide)
  have htr := f_taken_r hI p a
  -- the row behind quitting
  have htk := q_taken hR hI j3 (s := a) ⟨j4.1, by omega⟩
  have hz := z_blockOf r p a
  rw [← htk] at hz
  have hz := hz.resolve_left (fun y => j6 y.1)
  have hq : k_P1 (k_u1 r (105 + 4 * p + f_taken σ p a).toNat (-1)) (u_quit σ p a) := q_leave hR hI j3 j4 (b := f_taken σ p a) ⟨by omega, htr.2⟩ hz.2
  have hno : f_taken (u_quit σ p a) p c = -1 := (f_taken_leave hI hne).trans j7
  have hp2 : 0 ≤ p ∧ p < u_quit σ p a 1 2 := by rw [u1]; exact j3
  have hc2 : 0 ≤ c ∧ c < u_quit σ p a 1 0 := by rw [u1]; exact j5
  obtain ⟨m, e, M, P, x0, hf, hLB⟩ := p_LB_car hq hI2 (u_leave_ch hC) hp2 hc2 hno hch
  obtain ⟨h1, ⟨⟨hm, he⟩, heb⟩, ⟨hpM, hpe, hfr⟩, ⟨⟨h4, hp⟩, hs⟩, h5, h6, h7, h8, -⟩ := hLB
  have hty : k_Ty (u_car (u_quit σ p a) p c) := (k_ok_car (show k_OK (u_quit σ p a) from k_OK_pl hOK hI2 (fun i hi => u_leave_ne (by omega))) ⟨j3.1, by have := hI.2.2.1; omega⟩ hch).1
  obtain ⟨g1, g2, g3⟩ := g_up h1 x0 h5 m (Nat.le_refl m)
  have hrow : ∀ b : Int, 0 ≤ b → b < 4 → k_u1 (k_fold m (g_step M P c) x0) (105 + 4 * p + (e : Int)).toNat c (105 + 4 * p + b).toNat = if b = (e : Int) then c else k_u1 r (105 + 4 * p + f_taken σ p a).toNat (-1) (105 + 4 * p + b).toNat := fun b b0 b4 => by
    by_cases q : b = (e : Int)
    · rw [if_pos q]
      exact if_pos (by rw [q])
    · rw [if_neg q, ← g2 p b hp.1 b0 b4 hpM]
      exact if_neg (by omega)
  refine ⟨?_, ?_, h7.trans hf.symm⟩
  · rw [q_taken h6 hty hp (s := a) ⟨j4.1, by omega⟩]
    rcases z_blockOf (k_u1 (k_fold m (g_step M P c) x0) (105 + 4 * p + (e : Int)).toNat c) p a with ⟨w, -⟩ | ⟨w1, w2⟩
    · exact w
    · exfalso
      rw [hrow _ w1.1 w1.2] at w2
      generalize m_blockOfSubject (k_u1 (k_fold m (g_step M P c) x0) (105 + 4 * p + (e : Int)).toNat c) p a = B at w1 w2
      by_cases q : B = (e : Int)
      · rw [if_pos q] at w2
        exact hne w2
      · rw [if_neg q] at w2
        have w3 : (if (105 + 4 * p + B).toNat = (105 + 4 * p + f_taken σ p a).toNat then -1 else r (105 + 4 * p + B).toNat) = a := w2
        by_cases q2 : (105 + 4 * p + B).toNat = (105 + 4 * p + f_taken σ p a).toNat
        · rw [if_pos q2] at w3
          omega
        · rw [if_neg q2] at w3
          have hB4 := hI.2.1
          have := hR.2.2.2.1.2.2.2 p B (f_taken σ p a) j3.1 j3.2 w1.1 w1.2 (by omega) (by omega) (w3.trans hz.2.symm) (by omega)
          exact q2 (by rw [this])
  · rw [q_taken h6 hty hp (s := c) ⟨j5.1, by omega⟩]
    rcases z_blockOf (k_u1 (k_fold m (g_step M P c) x0) (105 + 4 * p + (e : Int)).toNat c) p c with ⟨-, w⟩ | ⟨w1, w2⟩
    · exfalso
      have := hrow (e : Int) (by omega) (by omega)
      rw [if_pos rfl] at this
      exact w (e : Int) (by omega) (by omega) this
    · omega
end P_F
