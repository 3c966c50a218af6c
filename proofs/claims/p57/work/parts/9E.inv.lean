/-! ===== THE LAW'S LOOPS: what holds in them ===== -/
section P_M
variable {sh : List k_Sh} {σ τ : Nat → Nat → Int} {S B Pn x p s z v : Int} {b k n : Nat}
def l_I1 (σ : Nat → Nat → Int) (x B : Int) : Prop := p_J σ ∧ σ 1 0 = x ∧ σ 1 1 = B ∧ σ 1 2 = 0 ∧ ∀ j, σ 4 j = 0
def l_I1b (σ : Nat → Nat → Int) (x B : Int) (b : Nat) : Prop := l_I1 σ (x + 1) B ∧ ∀ c : Int, (b : Int) ≤ c → z_bit (f_open σ x) c = false
def l_I2 (σ : Nat → Nat → Int) (S B p : Int) : Prop := p_J σ ∧ σ 1 0 = S ∧ σ 1 1 = B ∧ σ 1 2 = p ∧ (∀ j, σ 4 j = 0) ∧ ∀ q : Int, 0 ≤ q → q < p → 1 ≤ σ 5 q.toNat
def l_I2b (σ : Nat → Nat → Int) (S B p : Int) (k : Nat) : Prop := p_J σ ∧ σ 1 0 = S ∧ σ 1 1 = B ∧ σ 1 2 = p + 1 ∧ (∀ j, σ 4 j = 0) ∧ (∀ q : Int, 0 ≤ q → q < p → 1 ≤ σ 5 q.toNat) ∧ ((k = 0 ∧ σ 5 p.toNat = 0 ∧ σ 7 p.toNat = -1) ∨ 1 ≤ σ 5 p.toNat)
def l_I3 (σ : Nat → Nat → Int) (S B Pn p : Int) : Prop := p_J σ ∧ σ 1 0 = S ∧ σ 1 1 = B ∧ σ 1 2 = Pn ∧ (∀ q : Int, 0 ≤ q → q < Pn → 1 ≤ σ 5 q.toNat) ∧ p_N σ p
def l_I4 (sh : List k_Sh) (σ : Nat → Nat → Int) (S B Pn : Int) (n : Nat) : Prop := p_Sh sh n ∧ p_J σ ∧ (σ 1 0 = S ∧ σ 1 1 = B ∧ σ 1 2 = Pn)
theorem l_0 (hJ : p_J σ) (h0 : σ 1 0 = 0) (h2 : σ 1 2 = 0) (h4 : ∀ j, σ 4 j = 0) (he : e_fault σ 1 B 0 0 = 0) : l_I1 (u_make σ 1 B 0 0) 0 B := by
  obtain ⟨a0, a1, a2, a4⟩ := s_blocks hJ he
  exact ⟨(p_make hJ (by decide)).1, a0.trans h0, a1, a2.trans h2, fun j => by rw [a4]; exact h4 j⟩
theorem l_1a (h : l_I1 σ x B) (he : e_fault σ 0 z 0 0 = 0) : l_I1b (u_make σ 0 z 0 0) x B 0 := by
  obtain ⟨hJ, h0, h1, h2, h4⟩ := h
  obtain ⟨a0, a1, a2, a4, ao⟩ := s_subject hJ he
  rw [h0] at ao
  refine ⟨⟨(p_make hJ (by decide)).1, by rw [a0, h0], a1.trans h1, a2.trans h2, fun j => by rw [a4]; exact h4 j⟩, fun c _ => ?_⟩
  rw [ao]
  exact z_bit_0 c
theorem l_1s (h : l_I1b σ x B b) : l_I1b σ x B (b + 1) := ⟨h.1, fun c hc => h.2 c (by omega)⟩
theorem l_1b (h : l_I1b σ x B b) (hx : 0 ≤ x) (he : e_fault σ 2 x (b : Int) 0 = 0) : l_I1b (u_make σ 2 x (b : Int) 0) x B (b + 1) := by
  obtain ⟨⟨hJ, h0, h1, h2, h4⟩, ho⟩ := h
  obtain ⟨a1, a4, ao⟩ := s_open hJ (s := x) (by omega) he
  refine ⟨⟨(p_make hJ (by decide)).1, by rw [a1]; exact h0, by rw [a1]; exact h1, by rw [a1]; exact h2, fun j => by rw [a4]; exact h4 j⟩, fun c hc => ?_⟩
  rw [ao, z_bit_or, ho c (by omega), z_bit_one (by omega) (by omega), decide_eq_false (by omega)]
  rfl
theorem l_2 (h : l_I1 σ S B) : l_I2 σ S B 0 := ⟨h.1, h.2.1, h.2.2.1, h.2.2.2.1, h.2.2.2.2, fun q h0 h1 => by omega⟩
theorem l_2a (h : l_I2 σ S B p) (hp : 0 ≤ p) (he : e_fault σ 4 0 0 0 = 0) : l_I2b (u_make σ 4 0 0 0) S B p 0 := by
  obtain ⟨hJ, h0, h1, h2, h4, h5⟩ := h
  obtain ⟨a0, a1, a2, a4, a5, a50, a7⟩ := s_pupil hJ he
  rw [h2] at a50 a7
  exact ⟨(p_make hJ (by decide)).1, a0.trans h0, a1.trans h1, by rw [a2, h2], fun j => by rw [a4]; exact h4 j, fun q q0 q1 => by rw [a5]; exact h5 q q0 q1, Or.inl ⟨rfl, a50, a7⟩⟩
theorem l_2b (h : l_I2b σ S B p k) (hp : 0 ≤ p) (hs : 0 ≤ s ∧ s < S) : l_I2b (u_make σ 5 p s 0) S B p (k + 1) := by
  obtain ⟨hJ, h0, h1, h2, h4, h5, h6⟩ := h
  obtain ⟨a1, a4, a5, a6, a7⟩ := s_wish hJ (p := p) (s := s) (by omega) (by omega)
  refine ⟨(p_make hJ (by decide)).1, by rw [a1]; exact h0, by rw [a1]; exact h1, by rw [a1]; exact h2, fun j => by rw [a4]; exact h4 j, fun q q0 q1 => by rw [a5 _ (by omega)]; exact h5 q q0 q1, Or.inr ?_⟩
  rcases h6 with ⟨-, w1, w2⟩ | w
  · exact a7 w1 w2
  · omega
theorem l_2c (h : l_I2b σ S B p k) (hk : 0 < k) (hp : 0 ≤ p) : l_I2 (u_make σ 6 p s 0) S B (p + 1) := by
  obtain ⟨hJ, h0, h1, h2, h4, h5, h6⟩ := h
  obtain ⟨a1, a4, a5⟩ := s_reserve hJ (p := p) (s := s)
  refine ⟨(p_make hJ (by decide)).1, by rw [a1]; exact h0, by rw [a1]; exact h1, by rw [a1]; exact h2, fun j => by rw [a4]; exact h4 j, fun q q0 q1 => ?_⟩
  rw [a5]
  by_cases e : q = p
  · rw [e]
    exact h6.resolve_left (fun y => by omega)
  · exact h5 q q0 (by omega)
theorem l_3 (h : l_I2 σ S B Pn) (hQ : p_Q τ σ) : l_I3 τ S B Pn 0 := by
  obtain ⟨hJ, h0, h1, h2, h4, h5⟩ := h
  have e1 := hQ.1 1 (by omega)
  exact ⟨hQ.2, by rw [e1]; exact h0, by rw [e1]; exact h1, by rw [e1]; exact h2, fun q q0 q1 => by rw [hQ.1 5 (by omega)]; exact h5 q q0 q1, p_N_pl hQ.pl (p_N_0 h4)⟩
theorem l_3q (h : l_I3 σ S B Pn p) (hQ : p_Q τ σ) : l_I3 τ S B Pn p := by
  obtain ⟨hJ, h0, h1, h2, h5, hN⟩ := h
  have e1 := hQ.1 1 (by omega)
  exact ⟨hQ.2, by rw [e1]; exact h0, by rw [e1]; exact h1, by rw [e1]; exact h2, fun q q0 q1 => by rw [hQ.1 5 (by omega)]; exact h5 q q0 q1, p_N_pl hQ.pl hN⟩
/-- the first enrolling of a pupil -/
theorem l_3a (h : l_I3 σ S B Pn p) (hp : 0 ≤ p ∧ p < Pn) : e_fault σ 7 p 0 0 = 0 ∧ p_ev σ p = f_vbs (u_roomy σ p 11) := by
  obtain ⟨hJ, h0, h1, h2, h5, hN⟩ := h
  have hl := p_less0 (σ := σ) (p := p) (fun s b => hN p s b (Int.le_refl p))
  have hw := h5 p hp.1 hp.2
  have hno : ¬ (0 < f_lessons σ p ∨ σ 5 p.toNat ≤ 0) := by omega
  exact ⟨(if_pos (show 0 ≤ p ∧ p < σ 1 2 by omega)).trans (if_neg hno), if_neg hno⟩
/-- what holds between the two enrollings -/
theorem l_3b (h : l_I3 σ S B Pn p) (hp : 0 ≤ p ∧ p < Pn) : l_I3 (u_make σ 7 p 0 0) S B Pn (p + 1) ∧ f_vbs (u_roomy (u_make σ 7 p 0 0) p 11) = f_vbs (u_roomy σ p 11) ∧ (0 < f_vbs (u_roomy σ p 11) → p_has (u_make σ 7 p 0 0) p B.toNat = true) := by
  obtain ⟨he, -⟩ := l_3a h hp
  obtain ⟨hJ, h0, h1, h2, h5, hN⟩ := h
  have hp2 : 0 ≤ p ∧ p < σ 1 2 := by omega
  obtain ⟨g1, g2, g3⟩ := s_enrol hJ hp2 he
  have hJ2 := (p_make hJ (m := 7) (a := p) (b := 0) (c := 0) (by decide)).1
  have e1 := g2 1 (by omega)
  refine ⟨⟨hJ2, by rw [e1]; exact h0, by rw [e1]; exact h1, by rw [e1]; exact h2, fun q q0 q1 => by rw [g2 5 (by omega)]; exact h5 q q0 q1, p_N_enrol hJ hp2 (fun j s b hj => hN j s b (by omega))⟩, p_val_cong p ⟨by rw [e1], by rw [e1]⟩ (g2 2 (by omega)) (g2 3 (by omega)) (g2 5 (by omega)) (g2 6 (by omega)) g1, fun hv => ?_⟩
  obtain ⟨s, b, hb⟩ := g3 hv
  have hl := p_busy1 hJ2 hp.1 hb
  have hB : (u_make σ 7 p 0 0) 1 1 = B := by rw [e1]; exact h1
  refine (p_has_n B.toNat).mpr ?_
  rw [← hB]
  exact hl
/-- the second -/
theorem l_3c (h : l_I3 σ S B Pn (p + 1)) (hp : 0 ≤ p ∧ p < Pn) : p_ev σ p = (if p_has σ p B.toNat = true then -1002 else f_vbs (u_roomy σ p 11)) ∧ l_I3 (u_make σ 7 p 0 0) S B Pn (p + 1) := by
  obtain ⟨hJ, h0, h1, h2, h5, hN⟩ := h
  have hp2 : 0 ≤ p ∧ p < σ 1 2 := by omega
  have hw := h5 p hp.1 hp.2
  have hh := p_has_n (σ := σ) (p := p) B.toNat
  rw [← h1] at hh
  have hh : p_has σ p (σ 1 1).toNat = true ↔ 0 < f_lessons σ p := hh
  refine ⟨?_, (p_make hJ (by decide)).1, (p_one hJ (by omega) (by decide)).trans h0, (p_one hJ (by omega) (by decide)).trans h1, (p_one hJ (by omega) (by decide)).trans h2, fun q q0 q1 => ?_, p_N_enrol hJ hp2 hN⟩
  · unfold p_ev
    rw [← h1]
    by_cases q : p_has σ p (σ 1 1).toNat = true
    · rw [if_pos q, if_pos (Or.inl (hh.mp q))]
    · rw [if_neg q, if_neg]
      rintro (y | y)
      · exact q (hh.mpr y)
      · omega
  · by_cases he : e_fault σ 7 p 0 0 = 0
    · rw [(s_enrol hJ hp2 he).2.1 5 (by omega)]
      exact h5 q q0 q1
    · rw [p_make_x he 5 (by decide)]
      exact h5 q q0 q1
theorem l_4 (h : l_I3 σ S B Pn p) (hS : p_Sh sh n) : l_I4 sh σ S B Pn n := ⟨hS, h.1, h.2.1, h.2.2.1, h.2.2.2.1⟩
theorem p_has_s (σ : Nat → Nat → Int) (p : Int) (i : Nat) : p_has σ p (i + 1) = (p_has σ p i || decide (0 ≤ f_lesson σ p (i : Int))) := rfl
/-- quitting and withdrawing -/
theorem l_quit (h : l_I4 sh σ S B Pn n) : l_I4 sh (u_make σ 9 p s 0) S B Pn n := by
  obtain ⟨hS, hJ, h0, h1, h2⟩ := h
  exact ⟨hS, (p_make hJ (by decide)).1, (p_one hJ (by omega) (by decide)).trans h0, (p_one hJ (by omega) (by decide)).trans h1, (p_one hJ (by omega) (by decide)).trans h2⟩
theorem l_wd (h : l_I4 sh σ S B Pn n) : l_I4 sh (u_wd σ p) S B Pn n := by
  obtain ⟨hS, hJ, h0, h1, h2⟩ := h
  have e1 : u_wd σ p 1 = σ 1 := by
    unfold u_wd
    split
    · rw [u_drop_ne p (by decide), (k_kep_pl hJ.1.1.2.2.2.2).c1]
    · rfl
  refine ⟨hS, ?_, by rw [e1]; exact h0, by rw [e1]; exact h1, by rw [e1]; exact h2⟩
  have := (p_withdraw hJ (p := p)).1
  exact this
theorem l_4m {n' : Nat} (h : l_I4 sh σ S B Pn n) (hn : n ≤ n') : l_I4 sh σ S B Pn n' := ⟨p_Sh_mono h.1 hn, h.2⟩
end P_M
