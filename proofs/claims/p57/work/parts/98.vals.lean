/-! ===== THE LAW: what its wrappers answer ===== -/
section P_G
variable {E : k_E} {sh : List k_Sh} {σ τ : Nat → Nat → Int} {r : Nat → Int}
theorem w_val_v {l : List String} {v : Int} (h : -2147483648 ≤ v ∧ v < 2147483648) : w_val l (.inl (some (.int (iI v)))) = v := iI_toInt h
theorem w_valB_v {l : List String} {p : Prop} [Decidable p] : w_valB l (.inl (some (.int (iI (zb p))))) = zb p := by
  show (if (iI (zb p)).toInt = 0 then (0 : Int) else 1) = zb p
  rw [iI_toInt (zb_kr p)]
  by_cases h : p
  · rw [zb_t h]; rfl
  · rw [zb_f h]; rfl
theorem x_of_1 : x_of 1 = x_io := rfl
theorem x_of_3 : x_of 3 = x_is := rfl
theorem x_of_4 : x_of 4 = x_uo := rfl
theorem w_1x : w_val [x_io] (.inr x_io) = -1001 := by decide +kernel
theorem w_2s : w_val [x_io, x_is] (.inr x_is) = -1002 := by decide +kernel
theorem w_2n : w_val [x_io, x_ns] (.inr x_ns) = -1002 := by decide +kernel
theorem w_ns : w_val [x_ns] (.inr x_ns) = -1001 := by decide +kernel
theorem w_3s : w_val [x_io, x_is, x_ns] (.inr x_is) = -1002 := by decide +kernel
theorem w_3n : w_val [x_io, x_is, x_ns] (.inr x_ns) = -1003 := by decide +kernel
theorem w_4s : w_val [x_io, x_is, x_uo] (.inr x_is) = -1002 := by decide +kernel
theorem w_4u : w_val [x_io, x_is, x_uo] (.inr x_uo) = -1003 := by decide +kernel
theorem p_kept (hOK : k_OK σ) (m a b c : Int) : k_PlEq (u_kept σ m a b c) σ := (u_keepB_pl (by rw [u_fault_ne m a b c (i := 24) (by decide)]; exact hOK.2.2.2.2.2.1)).trans (u_fault_pl m a b c)
/-- what a change answers that is made, and that isn't -/
theorem r_make_0 {m a b c : Int} (h : e_fault σ m a b c = 0) : r_make σ m a b c = .inl (some (.int (iI (f_perf (u_kept σ m a b c) m a b c)))) := if_pos h
theorem r_make_x {m a b c : Int} (h : e_fault σ m a b c ≠ 0) : r_make σ m a b c = .inr (x_of (e_fault σ m a b c)) := if_neg h
theorem d_pupilCount (hsh : k_Main sh) (hJ : p_J σ) : k_C E mX7_pupilCount 8 [.ref 0] sh σ 1 6 (k_ret (some (.int (iI (σ 1 2)))) sh σ) := c7_pupilCount hsh hJ.1.1.1
theorem d_blockCount (hsh : k_Main sh) (hJ : p_J σ) : k_C E mX7_blockCount 8 [.ref 0] sh σ 1 6 (k_ret (some (.int (iI (σ 1 1)))) sh σ) := c7_blockCount hsh hJ.1.1.1
theorem d_subjectCount (hsh : k_Main sh) (hJ : p_J σ) : k_C E mX7_subjectCount 8 [.ref 0] sh σ 1 6 (k_ret (some (.int (iI (σ 1 0)))) sh σ) := c7_subjectCount hsh hJ.1.1.1
theorem d_servedCount (hsh : k_Main sh) (hJ : p_J σ) : k_C E mX7_servedCount 8 [.ref 0] sh σ 1 6 (k_ret (some (.int (iI (f_servedN σ (σ 1 2).toNat)))) sh σ) := c7_servedCount hsh hJ.1.1.1
theorem d_leastClashes (hsh : k_Main sh) (hJ : p_J σ) : k_C E mX7_leastClashes 14 [.ref 0] sh σ 1 6 (k_ret (some (.int (iI ((f_abest σ).2.2.2)))) sh (u_abest σ)) := c7_leastClashes hsh hJ.1.1.1 hJ.1.1.2.2.2.1
theorem d_leastClashesByTrial (hsh : k_Main sh) (hJ : p_J σ) : k_C E mX7_leastClashesByTrial 14 [.ref 0] sh σ 1 6 (k_ret (some (.int (iI ((f_atry σ).1)))) sh (u_atry σ)) := c7_leastClashesByTrial hsh hJ.1.1.1 hJ.1.1.2.2.2.1 hJ.1.2.2.1
theorem p_J_rg (hJ : p_J σ) : (0 ≤ σ 1 0 ∧ σ 1 0 ≤ 7) ∧ (1 ≤ σ 1 1 ∧ σ 1 1 ≤ 4) ∧ (0 ≤ σ 1 2 ∧ σ 1 2 ≤ 12) := ⟨hJ.1.1.1.1, hJ.1.1.1.2.1, hJ.1.1.1.2.2.1⟩
theorem v_sizeOf (hsh : k_Main sh) (hJ : p_J σ) {s : Int} (hs : 0 ≤ s ∧ s < σ 1 0) : k_C E mL_sizeOf 9 [.ref 0, .int (iI s)] sh σ 1 6 (k_ret (some (.int (iI (σ 2 s.toNat)))) sh (σ)) := by
  obtain ⟨j0, j1, j2⟩ := p_J_rg hJ
  have hc := c7_sizeOf (E := E) hsh hJ.1.1.1 (s := s) ⟨by omega, by omega⟩
  rw [if_pos hs] at hc
  have h := cw_sizeOf hsh hsh hc (Or.inl ⟨_, rfl⟩)
  rwa [w_val_v (by have := hJ.1.1.1.2.2.2.1 s.toNat; omega)] at h
theorem v_isOpen (hsh : k_Main sh) (hJ : p_J σ) {s b : Int} (hs : 0 ≤ s ∧ s < σ 1 0) (hb : 0 ≤ b ∧ b < σ 1 1) : k_C E mL_isOpen 9 [.ref 0, .int (iI s), .int (iI b)] sh σ 1 6 (k_ret (some (.int (iI (zb (z_bit (f_open σ s) b = true))))) sh (σ)) := by
  obtain ⟨j0, j1, j2⟩ := p_J_rg hJ
  have hc := c7_isOpen (E := E) hsh hJ.1.1.1 (s := s) (b := b) ⟨by omega, by omega⟩ ⟨by omega, by omega⟩
  rw [if_pos ⟨hs, hb⟩] at hc
  have h := cw_isOpen hsh hsh hc (Or.inl ⟨_, rfl⟩)
  rwa [w_valB_v] at h
theorem v_pupilsInClass (hsh : k_Main sh) (hJ : p_J σ) {s b : Int} (hs : 0 ≤ s ∧ s < σ 1 0) (hb : 0 ≤ b ∧ b < σ 1 1) : k_C E mL_pupilsInClass 9 [.ref 0, .int (iI s), .int (iI b)] sh σ 1 6 (k_ret (some (.int (iI (z_cnt (f_roster σ s b))))) sh (σ)) := by
  obtain ⟨j0, j1, j2⟩ := p_J_rg hJ
  have hc := c7_pupilsInClass (E := E) hsh hJ.1.1.1 (s := s) (b := b) ⟨by omega, by omega⟩ ⟨by omega, by omega⟩
  rw [if_pos ⟨hs, hb⟩] at hc
  have h := cw_pupilsInClass hsh hsh hc (Or.inl ⟨_, rfl⟩)
  rwa [w_val_v (by have := z_cnt_r (f_roster σ s b); omega)] at h
theorem v_pupilInClass (hsh : k_Main sh) (hJ : p_J σ) {s b i : Int} (hs : 0 ≤ s ∧ s < σ 1 0) (hb : 0 ≤ b ∧ b < σ 1 1) (hi : 0 ≤ i ∧ i < z_cnt (f_roster σ s b)) : k_C E mL_pupilInClass 9 [.ref 0, .int (iI s), .int (iI b), .int (iI i)] sh σ 1 6 (k_ret (some (.int (iI (g_memb (f_roster σ s b) i)))) sh (σ)) := by
  obtain ⟨j0, j1, j2⟩ := p_J_rg hJ
  have hcn := z_cnt_r (f_roster σ s b)
  have hc := c7_pupilInClass (E := E) hsh hJ.1.1.1 (s := s) (b := b) (i := i) ⟨by omega, by omega⟩ ⟨by omega, by omega⟩ ⟨by omega, by omega⟩
  rw [if_pos ⟨hs, hb⟩] at hc
  rw [if_pos hi] at hc
  have h := cw_pupilInClass hsh hsh hc (Or.inl ⟨_, rfl⟩)
  rwa [w_val_v (by have := g_memb_r (f_roster σ s b) i; omega)] at h
theorem v_pupilInClassX (hsh : k_Main sh) (hJ : p_J σ) {s b i : Int} (hs : 0 ≤ s ∧ s < σ 1 0) (hb : 0 ≤ b ∧ b < σ 1 1) (hi : i = z_cnt (f_roster σ s b)) : k_C E mL_pupilInClass 9 [.ref 0, .int (iI s), .int (iI b), .int (iI i)] sh σ 1 6 (k_ret (some (.int (iI (-1002)))) sh (σ)) := by
  obtain ⟨j0, j1, j2⟩ := p_J_rg hJ
  have hcn := z_cnt_r (f_roster σ s b)
  have hc := c7_pupilInClass (E := E) hsh hJ.1.1.1 (s := s) (b := b) (i := i) ⟨by omega, by omega⟩ ⟨by omega, by omega⟩ ⟨by omega, by omega⟩
  rw [if_pos ⟨hs, hb⟩] at hc
  rw [if_neg (by omega)] at hc
  have h := cw_pupilInClass hsh hsh hc (Or.inr (Or.inr rfl))
  rwa [w_2n] at h
theorem v_subjectIn (hsh : k_Main sh) (hJ : p_J σ) {p b : Int} (hp : 0 ≤ p ∧ p < σ 1 2) (hb : 0 ≤ b ∧ b < σ 1 1) : k_C E mL_subjectIn 9 [.ref 0, .int (iI p), .int (iI b)] sh σ 1 6 (k_ret (some (.int (iI (f_lesson σ p b)))) sh (σ)) := by
  obtain ⟨j0, j1, j2⟩ := p_J_rg hJ
  have hc := c7_subjectIn (E := E) hsh hJ.1.1.1 (p := p) (b := b) ⟨by omega, by omega⟩ ⟨by omega, by omega⟩
  rw [if_pos ⟨hp, hb⟩] at hc
  have h := cw_subjectIn hsh hsh hc (Or.inl ⟨_, rfl⟩)
  rwa [w_val_v (by have := f_lesson_r hJ.1.1.1 p b; omega)] at h
theorem v_blockOf (hsh : k_Main sh) (hJ : p_J σ) {p s : Int} (hp : 0 ≤ p ∧ p < σ 1 2) (hs : 0 ≤ s ∧ s < σ 1 0) : k_C E mL_blockOf 9 [.ref 0, .int (iI p), .int (iI s)] sh σ 1 6 (k_ret (some (.int (iI (f_taken σ p s)))) sh (σ)) := by
  obtain ⟨j0, j1, j2⟩ := p_J_rg hJ
  have hc := c7_blockOf (E := E) hsh hJ.1.1.1 (p := p) (s := s) ⟨by omega, by omega⟩ ⟨by omega, by omega⟩
  rw [if_pos ⟨hp, hs⟩] at hc
  have h := cw_blockOf hsh hsh hc (Or.inl ⟨_, rfl⟩)
  rwa [w_val_v (by have := f_taken_r hJ.1.1.1 p s; omega)] at h
theorem v_bestValue (hsh : k_Main sh) (hJ : p_J σ) {p : Int} (hp : 0 ≤ p ∧ p < σ 1 2) : k_C E mL_bestValue 14 [.ref 0, .int (iI p)] sh σ 1 6 (k_ret (some (.int (iI (f_vbs (u_roomy σ p 11))))) sh (u_best (u_roomy σ p))) := by
  obtain ⟨j0, j1, j2⟩ := p_J_rg hJ
  obtain ⟨r, hR⟩ := hJ.2.1
  have hc := c7_bestValue (E := E) hsh hJ.1.1.1 hJ.1.1.2.1 (p := p) ⟨by omega, by omega⟩
  rw [if_pos hp, if_pos hp, p_val hR hJ.1.1.1 hp] at hc
  have h := cw_bestValue hsh hsh hc (Or.inl ⟨_, rfl⟩)
  rwa [w_val_v (by have := (p_vbs (u_roomy σ p 11)).1; omega)] at h
theorem v_bestValueBySets (hsh : k_Main sh) (hJ : p_J σ) {p : Int} (hp : 0 ≤ p ∧ p < σ 1 2) : k_C E mL_bestValueBySets 14 [.ref 0, .int (iI p)] sh σ 1 6 (k_ret (some (.int (iI (f_vbs (u_roomy σ p 11))))) sh (u_roomy σ p)) := by
  obtain ⟨j0, j1, j2⟩ := p_J_rg hJ
  have hc := c7_bestValueBySets (E := E) hsh hJ.1.1.1 hJ.1.1.2.1 (p := p) ⟨by omega, by omega⟩
  rw [if_pos hp, if_pos hp] at hc
  have h := cw_bestValueBySets hsh hsh hc (Or.inl ⟨_, rfl⟩)
  rwa [w_val_v (by have := (p_vbs (u_roomy σ p 11)).1; omega)] at h
theorem v_canServe (hsh : k_Main sh) (hJ : p_J σ) {p : Int} (hp : 0 ≤ p ∧ p < σ 1 2) : k_C E mL_canServe 14 [.ref 0, .int (iI p)] sh σ 1 6 (k_ret (some (.int (iI (zb (g_srv (u_open σ p 3 11) (σ 5 p.toNat) 3 0 = true))))) sh (u_open σ p 3)) := by
  obtain ⟨j0, j1, j2⟩ := p_J_rg hJ
  have hc := c7_canServe (E := E) hsh hJ.1.1.1 hJ.1.1.2.1 (p := p) ⟨by omega, by omega⟩
  rw [if_pos hp, if_pos hp] at hc
  have h := cw_canServe hsh hsh hc (Or.inl ⟨_, rfl⟩)
  rwa [w_valB_v] at h
theorem v_canServeByCounting (hsh : k_Main sh) (hJ : p_J σ) {p : Int} (hp : 0 ≤ p ∧ p < σ 1 2) : k_C E mL_canServeByCounting 14 [.ref 0, .int (iI p)] sh σ 1 6 (k_ret (some (.int (iI (zb (f_hall (u_open σ p 3 11) (σ 5 p.toNat)))))) sh (u_open σ p 3)) := by
  obtain ⟨j0, j1, j2⟩ := p_J_rg hJ
  have hc := c7_canServeByCounting (E := E) hsh hJ.1.1.1 hJ.1.1.2.1 (p := p) ⟨by omega, by omega⟩
  rw [if_pos hp, if_pos hp] at hc
  have h := cw_canServeByCounting hsh hsh hc (Or.inl ⟨_, rfl⟩)
  rwa [w_valB_v] at h
theorem v_refusalReason (hsh : k_Main sh) (hJ : p_J σ) (hr : 1 ≤ σ 23 4) : k_C E mL_refusalReason 9 [.ref 0] sh σ 1 6 (k_ret (some (.int (iI (σ 23 4)))) sh (σ)) := by
  obtain ⟨j0, j1, j2⟩ := p_J_rg hJ
  have hc := c7_refusalReason (E := E) hsh hJ.1.1.1 hJ.1.2.1 
  rw [if_neg (by omega)] at hc
  have h := cw_refusalReason hsh hsh hc (Or.inl ⟨_, rfl⟩)
  rwa [w_val_v (by have := hJ.1.2.1.2.2.2.1; omega)] at h
theorem v_chainMoves (hsh : k_Main sh) (hJ : p_J σ) (hr : σ 1 9 ≠ -1) : k_C E mL_chainMoves 9 [.ref 0] sh σ 1 6 (k_ret (some (.int (iI (σ 1 9)))) sh (σ)) := by
  obtain ⟨j0, j1, j2⟩ := p_J_rg hJ
  have hc := c7_chainMoves (E := E) hsh hJ.1.1.1 hJ.1.2.1 
  rw [if_neg hr] at hc
  have h := cw_chainMoves hsh hsh hc (Or.inl ⟨_, rfl⟩)
  rwa [w_val_v (by have := hJ.1.1.1.2.2.2.2.2.2.2.2.2.1; omega)] at h
theorem v_chainPupil (hsh : k_Main sh) (hJ : p_J σ) {m : Int} (hm : 0 ≤ m ∧ m < σ 1 9) : k_C E mL_chainPupil 9 [.ref 0, .int (iI m)] sh σ 1 6 (k_ret (some (.int (iI (σ 8 m.toNat)))) sh (σ)) := by
  obtain ⟨j0, j1, j2⟩ := p_J_rg hJ
  have j9 := hJ.1.1.1.2.2.2.2.2.2.2.2.2.1
  have hc := c7_chainPupil (E := E) hsh hJ.1.1.1 (m := m) ⟨by omega, by omega⟩
  rw [if_pos hm] at hc
  have h := cw_chainPupil hsh hsh hc (Or.inl ⟨_, rfl⟩)
  rwa [w_val_v (by have := hJ.1.1.1.2.2.2.2.2.2.2.2.2.2.1 m.toNat; omega)] at h
theorem v_chainPupilX (hsh : k_Main sh) (hJ : p_J σ) {m : Int} (hm : ¬ (0 ≤ m ∧ m < σ 1 9)) (hmr : -2147483648 ≤ m ∧ m < 2147483648) : k_C E mL_chainPupil 9 [.ref 0, .int (iI m)] sh σ 1 6 (k_ret (some (.int (iI (-1001)))) sh (σ)) := by
  obtain ⟨j0, j1, j2⟩ := p_J_rg hJ
  have hc := c7_chainPupil (E := E) hsh hJ.1.1.1 (m := m) ⟨by omega, by omega⟩
  rw [if_neg hm] at hc
  have h := cw_chainPupil hsh hsh hc (Or.inr rfl)
  rwa [w_ns] at h
theorem v_chainBlock (hsh : k_Main sh) (hJ : p_J σ) {m : Int} (hm : 0 ≤ m ∧ m < σ 1 9) : k_C E mL_chainBlock 9 [.ref 0, .int (iI m)] sh σ 1 6 (k_ret (some (.int (iI (σ 9 m.toNat)))) sh (σ)) := by
  obtain ⟨j0, j1, j2⟩ := p_J_rg hJ
  have j9 := hJ.1.1.1.2.2.2.2.2.2.2.2.2.1
  have hc := c7_chainBlock (E := E) hsh hJ.1.1.1 (m := m) ⟨by omega, by omega⟩
  rw [if_pos hm] at hc
  have h := cw_chainBlock hsh hsh hc (Or.inl ⟨_, rfl⟩)
  rwa [w_val_v (by have := hJ.1.1.1.2.2.2.2.2.2.2.2.2.2.2 m.toNat; omega)] at h
theorem v_chainBlockX (hsh : k_Main sh) (hJ : p_J σ) {m : Int} (hm : ¬ (0 ≤ m ∧ m < σ 1 9)) (hmr : -2147483648 ≤ m ∧ m < 2147483648) : k_C E mL_chainBlock 9 [.ref 0, .int (iI m)] sh σ 1 6 (k_ret (some (.int (iI (-1001)))) sh (σ)) := by
  obtain ⟨j0, j1, j2⟩ := p_J_rg hJ
  have hc := c7_chainBlock (E := E) hsh hJ.1.1.1 (m := m) ⟨by omega, by omega⟩
  rw [if_neg hm] at hc
  have h := cw_chainBlock hsh hsh hc (Or.inr rfl)
  rwa [w_ns] at h
/-- the moves told, and the answer of a join -/
def p_mv (σ : Nat → Nat → Int) (p s : Int) : Int := if f_taken σ p s = -1 then (if f_few σ s (f_free σ p) = -1 then -1003 else f_few σ s (f_free σ p)) else -1002
def u_mv (σ : Nat → Nat → Int) (p s : Int) : Nat → Nat → Int := if f_taken σ p s = -1 then u_few σ s else σ
theorem p_mv_r (hJ : p_J σ) (p s : Int) : (p_mv σ p s = -1002 ∧ f_taken σ p s ≠ -1) ∨ (p_mv σ p s = -1003 ∧ f_taken σ p s = -1 ∧ f_few σ s (f_free σ p) = -1) ∨ ((0 ≤ p_mv σ p s ∧ p_mv σ p s ≤ 3) ∧ f_taken σ p s = -1 ∧ f_few σ s (f_free σ p) ≠ -1 ∧ p_mv σ p s = f_few σ s (f_free σ p)) := by
  have h := f_few_r hJ.1.1.1 hJ.1.1.2.2.1 s (f_free σ p)
  unfold p_mv
  by_cases q : f_taken σ p s = -1
  · rw [if_pos q]
    by_cases w : f_few σ s (f_free σ p) = -1
    · rw [if_pos w]
      exact Or.inr (Or.inl ⟨rfl, q, w⟩)
    · rw [if_neg w]
      exact Or.inr (Or.inr ⟨by omega, q, w, rfl⟩)
  · rw [if_neg q]
    exact Or.inl ⟨rfl, q⟩
theorem p_mv_pl (h : k_PlEq τ σ) (p s : Int) : p_mv τ p s = p_mv σ p s := by
  unfold p_mv
  rw [h.taken, h.few, h.free]
theorem e_joiner_in {p s : Int} (hp : 0 ≤ p ∧ p < σ 1 2) (hs : 0 ≤ s ∧ s < σ 1 0) : e_joiner σ p s = if f_taken σ p s = -1 then 0 else 3 := if_pos ⟨hp, hs⟩
theorem v_movesFor (hsh : k_Main sh) (hJ : p_J σ) {p s : Int} (hp : 0 ≤ p ∧ p < σ 1 2) (hs : 0 ≤ s ∧ s < σ 1 0) : k_C E mL_movesFor 13 [.ref 0, .int (iI p), .int (iI s)] sh σ 1 6 (k_ret (some (.int (iI (p_mv σ p s)))) sh (u_mv σ p s)) := by
  obtain ⟨j0, j1, j2⟩ := p_J_rg hJ
  have hc := c7_movesFor (E := E) hsh hJ.1.1.1 hJ.1.1.2.2.1 (p := p) (s := s) ⟨by omega, by omega⟩ ⟨by omega, by omega⟩
  rw [e_joiner_in hp hs] at hc
  have h := f_few_r hJ.1.1.1 hJ.1.1.2.2.1 s (f_free σ p)
  unfold p_mv u_mv
  by_cases q : f_taken σ p s = -1
  · rw [if_pos q, if_pos rfl, if_pos rfl] at hc
    rw [if_pos q, if_pos q]
    by_cases w : f_few σ s (f_free σ p) = -1
    · rw [if_pos w] at hc ⊢
      have h := cw_movesFor hsh hsh hc (Or.inr (Or.inr (Or.inr rfl)))
      rwa [w_3n] at h
    · rw [if_neg w] at hc ⊢
      have h := cw_movesFor hsh hsh hc (Or.inl ⟨_, rfl⟩)
      rwa [w_val_v (by omega)] at h
  · rw [if_neg q, if_neg (by decide), if_neg (by decide), x_of_3] at hc
    rw [if_neg q, if_neg q]
    have h := cw_movesFor hsh hsh hc (Or.inr (Or.inr (Or.inl rfl)))
    rwa [w_3s] at h
theorem v_movesByTrial (hsh : k_Main sh) (hJ : p_J σ) {p s : Int} (hp : 0 ≤ p ∧ p < σ 1 2) (hs : 0 ≤ s ∧ s < σ 1 0) : k_C E mL_movesByTrial 13 [.ref 0, .int (iI p), .int (iI s)] sh σ 1 6 (k_ret (some (.int (iI (p_mv σ p s)))) sh σ) := by
  obtain ⟨j0, j1, j2⟩ := p_J_rg hJ
  obtain ⟨r, hR⟩ := hJ.2.1
  have hc := c7_movesByTrial (E := E) hsh hJ.1.1.1 hJ.1.1.2.2.1 (p := p) (s := s) ⟨by omega, by omega⟩ ⟨by omega, by omega⟩
  have ht : f_trial σ s (f_free σ p) = f_few σ s (f_free σ p) := q_trial (ρ := fun i => if i = 124 then r else fun _ => 0) (σ := σ) (p := p) hJ.1.1.1 (q_lk hR hJ.1.1.1 hp hs)
  rw [e_joiner_in hp hs, ht] at hc
  have h := f_few_r hJ.1.1.1 hJ.1.1.2.2.1 s (f_free σ p)
  unfold p_mv
  by_cases q : f_taken σ p s = -1
  · rw [if_pos q, if_pos rfl] at hc
    rw [if_pos q]
    by_cases w : f_few σ s (f_free σ p) = -1
    · rw [if_pos w] at hc ⊢
      have h := cw_movesByTrial hsh hsh hc (Or.inr (Or.inr (Or.inr rfl)))
      rwa [w_3n] at h
    · rw [if_neg w] at hc ⊢
      have h := cw_movesByTrial hsh hsh hc (Or.inl ⟨_, rfl⟩)
      rwa [w_val_v (by omega)] at h
  · rw [if_neg q, if_neg (by decide), x_of_3] at hc
    rw [if_neg q]
    have h := cw_movesByTrial hsh hsh hc (Or.inr (Or.inr (Or.inl rfl)))
    rwa [w_3s] at h
theorem e_join_in {p s : Int} (hp : 0 ≤ p ∧ p < σ 1 2) (hs : 0 ≤ s ∧ s < σ 1 0) : e_fault σ 8 p s 0 = if f_taken σ p s = -1 then (if f_few σ s (f_free σ p) = -1 then 4 else 0) else 3 := by
  show e_join σ p s = _
  unfold e_join e_seek
  rw [e_joiner_in hp hs]
  by_cases q : f_taken σ p s = -1
  · rw [if_pos q, if_pos q, if_pos rfl]
  · rw [if_neg q, if_neg q, if_neg (by decide)]
theorem v_join (hsh : k_Main sh) (hJ : p_J σ) {p s : Int} (hp : 0 ≤ p ∧ p < σ 1 2) (hs : 0 ≤ s ∧ s < σ 1 0) : k_C E mL_join 16 [.ref 0, .int (iI p), .int (iI s)] sh σ 1 6 (k_ret (some (.int (iI (p_mv σ p s)))) sh (u_make σ 8 p s 0)) := by
  obtain ⟨j0, j1, j2⟩ := p_J_rg hJ
  have hc := c7_join (E := E) hsh hJ.1.1 (a := p) (b := s) ⟨by omega, by omega⟩ ⟨by omega, by omega⟩
  have he := e_join_in hp hs
  have h := f_few_r hJ.1.1.1 hJ.1.1.2.2.1 s (f_free σ p)
  have hk := p_kept hJ.1.1 8 p s 0
  unfold p_mv
  by_cases q : f_taken σ p s = -1
  · rw [if_pos q] at he ⊢
    by_cases w : f_few σ s (f_free σ p) = -1
    · rw [if_pos w] at he ⊢
      rw [r_make_x (by rw [he]; decide), he, x_of_4] at hc
      have h := cw_join hsh hsh hc (Or.inr (Or.inr (Or.inr rfl)))
      rwa [w_4u] at h
    · rw [if_neg w] at he ⊢
      have hv : f_perf (u_kept σ 8 p s 0) 8 p s 0 = f_few σ s (f_free σ p) := by
        show f_few (u_kept σ 8 p s 0) s (f_free (u_kept σ 8 p s 0) p) = _
        rw [hk.few, hk.free]
      rw [r_make_0 he, hv] at hc
      have h := cw_join hsh hsh hc (Or.inl ⟨_, rfl⟩)
      rwa [w_val_v (by omega)] at h
  · rw [if_neg q] at he ⊢
    rw [r_make_x (by rw [he]; decide), he, x_of_3] at hc
    have h := cw_join hsh hsh hc (Or.inr (Or.inr (Or.inl rfl)))
    rwa [w_4s] at h
def p_qv (σ : Nat → Nat → Int) (p s : Int) : Int := if f_taken σ p s = -1 then -1002 else f_taken σ p s
theorem v_quit (hsh : k_Main sh) (hJ : p_J σ) {p s : Int} (hp : 0 ≤ p ∧ p < σ 1 2) (hs : 0 ≤ s ∧ s < σ 1 0) : k_C E mL_quit 16 [.ref 0, .int (iI p), .int (iI s)] sh σ 1 6 (k_ret (some (.int (iI (p_qv σ p s)))) sh (u_make σ 9 p s 0)) := by
  obtain ⟨j0, j1, j2⟩ := p_J_rg hJ
  have hc := c7_quit (E := E) hsh hJ.1.1 (a := p) (b := s) ⟨by omega, by omega⟩ ⟨by omega, by omega⟩
  have he : e_fault σ 9 p s 0 = if f_taken σ p s = -1 then 3 else 0 := if_pos ⟨hp, hs⟩
  have h := f_taken_r hJ.1.1.1 p s
  have hk := p_kept hJ.1.1 9 p s 0
  unfold p_qv
  by_cases q : f_taken σ p s = -1
  · rw [if_pos q] at he ⊢
    rw [r_make_x (by rw [he]; decide), he, x_of_3] at hc
    have h := cw_quit hsh hsh hc (Or.inr (Or.inr rfl))
    rwa [w_2s] at h
  · rw [if_neg q] at he ⊢
    have hv : f_perf (u_kept σ 9 p s 0) 9 p s 0 = f_taken σ p s := by
      show f_taken (u_kept σ 9 p s 0) p s = _
      rw [hk.taken]
    rw [r_make_0 he, hv] at hc
    have h := cw_quit hsh hsh hc (Or.inl ⟨_, rfl⟩)
    rwa [w_val_v (by omega)] at h
/-- a change's answer -/
def p_cv (σ : Nat → Nat → Int) (p a c : Int) : Int := if f_taken σ p a = -1 ∨ f_taken σ p c ≠ -1 then -1002 else if f_few σ c (f_freeQ σ p a) = -1 then -1003 else f_few (u_quit (u_kept σ 10 p a c) p a) c (f_free (u_quit (u_kept σ 10 p a c) p a) p)
theorem e_change_in {p a c : Int} (hp : 0 ≤ p ∧ p < σ 1 2) (ha : 0 ≤ a ∧ a < σ 1 0) (hc : 0 ≤ c ∧ c < σ 1 0) : e_fault σ 10 p a c = if f_taken σ p a = -1 ∨ f_taken σ p c ≠ -1 then 3 else if f_few σ c (f_freeQ σ p a) = -1 then 4 else 0 := by
  show e_change σ p a c = _
  unfold e_change e_chg e_seek
  rw [if_pos (show ((0 ≤ p ∧ p < σ 1 2) ∧ (0 ≤ a ∧ a < σ 1 0)) ∧ (0 ≤ c ∧ c < σ 1 0) from ⟨⟨hp, ha⟩, hc⟩)]
  by_cases q : f_taken σ p a = -1 ∨ f_taken σ p c ≠ -1
  · rw [if_pos q, if_pos q, if_neg (by decide)]
  · rw [if_neg q, if_neg q, if_pos rfl]
theorem v_change (hsh : k_Main sh) (hJ : p_J σ) {p a c : Int} (hp : 0 ≤ p ∧ p < σ 1 2) (ha : 0 ≤ a ∧ a < σ 1 0) (hc : 0 ≤ c ∧ c < σ 1 0) : k_C E mL_change 16 [.ref 0, .int (iI p), .int (iI a), .int (iI c)] sh σ 1 6 (k_ret (some (.int (iI (p_cv σ p a c)))) sh (u_make σ 10 p a c)) := by
  obtain ⟨j0, j1, j2⟩ := p_J_rg hJ
  obtain ⟨r, hR⟩ := hJ.2.1
  have hC := c7_change2 (E := E) hsh hJ.1.1 (a := p) (b := a) (c := c) (p_row hJ.1.1 hR (by decide)).1 ⟨by omega, by omega⟩ ⟨by omega, by omega⟩ ⟨by omega, by omega⟩
  have he := e_change_in hp ha hc
  have hk := p_kept hJ.1.1 10 p a c
  have hkk := k_OK_keep (B := 1) (k_OK_fault hJ.1.1 10 p a c)
  have h : -1 ≤ f_few (u_quit (u_kept σ 10 p a c) p a) c (f_free (u_quit (u_kept σ 10 p a c) p a) p) ∧ f_few (u_quit (u_kept σ 10 p a c) p a) c (f_free (u_quit (u_kept σ 10 p a c) p a) p) ≤ 3 := f_few_r (u_leave_ty hkk.1) (u_leave_ch hkk.2.2.1) c _
  unfold p_cv
  by_cases q : f_taken σ p a = -1 ∨ f_taken σ p c ≠ -1
  · rw [if_pos q] at he ⊢
    rw [r_make_x (by rw [he]; decide), he, x_of_3] at hC
    have h := cw_change hsh hsh hC (Or.inr (Or.inr (Or.inl rfl)))
    rwa [w_4s] at h
  · rw [if_neg q] at he ⊢
    by_cases w : f_few σ c (f_freeQ σ p a) = -1
    · rw [if_pos w] at he ⊢
      rw [r_make_x (by rw [he]; decide), he, x_of_4] at hC
      have h := cw_change hsh hsh hC (Or.inr (Or.inr (Or.inr rfl)))
      rwa [w_4u] at h
    · rw [if_neg w] at he ⊢
      have hv : f_perf (u_kept σ 10 p a c) 10 p a c = f_few (u_quit (u_kept σ 10 p a c) p a) c (f_free (u_quit (u_kept σ 10 p a c) p a) p) := rfl
      rw [r_make_0 he, hv] at hC
      have h := cw_change hsh hsh hC (Or.inl ⟨_, rfl⟩)
      rwa [w_val_v (by omega)] at h
def p_wv (σ : Nat → Nat → Int) (p : Int) : Int := if f_lessons σ p = 0 then -1002 else f_lessons σ p
def u_wd (σ : Nat → Nat → Int) (p : Int) : Nat → Nat → Int := if e_withdraw σ p = 0 then u_drop (u_kep σ) p else σ
theorem v_withdraw (hsh : k_Main sh) (hJ : p_J σ) {p : Int} (hp : 0 ≤ p ∧ p < σ 1 2) : k_C E mL_withdraw 10 [.ref 0, .int (iI p)] sh σ 1 6 (k_ret (some (.int (iI (p_wv σ p)))) sh (u_wd σ p)) := by
  obtain ⟨j0, j1, j2⟩ := p_J_rg hJ
  have hc := c7_withdraw (E := E) hsh hJ.1.1.1 hJ.1.1.2.2.2.2 (p := p) ⟨by omega, by omega⟩
  have he : e_withdraw σ p = if f_lessons σ p = 0 then 3 else 0 := if_pos hp
  have hl := f_lessonsN_r σ p (σ 1 1).toNat
  have hl : 0 ≤ f_lessons σ p ∧ f_lessons σ p ≤ (σ 1 1).toNat := hl
  unfold p_wv u_wd
  by_cases q : f_lessons σ p = 0
  · rw [if_pos q] at he
    rw [he, if_neg (by decide), if_neg (by decide), x_of_3] at hc
    rw [if_pos q, he, if_neg (by decide)]
    have h := cw_withdraw hsh hsh hc (Or.inr (Or.inr rfl))
    rwa [w_2s] at h
  · rw [if_neg q] at he
    rw [he, if_pos rfl, if_pos rfl, (k_kep_pl hJ.1.1.2.2.2.2).lessons] at hc
    rw [if_neg q, he, if_pos rfl]
    have h := cw_withdraw hsh hsh hc (Or.inl ⟨_, rfl⟩)
    rwa [w_val_v (by omega)] at h
def p_ev (σ : Nat → Nat → Int) (p : Int) : Int := if 0 < f_lessons σ p ∨ σ 5 p.toNat ≤ 0 then -1002 else f_vbs (u_roomy σ p 11)
theorem p_val_pl (h : k_PlEq τ σ) (p : Int) : f_vbs (u_roomy τ p 11) = f_vbs (u_roomy σ p 11) := p_val_cong p ⟨by rw [h.c1], by rw [h.c1]⟩ (h 2 (by decide)) (h 3 (by decide)) (h 5 (by decide)) (h 6 (by decide)) (fun s b => by rw [h.roster])
theorem v_enrol (hsh : k_Main sh) (hJ : p_J σ) {p : Int} (hp : 0 ≤ p ∧ p < σ 1 2) : k_C E mL_enrol 16 [.ref 0, .int (iI p)] sh σ 1 6 (k_ret (some (.int (iI (p_ev σ p)))) sh (u_make σ 7 p 0 0)) := by
  obtain ⟨j0, j1, j2⟩ := p_J_rg hJ
  obtain ⟨r, hR⟩ := hJ.2.1
  have hc := c7_enrol (E := E) hsh hJ.1.1 (a := p) ⟨by omega, by omega⟩
  have he : e_fault σ 7 p 0 0 = if 0 < f_lessons σ p ∨ σ 5 p.toNat ≤ 0 then 3 else 0 := if_pos hp
  have hk := p_kept hJ.1.1 7 p 0 0
  have hv7 := (p_vbs (u_roomy σ p 11)).1
  unfold p_ev
  by_cases q : 0 < f_lessons σ p ∨ σ 5 p.toNat ≤ 0
  · rw [if_pos q] at he ⊢
    rw [r_make_x (by rw [he]; decide), he, x_of_3] at hc
    have h := cw_enrol hsh hsh hc (Or.inr (Or.inr rfl))
    rwa [w_2s] at h
  · rw [if_neg q] at he ⊢
    have hv : f_perf (u_kept σ 7 p 0 0) 7 p 0 0 = f_vbs (u_roomy σ p 11) := by
      show (f_best (u_roomy (u_kept σ 7 p 0 0) p)).2.2 / 2 = _
      rw [p_val (k_P1_pl hk hR) (hk.ty hJ.1.1.1) (by rw [hk.c1]; exact hp), p_val_pl hk]
    rw [r_make_0 he, hv] at hc
    have h := cw_enrol hsh hsh hc (Or.inl ⟨_, rfl⟩)
    rwa [w_val_v (by omega)] at h
theorem v_undo (hsh : k_Main sh) (hJ : p_J σ) (h0 : 0 < σ 24 2) : k_C E mL_undo 9 [.ref 0] sh σ 1 6 (k_ret (some (.int (iI (u_back σ 24 2)))) sh (u_back σ)) := by
  have hc := c7_undo (E := E) hsh hJ.1.1.1 hJ.1.1.2.2.2.2
  rw [if_pos h0, if_pos h0] at hc
  have h8 := hJ.1.1.2.2.2.2.2.2
  have e : u_back σ 24 2 = σ 24 2 - 1 := by
    rw [u_back_24]
    rfl
  have h := cw_undo hsh hsh hc (Or.inl ⟨_, rfl⟩)
  rwa [w_val_v (by omega)] at h
/-! setting up -/
theorem v_addSubject (hsh : k_Main sh) (hJ : p_J σ) {z : Int} (hz : 1 ≤ z ∧ z ≤ 9) (h7 : σ 1 0 < 7) : e_fault σ 0 z 0 0 = 0 ∧ k_C E mL_addSubject 16 [.ref 0, .int (iI z)] sh σ 1 6 (k_ret (some (.int (iI (σ 1 0)))) sh (u_make σ 0 z 0 0)) := by
  obtain ⟨j0, j1, j2⟩ := p_J_rg hJ
  have hc := c7_addSubject (E := E) hsh hJ.1.1 (a := z) ⟨by omega, by omega⟩
  have he : e_fault σ 0 z 0 0 = 0 := (if_pos hz).trans (if_pos h7)
  refine ⟨he, ?_⟩
  have hv : f_perf (u_kept σ 0 z 0 0) 0 z 0 0 = σ 1 0 := by
    show u_kept σ 0 z 0 0 1 0 = _
    rw [(p_kept hJ.1.1 0 z 0 0).c1]
  rw [r_make_0 he, hv] at hc
  have h := cw_addSubject hsh hsh hc (Or.inl ⟨_, rfl⟩)
  rwa [w_val_v (by omega)] at h
theorem v_setBlockCount (hsh : k_Main sh) (hJ : p_J σ) {c : Int} (hz : 1 ≤ c ∧ c ≤ 4) (h0 : σ 1 0 = 0) : e_fault σ 1 c 0 0 = 0 ∧ k_C E mL_setBlockCount 16 [.ref 0, .int (iI c)] sh σ 1 6 (k_ret (some (.int (iI (σ 1 1)))) sh (u_make σ 1 c 0 0)) := by
  obtain ⟨j0, j1, j2⟩ := p_J_rg hJ
  have hc := c7_setBlockCount (E := E) hsh hJ.1.1 (a := c) ⟨by omega, by omega⟩
  have he : e_fault σ 1 c 0 0 = 0 := (if_pos hz).trans (if_pos fun s hs => by omega)
  refine ⟨he, ?_⟩
  have hv : f_perf (u_kept σ 1 c 0 0) 1 c 0 0 = σ 1 1 := by
    show u_kept σ 1 c 0 0 1 1 = _
    rw [(p_kept hJ.1.1 1 c 0 0).c1]
  rw [r_make_0 he, hv] at hc
  have h := cw_setBlockCount hsh hsh hc (Or.inl ⟨_, rfl⟩)
  rwa [w_val_v (by omega)] at h
theorem v_openClass (hsh : k_Main sh) (hJ : p_J σ) {s b : Int} (hs : 0 ≤ s ∧ s < σ 1 0) (hb : 0 ≤ b ∧ b < σ 1 1) (hn : z_bit (f_open σ s) b = false) : e_fault σ 2 s b 0 = 0 ∧ 1 ≤ z_cnt (z_or (f_open σ s) (z_one b)) ∧ k_C E mL_openClass 16 [.ref 0, .int (iI s), .int (iI b)] sh σ 1 6 (k_ret (some (.int (iI (z_cnt (z_or (f_open σ s) (z_one b)))))) sh (u_make σ 2 s b 0)) := by
  obtain ⟨j0, j1, j2⟩ := p_J_rg hJ
  have hc := c7_openClass (E := E) hsh hJ.1.1 (a := s) (b := b) ⟨by omega, by omega⟩ ⟨by omega, by omega⟩
  have he : e_fault σ 2 s b 0 = 0 := (if_pos ⟨hs, hb⟩).trans (if_neg (by rw [hn]; decide))
  refine ⟨he, ?_, ?_⟩
  · refine Classical.byContradiction fun h => ?_
    have h0 := z_cnt_r (z_or (f_open σ s) (z_one b))
    have h1 := z_cntn_no (x := z_or (f_open σ s) (z_one b)) 16 (show z_cnt _ = 0 by omega) b.toNat (by omega)
    rw [show ((b.toNat : Nat) : Int) = b by omega, z_bit_or, z_bit_one hb.1 hb.1, decide_eq_true rfl, Bool.or_true] at h1
    cases h1
  · have hv : f_perf (u_kept σ 2 s b 0) 2 s b 0 = z_cnt (z_or (f_open σ s) (z_one b)) := by
      show z_cnt (z_or (f_open (u_kept σ 2 s b 0) s) (z_one b)) = _
      rw [(p_kept hJ.1.1 2 s b 0).opn]
    rw [r_make_0 he, hv] at hc
    have h := cw_openClass hsh hsh hc (Or.inl ⟨_, rfl⟩)
    have h0 := z_cnt_r (z_or (f_open σ s) (z_one b))
    rwa [w_val_v (by omega)] at h
theorem v_addPupil (hsh : k_Main sh) (hJ : p_J σ) (h7 : σ 1 2 < 12) : e_fault σ 4 0 0 0 = 0 ∧ k_C E mL_addPupil 16 [.ref 0] sh σ 1 6 (k_ret (some (.int (iI (σ 1 2)))) sh (u_make σ 4 0 0 0)) := by
  obtain ⟨j0, j1, j2⟩ := p_J_rg hJ
  have hc := c7_addPupil (E := E) hsh hJ.1.1
  have he : e_fault σ 4 0 0 0 = 0 := if_neg (by omega)
  refine ⟨he, ?_⟩
  have hv : f_perf (u_kept σ 4 0 0 0) 4 0 0 0 = σ 1 2 := by
    show u_kept σ 4 0 0 0 1 2 = _
    rw [(p_kept hJ.1.1 4 0 0 0).c1]
  rw [r_make_0 he, hv] at hc
  have h := cw_addPupil hsh hsh hc (Or.inl ⟨_, rfl⟩)
  rwa [w_val_v (by omega)] at h
theorem v_addWish (hsh : k_Main sh) (hJ : p_J σ) {p s : Int} (hp : 0 ≤ p ∧ p < σ 1 2) (hs : 0 ≤ s ∧ s < σ 1 0) : ∃ v : Int, ((-2147483648 ≤ v ∧ v < 2147483648) ∧ v ≠ -1001) ∧ k_C E mL_addWish 16 [.ref 0, .int (iI p), .int (iI s)] sh σ 1 6 (k_ret (some (.int (iI v))) sh (u_make σ 5 p s 0)) := by
  obtain ⟨j0, j1, j2⟩ := p_J_rg hJ
  have hc := c7_addWish (E := E) hsh hJ.1.1 (a := p) (b := s) ⟨by omega, by omega⟩ ⟨by omega, by omega⟩
  have he : e_fault σ 5 p s 0 = 0 ∨ e_fault σ 5 p s 0 = 3 := by
    show e_wish σ p s = 0 ∨ e_wish σ p s = 3
    have h : e_reserve σ p s = 0 ∨ e_reserve σ p s = 3 := by
      unfold e_reserve
      rw [if_pos (show _ ∧ _ from ⟨hp, hs⟩)]
      split
      · exact Or.inr rfl
      · exact Or.inl rfl
    unfold e_wish
    rcases h with h | h
    · rw [if_pos h]
      split
      · exact Or.inr rfl
      · exact Or.inl rfl
    · rw [if_neg (by rw [h]; decide)]
      exact Or.inr h
  rcases he with he | he
  · have hv : f_perf (u_kept σ 5 p s 0) 5 p s 0 = σ 5 p.toNat + 1 := by
      show u_kept σ 5 p s 0 5 p.toNat + 1 = _
      rw [(p_kept hJ.1.1 5 p s 0) 5 (by decide)]
    rw [r_make_0 he, hv] at hc
    have h5 := hJ.1.1.1.2.2.2.2.2.2.1 p.toNat
    have h := cw_addWish hsh hsh hc (Or.inl ⟨_, rfl⟩)
    rw [w_val_v (by omega)] at h
    exact ⟨_, ⟨by omega, by omega⟩, h⟩
  · rw [r_make_x (by rw [he]; decide), he, x_of_3] at hc
    have h := cw_addWish hsh hsh hc (Or.inr (Or.inr rfl))
    rw [w_2s] at h
    exact ⟨_, ⟨by decide, by decide⟩, h⟩
theorem v_setReserve (hsh : k_Main sh) (hJ : p_J σ) {p s : Int} (hp : 0 ≤ p ∧ p < σ 1 2) (hs : 0 ≤ s ∧ s < σ 1 0) : ∃ v : Int, ((-2147483648 ≤ v ∧ v < 2147483648) ∧ v ≠ -1001) ∧ k_C E mL_setReserve 16 [.ref 0, .int (iI p), .int (iI s)] sh σ 1 6 (k_ret (some (.int (iI v))) sh (u_make σ 6 p s 0)) := by
  obtain ⟨j0, j1, j2⟩ := p_J_rg hJ
  have hc := c7_setReserve (E := E) hsh hJ.1.1 (a := p) (b := s) ⟨by omega, by omega⟩ ⟨by omega, by omega⟩
  have he : e_fault σ 6 p s 0 = 0 ∨ e_fault σ 6 p s 0 = 3 := by
    show e_reserve σ p s = 0 ∨ e_reserve σ p s = 3
    unfold e_reserve
    rw [if_pos (show _ ∧ _ from ⟨hp, hs⟩)]
    split
    · exact Or.inr rfl
    · exact Or.inl rfl
  rcases he with he | he
  · have hv : f_perf (u_kept σ 6 p s 0) 6 p s 0 = σ 7 p.toNat := by
      show u_kept σ 6 p s 0 7 p.toNat = _
      rw [(p_kept hJ.1.1 6 p s 0) 7 (by decide)]
    rw [r_make_0 he, hv] at hc
    have h5 := hJ.1.1.1.2.2.2.2.2.2.2.2.1 p.toNat
    have h := cw_setReserve hsh hsh hc (Or.inl ⟨_, rfl⟩)
    rw [w_val_v (by omega)] at h
    exact ⟨_, ⟨by omega, by omega⟩, h⟩
  · rw [r_make_x (by rw [he]; decide), he, x_of_3] at hc
    have h := cw_setReserve hsh hsh hc (Or.inr (Or.inr rfl))
    rw [w_2s] at h
    exact ⟨_, ⟨by decide, by decide⟩, h⟩
end P_G
