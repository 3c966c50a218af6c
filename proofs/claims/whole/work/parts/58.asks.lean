/-! ===== what is asked: the class answers as the model ===== -/
section K_R2
variable {σ ρ : Nat → Nat → Int}
/-- the answers agree: the same value and nothing thrown, or the exception at this place -/
def k_ag (tbl : List String) (r : Option Value ⊕ String) (v t : Int) : Prop := (∃ x : Int32, r = .inl (some (.int x)) ∧ x.toInt = v ∧ t = 0) ∨ ∃ X, X ∈ tbl ∧ r = .inr X ∧ t = w_code tbl (.inr X)
theorem k_ag_v {tbl : List String} {z v : Int} (hv : -2147483648 ≤ v ∧ v < 2147483648) (e : z = v) : k_ag tbl (.inl (some (.int (iI z)))) v 0 := Or.inl ⟨iI z, rfl, e ▸ iI_toInt (e ▸ hv), rfl⟩
theorem k_ag_x {tbl : List String} {X : String} {v t : Int} (h : X ∈ tbl) (e : t = w_code tbl (.inr X)) : k_ag tbl (.inr X) v t := Or.inr ⟨X, h, rfl, e⟩
/-- for what answers yes or no -/
def k_agB (tbl : List String) (r : Option Value ⊕ String) (b : Bool) (t : Int) : Prop := (∃ x : Int32, r = .inl (some (.int x)) ∧ (x.toInt = 0 ↔ b = false) ∧ t = 0) ∨ ∃ X, X ∈ tbl ∧ r = .inr X ∧ t = w_code tbl (.inr X)
theorem k_agB_v {tbl : List String} {p : Prop} [Decidable p] {b : Bool} (e : p ↔ b = true) : k_agB tbl (.inl (some (.int (iI (zb p))))) b 0 := by
  refine Or.inl ⟨_, rfl, ?_, rfl⟩
  rw [iI_toInt (zb_kr _), zb_0, e]
  cases b <;> simp
theorem k_agB_x {tbl : List String} {X : String} {b : Bool} {t : Int} (h : X ∈ tbl) (e : t = w_code tbl (.inr X)) : k_agB tbl (.inr X) b t := Or.inr ⟨X, h, rfl, e⟩
theorem w_code2 {a b : String} {l : List String} (h : b ≠ a) : w_code (a :: b :: l) (.inr b) = 2 := by
  unfold w_code
  rw [if_neg h]
  unfold w_code
  rw [if_pos rfl]
  rfl
theorem w_code3 {a b c : String} {l : List String} (h : c ≠ a) (h2 : c ≠ b) : w_code (a :: b :: c :: l) (.inr c) = 3 := by
  unfold w_code
  rw [if_neg h]
  unfold w_code
  rw [if_neg h2]
  unfold w_code
  rw [if_pos rfl]
  rfl
theorem x_m1 {a : String} {l : List String} : a ∈ a :: l := List.mem_cons_self
theorem x_m2 {a b : String} {l : List String} : b ∈ a :: b :: l := List.mem_cons_of_mem _ List.mem_cons_self
theorem x_m3 {a b c : String} {l : List String} : c ∈ a :: b :: c :: l := List.mem_cons_of_mem _ (List.mem_cons_of_mem _ List.mem_cons_self)
theorem q_a_subjectCount (hR : k_P1 (ρ 124) σ) (hI : k_Ty σ) : σ 1 0 = (m_subjectCount ρ).1 := hR.2.1.1.1.symm
theorem q_a_blockCount (hR : k_P1 (ρ 124) σ) (hI : k_Ty σ) : σ 1 1 = (m_blockCount ρ).1 := hR.2.1.1.2.1.symm
theorem q_a_pupilCount (hR : k_P1 (ρ 124) σ) (hI : k_Ty σ) : σ 1 2 = (m_pupilCount ρ).1 := hR.2.1.1.2.2.symm
theorem q_a_sizeOf (hR : k_P1 (ρ 124) σ) (hI : k_Ty σ) {s : Int} : k_ag [x_io] (if 0 ≤ s ∧ s < σ 1 0 then .inl (some (.int (iI (σ 2 s.toNat)))) else .inr x_io) (m_sizeOf ρ s).1 ((m_sizeOf ρ s).2 123 7) := by
  obtain ⟨e0, e1, e2⟩ := hR.2.1.1
  have hS := hI.1
  have hB := hI.2.1
  have hP := hI.2.2.1
  unfold m_sizeOf
  rw [e0]
  by_cases a : 0 ≤ s ∧ s < σ 1 0
  · rw [if_pos a, if_pos a]
    have h := hR.2.1.2.1 s a.1 a.2
    have h2 := hI.2.2.2.1 s.toNat
    exact k_ag_v (by show _ ≤ ρ 124 (10 + s).toNat ∧ ρ 124 (10 + s).toNat < _; omega) h.symm
  · rw [if_neg a, if_neg a]
    exact k_ag_x x_m1 rfl
theorem q_a_isOpen (hR : k_P1 (ρ 124) σ) (hI : k_Ty σ) {s b : Int} : k_agB [x_io] (if (0 ≤ s ∧ s < σ 1 0) ∧ (0 ≤ b ∧ b < σ 1 1) then .inl (some (.int (iI (zb (z_bit (f_open σ s) b = true))))) else .inr x_io) (m_isOpen ρ s b).1 ((m_isOpen ρ s b).2 123 7) := by
  obtain ⟨e0, e1, e2⟩ := hR.2.1.1
  have hS := hI.1
  have hB := hI.2.1
  have hP := hI.2.2.1
  unfold m_isOpen
  rw [e0, e1]
  by_cases a : 0 ≤ s ∧ s < σ 1 0
  · rw [if_pos a]
    by_cases hb2 : 0 ≤ b ∧ b < σ 1 1
    · rw [if_pos ⟨a, hb2⟩, if_pos hb2]
      have h := q_hasOpen hR a (b := b) ⟨by omega, by omega⟩
      by_cases c : ρ 124 (17 + 4 * s + b).toNat = 1
      · rw [if_pos c]
        exact k_agB_v ⟨fun _ => rfl, fun _ => h.mp c⟩
      · rw [if_neg c]
        exact k_agB_v ⟨fun z => absurd (h.mpr z) c, fun z => (by cases z)⟩
    · rw [if_neg (fun z => hb2 z.2), if_neg hb2]
      exact k_agB_x x_m1 rfl
  · rw [if_neg (fun z => a z.1), if_neg a]
    exact k_agB_x x_m1 rfl
theorem q_a_pupilsInClass (hR : k_P1 (ρ 124) σ) (hI : k_Ty σ) {s b : Int} : k_ag [x_io] (if (0 ≤ s ∧ s < σ 1 0) ∧ (0 ≤ b ∧ b < σ 1 1) then .inl (some (.int (iI (z_cnt (f_roster σ s b))))) else .inr x_io) (m_pupilsInClass ρ s b).1 ((m_pupilsInClass ρ s b).2 123 7) := by
  obtain ⟨e0, e1, e2⟩ := hR.2.1.1
  have hS := hI.1
  have hB := hI.2.1
  have hP := hI.2.2.1
  unfold m_pupilsInClass
  rw [e0, e1]
  by_cases a : 0 ≤ s ∧ s < σ 1 0
  · rw [if_pos a]
    by_cases hb2 : 0 ≤ b ∧ b < σ 1 1
    · rw [if_pos ⟨a, hb2⟩, if_pos hb2]
      have h := q_inClass hR hI (s := s) (b := b) ⟨by omega, by omega⟩ ⟨by omega, by omega⟩
      have h2 := z_cnt_r (f_roster σ s b)
      exact k_ag_v (by show _ ≤ m_inClass (ρ 124) s b ∧ m_inClass (ρ 124) s b < _; omega) h
    · rw [if_neg (fun z => hb2 z.2), if_neg hb2]
      exact k_ag_x x_m1 rfl
  · rw [if_neg (fun z => a z.1), if_neg a]
    exact k_ag_x x_m1 rfl
theorem q_a_subjectIn (hR : k_P1 (ρ 124) σ) (hI : k_Ty σ) {p b : Int} : k_ag [x_io] (if (0 ≤ p ∧ p < σ 1 2) ∧ (0 ≤ b ∧ b < σ 1 1) then .inl (some (.int (iI (f_lesson σ p b)))) else .inr x_io) (m_subjectIn ρ p b).1 ((m_subjectIn ρ p b).2 123 7) := by
  obtain ⟨e0, e1, e2⟩ := hR.2.1.1
  have hS := hI.1
  have hB := hI.2.1
  have hP := hI.2.2.1
  unfold m_subjectIn
  rw [e2, e1]
  by_cases a : 0 ≤ p ∧ p < σ 1 2
  · rw [if_pos a]
    by_cases hb2 : 0 ≤ b ∧ b < σ 1 1
    · rw [if_pos ⟨a, hb2⟩, if_pos hb2]
      have h := q_lesson hR hI (b := b) a ⟨by omega, by omega⟩
      have h2 := q_tab hR hI (b := b) a ⟨by omega, by omega⟩
      exact k_ag_v (by show _ ≤ ρ 124 (105 + 4 * p + b).toNat ∧ ρ 124 (105 + 4 * p + b).toNat < _; omega) h
    · rw [if_neg (fun z => hb2 z.2), if_neg hb2]
      exact k_ag_x x_m1 rfl
  · rw [if_neg (fun z => a z.1), if_neg a]
    exact k_ag_x x_m1 rfl
theorem q_a_blockOf (hR : k_P1 (ρ 124) σ) (hI : k_Ty σ) {p s : Int} : k_ag [x_io] (if (0 ≤ p ∧ p < σ 1 2) ∧ (0 ≤ s ∧ s < σ 1 0) then .inl (some (.int (iI (f_taken σ p s)))) else .inr x_io) (m_blockOf ρ p s).1 ((m_blockOf ρ p s).2 123 7) := by
  obtain ⟨e0, e1, e2⟩ := hR.2.1.1
  have hS := hI.1
  have hB := hI.2.1
  have hP := hI.2.2.1
  unfold m_blockOf
  rw [e2, e0]
  by_cases a : 0 ≤ p ∧ p < σ 1 2
  · rw [if_pos a]
    by_cases hb2 : 0 ≤ s ∧ s < σ 1 0
    · rw [if_pos ⟨a, hb2⟩, if_pos hb2]
      have h := q_taken hR hI (s := s) a ⟨by omega, by omega⟩
      have h2 := z_first_r (fun b : Nat => z_bit (f_roster σ s (b : Int)) p) (σ 1 1).toNat
      change -1 ≤ f_taken σ p s ∧ f_taken σ p s < _ at h2
      exact k_ag_v (by show _ ≤ m_blockOfSubject (ρ 124) p s ∧ m_blockOfSubject (ρ 124) p s < _; omega) h
    · rw [if_neg (fun z => hb2 z.2), if_neg hb2]
      exact k_ag_x x_m1 rfl
  · rw [if_neg (fun z => a z.1), if_neg a]
    exact k_ag_x x_m1 rfl
theorem q_a_wishCount (hR : k_P1 (ρ 124) σ) (hI : k_Ty σ) {p : Int} : k_ag [x_io] (if 0 ≤ p ∧ p < σ 1 2 then .inl (some (.int (iI (σ 5 p.toNat)))) else .inr x_io) (m_wishCount ρ p).1 ((m_wishCount ρ p).2 123 7) := by
  obtain ⟨e0, e1, e2⟩ := hR.2.1.1
  have hS := hI.1
  have hB := hI.2.1
  have hP := hI.2.2.1
  unfold m_wishCount
  rw [e2]
  by_cases a : 0 ≤ p ∧ p < σ 1 2
  · rw [if_pos a, if_pos a]
    have h := (hR.2.2.1.1 p a.1 a.2).1
    have h2 := hI.2.2.2.2.2.2.1 p.toNat
    exact k_ag_v (by show _ ≤ ρ 124 (45 + p).toNat ∧ ρ 124 (45 + p).toNat < _; omega) h.symm
  · rw [if_neg a, if_neg a]
    exact k_ag_x x_m1 rfl
theorem q_a_reserveOf (hR : k_P1 (ρ 124) σ) (hI : k_Ty σ) {p : Int} : k_ag [x_io] (if 0 ≤ p ∧ p < σ 1 2 then .inl (some (.int (iI (σ 7 p.toNat)))) else .inr x_io) (m_reserveOf ρ p).1 ((m_reserveOf ρ p).2 123 7) := by
  obtain ⟨e0, e1, e2⟩ := hR.2.1.1
  have hS := hI.1
  have hB := hI.2.1
  have hP := hI.2.2.1
  unfold m_reserveOf
  rw [e2]
  by_cases a : 0 ≤ p ∧ p < σ 1 2
  · rw [if_pos a, if_pos a]
    have h := (hR.2.2.1.1 p a.1 a.2).2.1
    have h2 := hI.2.2.2.2.2.2.2.2.1 p.toNat
    exact k_ag_v (by show _ ≤ ρ 124 (93 + p).toNat ∧ ρ 124 (93 + p).toNat < _; omega) h.symm
  · rw [if_neg a, if_neg a]
    exact k_ag_x x_m1 rfl
theorem q_a_wishAt (hR : k_P1 (ρ 124) σ) (hI : k_Ty σ) {p rk : Int} : k_ag [x_io, x_ns] (if 0 ≤ p ∧ p < σ 1 2 then (if 0 ≤ rk ∧ rk < σ 5 p.toNat then .inl (some (.int (iI (f_wish σ p rk)))) else .inr x_ns) else .inr x_io) (m_wishAt ρ p rk).1 ((m_wishAt ρ p rk).2 123 7) := by
  obtain ⟨e0, e1, e2⟩ := hR.2.1.1
  have hS := hI.1
  have hB := hI.2.1
  have hP := hI.2.2.1
  unfold m_wishAt
  rw [e2]
  by_cases a : 0 ≤ p ∧ p < σ 1 2
  · rw [if_pos a, if_pos a]
    have h := (hR.2.2.1.1 p a.1 a.2).1
    by_cases b : 0 ≤ rk ∧ rk < σ 5 p.toNat
    · rw [if_pos b, if_pos (show 0 ≤ rk ∧ rk ≤ ρ 124 (45 + p).toNat - 1 by omega)]
      have h2 := q_wish hR hI (k := rk) a b
      exact k_ag_v (by show _ ≤ ρ 124 (57 + 3 * p + rk).toNat ∧ ρ 124 (57 + 3 * p + rk).toNat < _; omega) h2.1
    · rw [if_neg b, if_neg (show ¬ (0 ≤ rk ∧ rk ≤ ρ 124 (45 + p).toNat - 1) by omega)]
      exact k_ag_x x_m2 (w_code2 (by decide)).symm
  · rw [if_neg a, if_neg a]
    exact k_ag_x x_m1 rfl
theorem q_a_chainPupil (hR : k_P1 (ρ 124) σ) (hI : k_Ty σ) {m : Int} : k_ag [x_ns] (if 0 ≤ m ∧ m < σ 1 9 then .inl (some (.int (iI (σ 8 m.toNat)))) else .inr x_ns) (m_chainPupil ρ m).1 ((m_chainPupil ρ m).2 123 7) := by
  obtain ⟨e0, e1, e2⟩ := hR.2.1.1
  have hS := hI.1
  have hB := hI.2.1
  have hP := hI.2.2.1
  unfold m_chainPupil
  have e3 := hR.2.2.2.2.1
  have h9 := hI.2.2.2.2.2.2.2.2.2.1
  by_cases a : 0 ≤ m ∧ m < σ 1 9
  · rw [if_pos a, if_pos (show 0 ≤ m ∧ m ≤ ρ 124 3 - 1 by omega)]
    have h := (hR.2.2.2.2.2 m a.1 a.2).1
    have h2 := k_Mo_all hR.1 (4 + m).toNat
    exact k_ag_v (by show _ ≤ ρ 124 (4 + m).toNat ∧ ρ 124 (4 + m).toNat < _; omega) h.symm
  · rw [if_neg a, if_neg (show ¬ (0 ≤ m ∧ m ≤ ρ 124 3 - 1) by omega)]
    exact k_ag_x x_m1 rfl
theorem q_a_chainBlock (hR : k_P1 (ρ 124) σ) (hI : k_Ty σ) {m : Int} : k_ag [x_ns] (if 0 ≤ m ∧ m < σ 1 9 then .inl (some (.int (iI (σ 9 m.toNat)))) else .inr x_ns) (m_chainBlock ρ m).1 ((m_chainBlock ρ m).2 123 7) := by
  obtain ⟨e0, e1, e2⟩ := hR.2.1.1
  have hS := hI.1
  have hB := hI.2.1
  have hP := hI.2.2.1
  unfold m_chainBlock
  have e3 := hR.2.2.2.2.1
  have h9 := hI.2.2.2.2.2.2.2.2.2.1
  by_cases a : 0 ≤ m ∧ m < σ 1 9
  · rw [if_pos a, if_pos (show 0 ≤ m ∧ m ≤ ρ 124 3 - 1 by omega)]
    have h := (hR.2.2.2.2.2 m a.1 a.2).2
    have h2 := k_Mo_all hR.1 (7 + m).toNat
    exact k_ag_v (by show _ ≤ ρ 124 (7 + m).toNat ∧ ρ 124 (7 + m).toNat < _; omega) h.symm
  · rw [if_neg a, if_neg (show ¬ (0 ≤ m ∧ m ≤ ρ 124 3 - 1) by omega)]
    exact k_ag_x x_m1 rfl
theorem q_a_chainMoves (hR : k_P1 (ρ 124) σ) (hI : k_Ty σ) : k_ag [x_ns] (if σ 1 9 = -1 then .inr x_ns else .inl (some (.int (iI (σ 1 9))))) (m_chainMoves ρ).1 ((m_chainMoves ρ).2 123 7) := by
  obtain ⟨e0, e1, e2⟩ := hR.2.1.1
  have hS := hI.1
  have hB := hI.2.1
  have hP := hI.2.2.1
  unfold m_chainMoves
  have e3 := hR.2.2.2.2.1
  have h9 := k_Mo_all hR.1 3
  rw [← e3]
  by_cases a : ρ 124 3 = -1
  · rw [if_pos a, if_pos a]
    exact k_ag_x x_m1 rfl
  · rw [if_neg a, if_neg a]
    exact k_ag_v (by show _ ≤ ρ 124 3 ∧ ρ 124 3 < _; omega) rfl
theorem q_a_commonWishes (hR : k_P1 (ρ 124) σ) (hI : k_Ty σ) {s o : Int} : k_ag [x_io, x_ia] (r_then (r_pair σ s o) (.int (iI (f_both σ s o)))) (m_commonWishes ρ s o).1 ((m_commonWishes ρ s o).2 123 7) := by
  obtain ⟨e0, e1, e2⟩ := hR.2.1.1
  have hS := hI.1
  have hB := hI.2.1
  have hP := hI.2.2.1
  unfold m_commonWishes
  have w0 : m_wrongPair (ρ 124) s o = (if (0 ≤ s ∧ s < σ 1 0) ∧ (0 ≤ o ∧ o < σ 1 0) then (if s = o then 2 else 0) else 1) := by
    unfold m_wrongPair
    rw [e0]
    by_cases a : 0 ≤ s ∧ s < σ 1 0
    · by_cases b : 0 ≤ o ∧ o < σ 1 0
      · rw [if_pos a, if_pos b, if_pos (show (0 ≤ s ∧ s < σ 1 0) ∧ (0 ≤ o ∧ o < σ 1 0) from ⟨a, b⟩)]
      · rw [if_pos a, if_neg b, if_neg (show ¬ ((0 ≤ s ∧ s < σ 1 0) ∧ (0 ≤ o ∧ o < σ 1 0)) from fun z => b z.2)]
    · rw [if_neg a, if_neg (show ¬ ((0 ≤ s ∧ s < σ 1 0) ∧ (0 ≤ o ∧ o < σ 1 0)) from fun z => a z.1)]
  rw [w0]
  unfold r_pair r_then
  by_cases a : (0 ≤ s ∧ s < σ 1 0) ∧ (0 ≤ o ∧ o < σ 1 0)
  · rw [if_pos a, if_pos a]
    by_cases c : s = o
    · rw [if_pos c, if_pos c, if_neg (by decide)]
      exact k_ag_x x_m2 (w_code2 (by decide)).symm
    · rw [if_neg c, if_neg c, if_pos rfl]
      have h := q_both hR hI (s := s) (o := o) a.1.1 a.2.1
      have h2 : 0 ≤ f_both σ s o ∧ f_both σ s o ≤ 12 := by
        have := f_bothN_r σ s o (σ 1 2).toNat
        change 0 ≤ f_both σ s o ∧ f_both σ s o ≤ _ at this
        omega
      exact k_ag_v (by show _ ≤ m_common (ρ 124) s o ∧ m_common (ρ 124) s o < _; omega) h
  · rw [if_neg a, if_neg a, if_neg (by decide)]
    exact k_ag_x x_m1 rfl
theorem q_a_doClash (hR : k_P1 (ρ 124) σ) (hI : k_Ty σ) {s o : Int} : k_agB [x_io, x_ia] (r_then (r_pair σ s o) (.int (iI (zb (f_clash σ s o))))) (m_doClash ρ s o).1 ((m_doClash ρ s o).2 123 7) := by
  obtain ⟨e0, e1, e2⟩ := hR.2.1.1
  have hS := hI.1
  have hB := hI.2.1
  have hP := hI.2.2.1
  unfold m_doClash
  have w0 : m_wrongPair (ρ 124) s o = (if (0 ≤ s ∧ s < σ 1 0) ∧ (0 ≤ o ∧ o < σ 1 0) then (if s = o then 2 else 0) else 1) := by
    unfold m_wrongPair
    rw [e0]
    by_cases a : 0 ≤ s ∧ s < σ 1 0
    · by_cases b : 0 ≤ o ∧ o < σ 1 0
      · rw [if_pos a, if_pos b, if_pos (show (0 ≤ s ∧ s < σ 1 0) ∧ (0 ≤ o ∧ o < σ 1 0) from ⟨a, b⟩)]
      · rw [if_pos a, if_neg b, if_neg (show ¬ ((0 ≤ s ∧ s < σ 1 0) ∧ (0 ≤ o ∧ o < σ 1 0)) from fun z => b z.2)]
    · rw [if_neg a, if_neg (show ¬ ((0 ≤ s ∧ s < σ 1 0) ∧ (0 ≤ o ∧ o < σ 1 0)) from fun z => a z.1)]
  rw [w0]
  unfold r_pair r_then
  by_cases a : (0 ≤ s ∧ s < σ 1 0) ∧ (0 ≤ o ∧ o < σ 1 0)
  · rw [if_pos a, if_pos a]
    by_cases c : s = o
    · rw [if_pos c, if_pos c, if_neg (by decide)]
      exact k_agB_x x_m2 (w_code2 (by decide)).symm
    · rw [if_neg c, if_neg c, if_pos rfl]
      have h := q_clash hR hI (s := s) (o := o) a.1 a.2
      by_cases d : m_clash (ρ 124) s o = true
      · rw [if_pos d]
        exact k_agB_v ⟨fun _ => rfl, fun _ => h.mpr d⟩
      · rw [if_neg d]
        exact k_agB_v ⟨fun z => absurd (h.mp z) d, fun z => (by cases z)⟩
  · rw [if_neg a, if_neg a, if_neg (by decide)]
    exact k_agB_x x_m1 rfl
theorem q_a_refusalReason (hM : k_F0 (ρ 123)) (e : ρ 123 9 = σ 23 4) : k_ag [x_ns] (if σ 23 4 = 0 then .inr x_ns else .inl (some (.int (iI (σ 23 4))))) (m_refusalReason ρ).1 ((m_refusalReason ρ).2 123 7) := by
  obtain ⟨h0, h1, h2, h3, h4, h5, h6, h7, h8, h9, h10, h11, h12, h13⟩ := hM
  unfold m_refusalReason
  rw [← e]
  by_cases a : ρ 123 9 = 0
  · rw [if_pos a, if_pos a]
    exact k_ag_x x_m1 rfl
  · rw [if_neg a, if_neg a]
    exact k_ag_v (by show _ ≤ ρ 123 9 ∧ ρ 123 9 < _; omega) rfl
theorem q_a_errorPosition (hM : k_F0 (ρ 123)) (e : ρ 123 10 = σ 0 11) : k_ag [x_ns] (if σ 0 11 = -1 then .inr x_ns else .inl (some (.int (iI (σ 0 11))))) (m_errorPosition ρ).1 ((m_errorPosition ρ).2 123 7) := by
  obtain ⟨h0, h1, h2, h3, h4, h5, h6, h7, h8, h9, h10, h11, h12, h13⟩ := hM
  unfold m_errorPosition
  rw [← e]
  by_cases a : ρ 123 10 = -1
  · rw [if_pos a, if_pos a]
    exact k_ag_x x_m1 rfl
  · rw [if_neg a, if_neg a]
    exact k_ag_v (by show _ ≤ ρ 123 10 ∧ ρ 123 10 < _; omega) rfl
theorem q_a_failedCommand (hM : k_F0 (ρ 123)) (e : ρ 123 11 = σ 0 12) : k_ag [x_ns] (if σ 0 12 = -1 then .inr x_ns else .inl (some (.int (iI (σ 0 12))))) (m_failedCommand ρ).1 ((m_failedCommand ρ).2 123 7) := by
  obtain ⟨h0, h1, h2, h3, h4, h5, h6, h7, h8, h9, h10, h11, h12, h13⟩ := hM
  unfold m_failedCommand
  rw [← e]
  by_cases a : ρ 123 11 = -1
  · rw [if_pos a, if_pos a]
    exact k_ag_x x_m1 rfl
  · rw [if_neg a, if_neg a]
    exact k_ag_v (by show _ ≤ ρ 123 11 ∧ ρ 123 11 < _; omega) rfl
theorem q_a_failureKind (hM : k_F0 (ρ 123)) (e : ρ 123 12 = σ 0 13) (e2 : ρ 123 11 = -1 ↔ σ 0 13 = 0) : k_ag [x_ns] (if σ 0 13 = 0 then .inr x_ns else .inl (some (.int (iI (σ 0 13))))) (m_failureKind ρ).1 ((m_failureKind ρ).2 123 7) := by
  obtain ⟨h0, h1, h2, h3, h4, h5, h6, h7, h8, h9, h10, h11, h12, h13⟩ := hM
  unfold m_failureKind
  by_cases a : σ 0 13 = 0
  · rw [if_pos a, if_pos (e2.mpr a)]
    exact k_ag_x x_m1 rfl
  · rw [if_neg a, if_neg (fun z => a (e2.mp z))]
    exact k_ag_v (by show _ ≤ ρ 123 12 ∧ ρ 123 12 < _; omega) e.symm
theorem q_a_servedCount (hR : k_P1 (ρ 124) σ) (hI : k_Ty σ) : f_servedN σ (σ 1 2).toNat = (m_servedCount ρ).1 := by
  have e2 := hR.2.1.1.2.2
  have e : (m_servedCount ρ).1 = k_it (b_servedCount_4 ρ) (ρ 124 2).toNat 0 0 := rfl
  have e3 : f_servedN σ (σ 1 2).toNat = z_sum (σ 1 2).toNat (fun p => zb (f_attends σ (p : Int))) := rfl
  rw [e, e3, e2, k_it_sum (g := fun p : Nat => if m_isServed (ρ 124) (p : Int) = true then 1 else 0) (fun i x => by unfold b_servedCount_4; split <;> rfl)]
  refine z_sum_cong _ fun p hp => ?_
  have h := q_attends hR hI (p := (p : Int)) ⟨by omega, by omega⟩
  by_cases a : m_isServed (ρ 124) (p : Int) = true
  · rw [if_pos a, zb_t (h.mpr a)]
  · rw [if_neg a, zb_f (fun z => a (h.mp z))]
end K_R2
