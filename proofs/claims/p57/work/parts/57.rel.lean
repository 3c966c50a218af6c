/-! ===== THE RELATION of the model's row and a plan's cells; what is asked is answered alike ===== -/
section K_R1
/-- sums, and the first of some numbers, by other counts -/
theorem z_first_more {P : Nat → Bool} {n m : Nat} (h : n ≤ m) (hf : ∀ j, n ≤ j → j < m → P j = false) : z_first m P = z_first n P := by
  rcases z_first_spec (P := P) n with ⟨h1, h2⟩ | ⟨i, h1, h2, h3, h4⟩
  · rw [h1]
    exact z_first_none m fun j hj => if q : j < n then h2 j q else hf j (by omega) hj
  · rw [h2]
    exact z_first_some h3 h4 m (by omega)
def z_sum (n : Nat) (g : Nat → Int) : Int := k_fold n (fun i a => a + g i) 0
theorem z_sum_s (n : Nat) (g : Nat → Int) : z_sum (n + 1) g = z_sum n g + g n := rfl
theorem z_sum_cong {g h : Nat → Int} : ∀ n : Nat, (∀ i, i < n → g i = h i) → z_sum n g = z_sum n h
  | 0, _ => rfl
  | n + 1, e => by rw [z_sum_s, z_sum_s, z_sum_cong n fun i hi => e i (by omega), e n (by omega)]
theorem z_sum_more {g : Nat → Int} {n : Nat} : ∀ m : Nat, n ≤ m → (∀ j, n ≤ j → j < m → g j = 0) → z_sum m g = z_sum n g
  | 0, h, _ => by have : n = 0 := by omega
                  subst this; rfl
  | m + 1, h, hz => by
    by_cases e : n = m + 1
    · rw [e]
    · rw [z_sum_s, z_sum_more m (by omega) fun j h1 h2 => hz j h1 (by omega), hz m (by omega) (by omega), Int.add_zero]
theorem k_it_sum {f : Nat → Int → Int} {g : Nat → Int} (h : ∀ i x, f i x = x + g i) (n : Nat) : k_it f n 0 0 = z_sum n g := by
  rw [k_it_fold]
  exact k_fold_cong n fun i _ x => h i x
theorem z_sum_le {g h : Nat → Int} : ∀ n : Nat, (∀ i, i < n → g i ≤ h i) → z_sum n g ≤ z_sum n h
  | 0, _ => Int.le_refl _
  | n + 1, e => by
    rw [z_sum_s, z_sum_s]
    have := z_sum_le n fun i hi => e i (by omega)
    have := e n (by omega)
    omega
theorem k_for_first {P : Nat → Prop} [DecidablePred P] (r : Unit → Int) (hr : r () = -1) (N : Nat) : k_els r (k_for (fun i (_ : Unit) => if P i then (.inl (i : Int) : Int ⊕ Unit) else .inr ()) N 0 ()) = z_first N (fun i => decide (P i)) := by
  have h : ∀ n i, i + n = N → (∀ j, j < i → ¬ P j) → k_els r (k_for (fun i (_ : Unit) => if P i then (.inl (i : Int) : Int ⊕ Unit) else .inr ()) n i ()) = z_first N (fun i => decide (P i)) := by
    intro n
    induction n with
    | zero =>
      intro i e hn
      show r () = _
      rw [hr, z_first_none]
      intro j hj
      exact decide_eq_false (hn j (by omega))
    | succ n ih =>
      intro i e hn
      show k_els r (k_cn2 _ (if P i then _ else _)) = _
      by_cases q : P i
      · rw [if_pos q]
        exact (z_first_some (P := fun i => decide (P i)) (decide_eq_true q) (fun j hj => decide_eq_false (hn j hj)) N (by omega)).symm
      · rw [if_neg q]
        exact ih (i + 1) (by omega) fun j hj => if z : j = i then z ▸ q else hn j (by omega)
  exact h N 0 (by omega) fun j hj => absurd hj (Nat.not_lt_zero j)
/-- the relation: numbers, sizes, open classes -/
def k_PRo (r o si op : Nat → Int) : Prop := (r 0 = o 0 ∧ r 1 = o 1 ∧ r 2 = o 2) ∧ (∀ s : Int, 0 ≤ s → s < o 0 → r (10 + s).toNat = si s.toNat) ∧ (∀ s b : Int, 0 ≤ s → s < o 0 → 0 ≤ b → b < 4 → (r (17 + 4 * s + b).toNat = 1 ↔ z_bit (op s.toNat) b = true)) ∧ (∀ s b : Int, 0 ≤ s → s < o 0 → 0 ≤ b → z_bit (op s.toNat) b = true → b < o 1) ∧ ∀ j : Nat, o 0 ≤ j → op j = 0
/-- wishes and reserves -/
def k_PRw (r o wc wi re : Nat → Int) : Prop := (∀ p : Int, 0 ≤ p → p < o 2 → r (45 + p).toNat = wc p.toNat ∧ r (93 + p).toNat = re p.toNat ∧ re p.toNat < o 0) ∧ (∀ p k : Int, 0 ≤ p → p < o 2 → 0 ≤ k → k < wc p.toNat → r (57 + 3 * p + k).toNat = wi (p * 3 + k).toNat ∧ wi (p * 3 + k).toNat < o 0 ∧ wi (p * 3 + k).toNat ≠ re p.toNat) ∧ (∀ p k l : Int, 0 ≤ p → p < o 2 → 0 ≤ k → k < l → l < wc p.toNat → wi (p * 3 + k).toNat ≠ wi (p * 3 + l).toNat) ∧ ∀ j : Nat, o 2 ≤ j → wc j = 0
/-- timetables -/
def k_PRt (r o op ro : Nat → Int) : Prop := (∀ p s b : Int, 0 ≤ p → p < o 2 → 0 ≤ s → s < 7 → 0 ≤ b → b < 4 → (z_bit (ro (s * 4 + b).toNat) p = true ↔ r (105 + 4 * p + b).toNat = s)) ∧ (∀ p s b : Int, o 2 ≤ p → 0 ≤ s → s < 7 → 0 ≤ b → b < 4 → z_bit (ro (s * 4 + b).toNat) p = false) ∧ (∀ p s b : Int, 0 ≤ p → 0 ≤ s → s < 7 → 0 ≤ b → b < 4 → z_bit (ro (s * 4 + b).toNat) p = true → s < o 0 ∧ z_bit (op s.toNat) b = true) ∧ ∀ p b c : Int, 0 ≤ p → p < o 2 → 0 ≤ b → b < 4 → 0 ≤ c → c < 4 → r (105 + 4 * p + b).toNat = r (105 + 4 * p + c).toNat → r (105 + 4 * p + b).toNat ≠ -1 → b = c
/-- the last chain -/
def k_PRc (r o cp cb : Nat → Int) : Prop := r 3 = o 9 ∧ ∀ k : Int, 0 ≤ k → k < o 9 → r (4 + k).toNat = cp k.toNat ∧ r (7 + k).toNat = cb k.toNat
def k_PR (r o si op ro wc wi re cp cb : Nat → Int) : Prop := k_Mo r ∧ k_PRo r o si op ∧ k_PRw r o wc wi re ∧ k_PRt r o op ro ∧ k_PRc r o cp cb
/-- the model's row r and the plan -/
def k_P1 (r : Nat → Int) (σ : Nat → Nat → Int) : Prop := k_PR r (σ 1) (σ 2) (σ 3) (σ 4) (σ 5) (σ 6) (σ 7) (σ 8) (σ 9)
variable {r : Nat → Int} {σ : Nat → Nat → Int}
theorem f_roster_in {s b : Int} (h : (0 ≤ s ∧ s < 7) ∧ (0 ≤ b ∧ b < 4)) : f_roster σ s b = σ 4 (s * 4 + b).toNat := if_pos h
theorem f_open_in {s : Int} (h : 0 ≤ s ∧ s < σ 1 0) : f_open σ s = σ 3 s.toNat := if_pos h
/-- a roster's pupil attends the subject there -/
theorem q_bit (hR : k_P1 r σ) {p s b : Int} (hp : 0 ≤ p ∧ p < σ 1 2) (hs : 0 ≤ s ∧ s < 7) (hb : 0 ≤ b ∧ b < 4) : z_bit (f_roster σ s b) p = true ↔ r (105 + 4 * p + b).toNat = s := by
  rw [f_roster_in ⟨hs, hb⟩]
  exact hR.2.2.2.1.1 p s b hp.1 hp.2 hs.1 hs.2 hb.1 hb.2
theorem q_bitS (hR : k_P1 r σ) {p s b : Int} (hp : 0 ≤ p) (h : z_bit (f_roster σ s b) p = true) : ((0 ≤ s ∧ s < σ 1 0) ∧ (0 ≤ b ∧ b < σ 1 1)) ∧ p < σ 1 2 ∧ z_bit (f_open σ s) b = true := by
  by_cases q : (0 ≤ s ∧ s < 7) ∧ (0 ≤ b ∧ b < 4)
  · rw [f_roster_in q] at h
    obtain ⟨h1, h2⟩ := hR.2.2.2.1.2.2.1 p s b hp q.1.1 q.1.2 q.2.1 q.2.2 h
    have h3 := hR.2.1.2.2.2.1 s b q.1.1 h1 q.2.1 h2
    have h4 : p < σ 1 2 := by
      rcases Int.lt_or_le p (σ 1 2) with z | z
      · exact z
      · rw [hR.2.2.2.1.2.1 p s b z q.1.1 q.1.2 q.2.1 q.2.2] at h
        cases h
    rw [f_open_in ⟨q.1.1, h1⟩]
    exact ⟨⟨⟨q.1.1, h1⟩, q.2.1, h3⟩, h4, h2⟩
  · unfold f_roster at h
    rw [if_neg q, z_bit_0] at h
    cases h
theorem q_tab (hR : k_P1 r σ) (hI : k_Ty σ) {p b : Int} (hp : 0 ≤ p ∧ p < σ 1 2) (hb : 0 ≤ b ∧ b < 4) : -1 ≤ r (105 + 4 * p + b).toNat ∧ r (105 + 4 * p + b).toNat ≤ 6 := by
  have h2 := hI.2.2.1.2
  exact k_Mo_tab hR.1 (by omega) (by omega)
/-- a timetable's entry is a subject, its class there is open -/
theorem q_tabS (hR : k_P1 r σ) (hI : k_Ty σ) {p b : Int} (hp : 0 ≤ p ∧ p < σ 1 2) (hb : 0 ≤ b ∧ b < 4) (h : r (105 + 4 * p + b).toNat ≠ -1) : (0 ≤ r (105 + 4 * p + b).toNat ∧ r (105 + 4 * p + b).toNat < σ 1 0) ∧ b < σ 1 1 := by
  have h1 := q_tab hR hI hp hb
  have h2 := (q_bit hR hp (s := r (105 + 4 * p + b).toNat) ⟨by omega, by omega⟩ hb).mpr rfl
  have h3 := q_bitS hR hp.1 h2
  exact ⟨h3.1.1, h3.1.2.2⟩
theorem q_lesson (hR : k_P1 r σ) (hI : k_Ty σ) {p b : Int} (hp : 0 ≤ p ∧ p < σ 1 2) (hb : 0 ≤ b ∧ b < 4) : f_lesson σ p b = r (105 + 4 * p + b).toNat := by
  have hS := hI.1
  unfold f_lesson
  by_cases e : r (105 + 4 * p + b).toNat = -1
  · rw [e]
    refine z_first_none _ fun j hj => ?_
    cases q : z_bit (f_roster σ (j : Int) b) p with
    | false => rfl
    | true =>
      have := (q_bit hR hp (s := (j : Int)) ⟨by omega, by omega⟩ hb).mp q
      omega
  · have h1 := (q_tabS hR hI hp hb e).1
    have h2 := z_first_some (P := fun s : Nat => z_bit (f_roster σ (s : Int) b) p) (i := (r (105 + 4 * p + b).toNat).toNat) ((q_bit hR hp ⟨by omega, by omega⟩ hb).mpr (by omega)) (fun j hj => by
      cases q : z_bit (f_roster σ (j : Int) b) p with
      | false => rfl
      | true =>
        have := (q_bit hR hp (s := (j : Int)) ⟨by omega, by omega⟩ hb).mp q
        omega) (σ 1 0).toNat (by omega)
    rw [h2]
    omega
theorem q_taken (hR : k_P1 r σ) (hI : k_Ty σ) {p s : Int} (hp : 0 ≤ p ∧ p < σ 1 2) (hs : 0 ≤ s ∧ s < 7) : f_taken σ p s = m_blockOfSubject r p s := by
  have hB := hI.2.1
  have e : m_blockOfSubject r p s = z_first 4 (fun b => decide (r (105 + 4 * p + (b : Int)).toNat = s)) := k_for_first (P := fun b : Nat => r (105 + 4 * p + (b : Int)).toNat = s) _ rfl 4
  rw [e]
  unfold f_taken
  rw [← z_first_more (P := fun b : Nat => z_bit (f_roster σ s (b : Int)) p) (show (σ 1 1).toNat ≤ 4 by omega) (fun j h1 h2 => ?_)]
  · refine z_first_cong 4 fun j hj => ?_
    cases q : z_bit (f_roster σ s (j : Int)) p with
    | true => exact (decide_eq_true ((q_bit hR hp hs ⟨by omega, by omega⟩).mp q)).symm
    | false => exact (decide_eq_false fun z => by rw [(q_bit hR hp hs (b := (j : Int)) ⟨by omega, by omega⟩).mpr z] at q; cases q).symm
  · cases q : z_bit (f_roster σ s (j : Int)) p with
    | false => rfl
    | true =>
      have := (q_bitS hR hp.1 q).1.2.2
      omega
theorem z_busyN (σ : Nat → Nat → Int) (b p : Int) : ∀ n : Nat, z_bit (f_busyN σ b n) p = true ↔ ∃ s, s < n ∧ z_bit (f_roster σ (s : Int) b) p = true
  | 0 => by
    show z_bit 0 p = true ↔ _
    rw [z_bit_0]
    exact ⟨fun h => (by cases h), fun ⟨s, h, _⟩ => absurd h (Nat.not_lt_zero s)⟩
  | n + 1 => by
    have e : f_busyN σ b (n + 1) = z_or (f_busyN σ b n) (f_roster σ (n : Int) b) := rfl
    rw [e, z_bit_or, Bool.or_eq_true, z_busyN σ b p n]
    constructor
    · rintro (⟨s, h1, h2⟩ | h)
      · exact ⟨s, by omega, h2⟩
      · exact ⟨n, by omega, h⟩
    · rintro ⟨s, h1, h2⟩
      by_cases q : s = n
      · subst q
        exact Or.inr h2
      · exact Or.inl ⟨s, by omega, h2⟩
theorem q_busy (hR : k_P1 r σ) (hI : k_Ty σ) {p b : Int} (hp : 0 ≤ p ∧ p < σ 1 2) (hb : 0 ≤ b ∧ b < 4) : z_bit (f_busy σ b) p = true ↔ r (105 + 4 * p + b).toNat ≠ -1 := by
  have hS := hI.1
  unfold f_busy
  rw [z_busyN]
  constructor
  · rintro ⟨s, h1, h2⟩
    have := (q_bit hR hp (s := (s : Int)) ⟨by omega, by omega⟩ hb).mp h2
    omega
  · intro h
    have h1 := (q_tabS hR hI hp hb h).1
    exact ⟨(r (105 + 4 * p + b).toNat).toNat, by omega, (q_bit hR hp ⟨by omega, by omega⟩ hb).mpr (by omega)⟩
/-- who isn't there isn't busy -/
theorem q_busyX (hR : k_P1 r σ) {p b : Int} (hp : 0 ≤ p) (h : z_bit (f_busy σ b) p = true) : p < σ 1 2 ∧ (0 ≤ b ∧ b < σ 1 1) := by
  obtain ⟨s, _, h2⟩ := (z_busyN σ b p _).mp h
  have h3 := q_bitS hR hp h2
  exact ⟨h3.2.1, h3.1.2⟩
theorem q_lessons (hR : k_P1 r σ) (hI : k_Ty σ) {p : Int} (hp : 0 ≤ p ∧ p < σ 1 2) : f_lessons σ p = m_classesOf r p := by
  have hB := hI.2.1
  have e : m_classesOf r p = z_sum 4 (fun b => if r (105 + 4 * p + (b : Int)).toNat = -1 then 0 else 1) := k_it_sum (fun i x => by
    unfold b_classesOf_4
    split <;> rfl) 4
  have e2 : f_lessons σ p = z_sum (σ 1 1).toNat (fun b => zb (z_bit (f_busy σ (b : Int)) p = true)) := rfl
  rw [e, e2, ← z_sum_more (g := fun b : Nat => zb (z_bit (f_busy σ (b : Int)) p = true)) 4 (by omega) (fun j h1 h2 => ?_)]
  · refine z_sum_cong 4 fun b hb => ?_
    by_cases q : r (105 + 4 * p + (b : Int)).toNat = -1
    · rw [if_pos q, zb_f fun z => (q_busy hR hI hp (b := (b : Int)) ⟨by omega, by omega⟩).mp z q]
    · rw [if_neg q, zb_t ((q_busy hR hI hp (b := (b : Int)) ⟨by omega, by omega⟩).mpr q)]
  · refine zb_f fun z => ?_
    have := (q_busyX hR hp.1 z).2.2
    omega
theorem z_cnt_sum (x : Int) : z_cnt x = z_sum 16 (fun i => zb (z_bit x (i : Int) = true)) := rfl
theorem q_inClass (hR : k_P1 r σ) (hI : k_Ty σ) {s b : Int} (hs : 0 ≤ s ∧ s < 7) (hb : 0 ≤ b ∧ b < 4) : z_cnt (f_roster σ s b) = m_inClass r s b := by
  have hP := hI.2.2.1
  have e0 : r 2 = σ 1 2 := hR.2.1.1.2.2
  have e : m_inClass r s b = z_sum (r 2).toNat (fun p => if r (105 + 4 * (p : Int) + b).toNat = s then 1 else 0) := k_it_sum (fun i x => by
    unfold b_inClass_5
    split <;> rfl) _
  rw [e, z_cnt_sum, e0, z_sum_more (n := (σ 1 2).toNat) 16 (by omega) (fun j h1 h2 => ?_)]
  · refine z_sum_cong _ fun p hp => ?_
    by_cases q : r (105 + 4 * (p : Int) + b).toNat = s
    · rw [if_pos q, zb_t ((q_bit hR ⟨by omega, by omega⟩ hs hb).mpr q)]
    · rw [if_neg q, zb_f fun z => q ((q_bit hR ⟨by omega, by omega⟩ hs hb).mp z)]
  · refine zb_f fun z => ?_
    have := (q_bitS hR (by omega) z).2.1
    omega
theorem q_hasOpen (hR : k_P1 r σ) {s b : Int} (hs : 0 ≤ s ∧ s < σ 1 0) (hb : 0 ≤ b ∧ b < 4) : r (17 + 4 * s + b).toNat = 1 ↔ z_bit (f_open σ s) b = true := by
  rw [f_open_in hs]
  exact hR.2.1.2.2.1 s b hs.1 hs.2 hb.1 hb.2
theorem q_openB (hR : k_P1 r σ) {s b : Int} (hb : 0 ≤ b) (h : z_bit (f_open σ s) b = true) : (0 ≤ s ∧ s < σ 1 0) ∧ b < σ 1 1 := by
  by_cases q : 0 ≤ s ∧ s < σ 1 0
  · rw [f_open_in q] at h
    exact ⟨q, hR.2.1.2.2.2.1 s b q.1 q.2 hb h⟩
  · unfold f_open at h
    rw [if_neg q, z_bit_0] at h
    cases h
theorem q_openOf (hR : k_P1 r σ) (hI : k_Ty σ) {s : Int} (hs : 0 ≤ s ∧ s < σ 1 0) : z_cnt (f_open σ s) = m_openOf r s := by
  have hB := hI.2.1
  have hS := hI.1
  have e : m_openOf r s = z_sum 4 (fun b => r (17 + 4 * s + (b : Int)).toNat) := k_it_sum (f := b_openOf_4 r s) (g := fun b => r (17 + 4 * s + (b : Int)).toNat) (fun i x => rfl) 4
  rw [e, z_cnt_sum, z_sum_more (n := 4) 16 (by decide) (fun j h1 h2 => ?_)]
  · refine z_sum_cong 4 fun b hb => ?_
    have h1 := k_Mo_opn hR.1 (x := 17 + 4 * s + (b : Int)) (by omega) (by omega)
    by_cases q : r (17 + 4 * s + (b : Int)).toNat = 1
    · rw [q, zb_t ((q_hasOpen hR hs (b := (b : Int)) ⟨by omega, by omega⟩).mp q)]
    · rw [zb_f fun z => q ((q_hasOpen hR hs (b := (b : Int)) ⟨by omega, by omega⟩).mpr z)]
      omega
  · refine zb_f fun z => ?_
    have := (q_openB hR (by omega) z).2
    omega
theorem q_largest (hR : k_P1 r σ) (hI : k_Ty σ) {s : Int} (hs : 0 ≤ s ∧ s < σ 1 0) (z : Int) (hz : 0 ≤ z) : f_largest σ s ≤ z ↔ ∀ b : Nat, b < 4 → m_inClass r s (b : Int) ≤ z := by
  have hB := hI.2.1
  have hS := hI.1
  have h : ∀ n : Nat, f_largestN σ s n ≤ z ↔ ∀ b : Nat, b < n → z_cnt (f_roster σ s (b : Int)) ≤ z := by
    intro n
    induction n with
    | zero => exact ⟨fun _ b hb => absurd hb (Nat.not_lt_zero b), fun _ => hz⟩
    | succ n ih =>
      have e : f_largestN σ s (n + 1) = z_max (f_largestN σ s n) (z_cnt (f_roster σ s (n : Int))) := rfl
      rw [e]
      constructor
      · intro q b hb
        have q1 : f_largestN σ s n ≤ z ∧ z_cnt (f_roster σ s (n : Int)) ≤ z := by
          unfold z_max at q
          split at q <;> omega
        by_cases w : b = n
        · subst w
          exact q1.2
        · exact ih.mp q1.1 b (by omega)
      · intro q
        have q1 := ih.mpr fun b hb => q b (by omega)
        have q2 := q n (by omega)
        unfold z_max
        split <;> assumption
  unfold f_largest
  rw [h]
  constructor
  · intro q b hb
    by_cases w : b < (σ 1 1).toNat
    · rw [← q_inClass hR hI ⟨by omega, by omega⟩ ⟨by omega, by omega⟩]
      exact q b w
    · have e : f_roster σ s (b : Int) = 0 := by
        refine z_ext (f_roster_r hI _ _).1 (Int.le_refl 0) fun i hi => ?_
        rw [z_bit_0]
        cases w2 : z_bit (f_roster σ s (b : Int)) i with
        | false => rfl
        | true =>
          have := (q_bitS hR hi w2).1.2.2
          omega
      rw [← q_inClass hR hI ⟨by omega, by omega⟩ ⟨by omega, by omega⟩, e]
      exact Int.le_trans (by decide) hz
  · intro q b hb
    rw [q_inClass hR hI ⟨by omega, by omega⟩ ⟨by omega, by omega⟩]
    exact q b (by omega)
/-- the blocks with room, one pupil not counted -/
theorem z_roomyN (σ : Nat → Nat → Int) (s x c : Int) (hc : 0 ≤ c) : ∀ n : Nat, z_bit (f_roomyN σ s x n) c = true ↔ c < n ∧ z_bit (f_open σ s) c = true ∧ z_cnt (z_diff (f_roster σ s c) x) < f_read (σ 2) 7 s
  | 0 => by
    show z_bit 0 c = true ↔ _
    rw [z_bit_0]
    exact ⟨fun h => (by cases h), fun h => absurd h.1 (by omega)⟩
  | n + 1 => by
    have e : f_roomyN σ s x (n + 1) = if z_bit (f_open σ s) (n : Int) = true ∧ z_cnt (z_diff (f_roster σ s (n : Int)) x) < f_read (σ 2) 7 s then z_or (f_roomyN σ s x n) (z_one (n : Int)) else f_roomyN σ s x n := rfl
    have ih := z_roomyN σ s x c hc n
    rw [e]
    by_cases q : z_bit (f_open σ s) (n : Int) = true ∧ z_cnt (z_diff (f_roster σ s (n : Int)) x) < f_read (σ 2) 7 s
    · rw [if_pos q, z_bit_or, Bool.or_eq_true, ih, z_bit_one (Int.natCast_nonneg n) hc]
      by_cases w : (n : Int) = c
      · subst w
        simp [q]
        omega
      · simp [w]
        intro _ _
        omega
    · rw [if_neg q, ih]
      constructor
      · rintro ⟨h1, h2⟩
        exact ⟨by omega, h2⟩
      · rintro ⟨h1, h2⟩
        refine ⟨?_, h2⟩
        have : c ≠ (n : Int) := fun w => q (w ▸ h2)
        omega
theorem z_cnt_diff1 (x p : Int) (hp : 0 ≤ p ∧ p < 16) : z_cnt (z_diff x (z_one p)) = z_cnt x - zb (z_bit x p = true) := by
  have h : ∀ n : Nat, z_sum n (fun i => zb (z_bit (z_diff x (z_one p)) (i : Int) = true)) = z_sum n (fun i => zb (z_bit x (i : Int) = true)) - (if p < (n : Int) then zb (z_bit x p = true) else 0) := by
    intro n
    induction n with
    | zero => rw [if_neg (by omega)]; rfl
    | succ n ih =>
      rw [z_sum_s, z_sum_s, ih]
      have e : z_bit (z_diff x (z_one p)) (n : Int) = (z_bit x (n : Int) && !decide (p = (n : Int))) := by rw [z_bit_diff, z_bit_one hp.1 (Int.natCast_nonneg n)]
      by_cases w : p = (n : Int)
      · rw [e, if_neg (by omega), if_pos (by omega), decide_eq_true w, ← w]
        rw [zb_f (show ¬ (z_bit x p && !true) = true by simp)]
        omega
      · rw [e, decide_eq_false w]
        have e2 : zb ((z_bit x (n : Int) && !false) = true) = zb (z_bit x (n : Int) = true) := k_zbc (by simp)
        rw [e2]
        by_cases v : p < (n : Int)
        · rw [if_pos v, if_pos (by omega)]
          omega
        · rw [if_neg v, if_neg (by omega)]
          omega
  have h16 := h 16
  rw [if_pos (by omega)] at h16
  exact h16
theorem q_roomy (hR : k_P1 r σ) (hI : k_Ty σ) {p s b : Int} (hp : 0 ≤ p ∧ p < σ 1 2) (hs : 0 ≤ s ∧ s < σ 1 0) (hb : 0 ≤ b ∧ b < 4) : z_bit (f_roomy σ s (z_one p)) b = true ↔ m_hasRoom r s b p = true := by
  have hS := hI.1
  have hB := hI.2.1
  have hP := hI.2.2.1
  unfold f_roomy
  rw [z_roomyN σ s _ b hb.1, z_cnt_diff1 _ _ ⟨by omega, by omega⟩, q_inClass hR hI ⟨by omega, by omega⟩ hb]
  have e : f_read (σ 2) 7 s = r (10 + s).toNat := by
    unfold f_read
    rw [if_pos ⟨by omega, by omega⟩, hR.2.1.2.1 s hs.1 hs.2]
  rw [e]
  have hbit := q_bit hR hp (s := s) ⟨by omega, by omega⟩ hb
  have hop := q_hasOpen hR hs hb
  unfold m_hasRoom
  rw [if_neg (show ¬ p = -1 by omega)]
  by_cases q : z_bit (f_open σ s) b = true
  · have q2 := (q_openB hR hb.1 q).2
    by_cases w : r (105 + 4 * p + b).toNat = s
    · rw [if_pos w, if_pos (hop.mpr q), zb_t (hbit.mpr w)]
      by_cases v : m_inClass r s b - 1 < r (10 + s).toNat
      · rw [if_pos v]
        exact ⟨fun _ => rfl, fun _ => ⟨by omega, q, v⟩⟩
      · rw [if_neg v]
        exact ⟨fun h => absurd h.2.2 v, fun h => (by cases h)⟩
    · rw [if_neg w, if_pos (hop.mpr q), zb_f fun z => w (hbit.mp z)]
      by_cases v : m_inClass r s b - 0 < r (10 + s).toNat
      · rw [if_pos v]
        exact ⟨fun _ => rfl, fun _ => ⟨by omega, q, v⟩⟩
      · rw [if_neg v]
        exact ⟨fun h => absurd h.2.2 v, fun h => (by cases h)⟩
  · have q1 : ¬ r (17 + 4 * s + b).toNat = 1 := fun z => q (hop.mp z)
    by_cases w : r (105 + 4 * p + b).toNat = s
    · rw [if_pos w, if_neg q1]
      exact ⟨fun h => absurd h.2.1 q, fun h => (by cases h)⟩
    · rw [if_neg w, if_neg q1]
      exact ⟨fun h => absurd h.2.1 q, fun h => (by cases h)⟩
/-- the blocks with room, all counted -/
theorem q_roomy0 (hR : k_P1 r σ) (hI : k_Ty σ) {s b : Int} (hs : 0 ≤ s ∧ s < σ 1 0) (hb : 0 ≤ b ∧ b < 4) : z_bit (f_roomy σ s 0) b = true ↔ r (17 + 4 * s + b).toNat = 1 ∧ m_inClass r s b < r (10 + s).toNat := by
  have hS := hI.1
  have hB := hI.2.1
  unfold f_roomy
  have e0 : z_diff (f_roster σ s b) 0 = f_roster σ s b := z_ext (z_diff_nn _ _) (f_roster_r hI _ _).1 fun i _ => by
    rw [z_bit_diff, z_bit_0]
    simp
  rw [z_roomyN σ s _ b hb.1, e0, q_inClass hR hI ⟨by omega, by omega⟩ hb, q_hasOpen hR hs hb]
  have e : f_read (σ 2) 7 s = r (10 + s).toNat := by
    unfold f_read
    rw [if_pos ⟨by omega, by omega⟩, hR.2.1.2.1 s hs.1 hs.2]
  rw [e]
  exact ⟨fun h => h.2, fun h => ⟨by have := (q_openB hR hb.1 h.1).2; omega, h⟩⟩
/-- wishes -/
theorem z_wishN (σ : Nat → Nat → Int) (hI : k_Ty σ) (p s : Int) (hs : 0 ≤ s) : ∀ n : Nat, z_bit (f_wishSetN σ p n) s = true ↔ ∃ k, k < n ∧ σ 6 (p * 3 + ((k : Nat) : Int)).toNat = s
  | 0 => by
    show z_bit 0 s = true ↔ _
    rw [z_bit_0]
    exact ⟨fun h => (by cases h), fun ⟨k, h, _⟩ => absurd h (Nat.not_lt_zero k)⟩
  | n + 1 => by
    have e : f_wishSetN σ p (n + 1) = z_or (f_wishSetN σ p n) (z_one (σ 6 (p * 3 + (n : Int)).toNat)) := rfl
    have h6 := hI.2.2.2.2.2.2.2.1 (p * 3 + (n : Int)).toNat
    rw [e, z_bit_or, Bool.or_eq_true, z_wishN σ hI p s hs n, z_bit_one h6.1 hs]
    constructor
    · rintro (⟨k, h1, h2⟩ | h)
      · exact ⟨k, by omega, h2⟩
      · exact ⟨n, by omega, of_decide_eq_true h⟩
    · rintro ⟨k, h1, h2⟩
      by_cases q : k = n
      · subst q
        exact Or.inr (decide_eq_true h2)
      · exact Or.inl ⟨k, by omega, h2⟩
theorem z_isWish (r : Nat → Int) (p s : Int) : m_isWish r p s = true ↔ ∃ k : Nat, k < (r (45 + p).toNat).toNat ∧ r (57 + 3 * p + (k : Int)).toNat = s := by
  have h : ∀ n : Nat, (k_it (b_isWish_5 r p s) n 0 0 = 1 ∨ k_it (b_isWish_5 r p s) n 0 0 = 0) ∧ (k_it (b_isWish_5 r p s) n 0 0 = 1 ↔ ∃ k : Nat, k < n ∧ r (57 + 3 * p + (k : Int)).toNat = s) := by
    intro n
    induction n with
    | zero => exact ⟨Or.inr rfl, fun h => absurd (show (0 : Int) = 1 from h) (by decide), fun ⟨k, h, _⟩ => absurd h (Nat.not_lt_zero k)⟩
    | succ n ih =>
      rw [k_it_succ, Nat.zero_add]
      generalize k_it (b_isWish_5 r p s) n 0 0 = y at ih ⊢
      unfold b_isWish_5
      obtain ⟨h1, h2⟩ := ih
      by_cases q : y = 0
      · rw [if_pos q]
        by_cases w : r (57 + 3 * p + (n : Int)).toNat = s
        · rw [if_pos w]
          exact ⟨Or.inl rfl, fun _ => ⟨n, by omega, w⟩, fun _ => rfl⟩
        · rw [if_neg w]
          refine ⟨Or.inr rfl, fun h => absurd h (by decide), fun ⟨k, a, b⟩ => ?_⟩
          have hk : k ≠ n := fun z => w (z ▸ b)
          have := h2.mpr ⟨k, by omega, b⟩
          omega
      · rw [if_neg q]
        have hy : y = 1 := h1.resolve_right q
        obtain ⟨k, a, b⟩ := h2.mp hy
        exact ⟨Or.inl rfl, fun _ => ⟨k, by omega, b⟩, fun _ => rfl⟩
  have h2 := h (r (45 + p).toNat).toNat
  have e : m_isWish r p s = decide (k_it (b_isWish_5 r p s) (r (45 + p).toNat).toNat 0 0 = 1) := rfl
  rw [e, decide_eq_true_iff]
  exact h2.2
theorem q_isWish (hR : k_P1 r σ) (hI : k_Ty σ) {p s : Int} (hp : 0 ≤ p ∧ p < σ 1 2) (hs : 0 ≤ s) : z_bit (f_wishSet σ p) s = true ↔ m_isWish r p s = true := by
  unfold f_wishSet
  rw [z_wishN σ hI p s hs, z_isWish, (hR.2.2.1.1 p hp.1 hp.2).1]
  constructor
  · rintro ⟨k, h1, h2⟩
    exact ⟨k, h1, by rw [(hR.2.2.1.2.1 p (k : Int) hp.1 hp.2 (Int.natCast_nonneg k) (by omega)).1]; exact h2⟩
  · rintro ⟨k, h1, h2⟩
    exact ⟨k, h1, by rw [← (hR.2.2.1.2.1 p (k : Int) hp.1 hp.2 (Int.natCast_nonneg k) (by omega)).1]; exact h2⟩
theorem q_both (hR : k_P1 r σ) (hI : k_Ty σ) {s o : Int} (hs : 0 ≤ s) (ho : 0 ≤ o) : f_both σ s o = m_common r s o := by
  have e0 : r 2 = σ 1 2 := hR.2.1.1.2.2
  have e : m_common r s o = z_sum (r 2).toNat (fun p => if m_isWish r (p : Int) s = true ∧ m_isWish r (p : Int) o = true then 1 else 0) := k_it_sum (f := b_common_5 r s o) (fun i x => by
    unfold b_common_5
    by_cases a : m_isWish r (i : Int) s = true
    · by_cases b : m_isWish r (i : Int) o = true
      · rw [if_pos a, if_pos b, if_pos ⟨a, b⟩]
      · rw [if_pos a, if_neg b, if_neg fun z => b z.2]
    · rw [if_neg a, if_neg fun z => a z.1]) _
  have e2 : f_both σ s o = z_sum (σ 1 2).toNat (fun p => zb (z_bit (f_wishSet σ (p : Int)) s = true ∧ z_bit (f_wishSet σ (p : Int)) o = true)) := rfl
  rw [e, e2, e0]
  refine z_sum_cong _ fun p hp => ?_
  have h1 := q_isWish hR hI (p := (p : Int)) ⟨by omega, by omega⟩ hs
  have h2 := q_isWish hR hI (p := (p : Int)) ⟨by omega, by omega⟩ ho
  unfold zb
  simp only [h1, h2]
/-- clashes -/
theorem z_clash (r : Nat → Int) (a b : Int) : m_clash r a b = true ↔ ∀ x y : Nat, x < 4 → y < 4 → x ≠ y → ¬ (r (17 + 4 * a + (x : Int)).toNat = 1 ∧ r (17 + 4 * b + (y : Int)).toNat = 1) := by
  have h10 : ∀ (i2 : Nat) (n i : Nat), (∀ y, i ≤ y → y < i + n → i2 ≠ y → ¬ (r (17 + 4 * a + (i2 : Int)).toNat = 1 ∧ r (17 + 4 * b + (y : Int)).toNat = 1)) → k_for (b_clash_10 r a b i2 ()) n i () = .inr () := by
    intro i2 n
    induction n with
    | zero => intro i _; rfl
    | succ n ih =>
      intro i h
      show k_cn2 _ (b_clash_10 r a b i2 () i ()) = _
      have e : b_clash_10 r a b i2 () i () = .inr () := by
        unfold b_clash_10
        by_cases q : (i2 : Int) = (i : Int)
        · rw [if_pos q]
        · rw [if_neg q]
          by_cases w : r (17 + 4 * a + (i2 : Int)).toNat = 1
          · rw [if_pos w, if_neg fun z => h i (Nat.le_refl _) (by omega) (by omega) ⟨w, z⟩]
          · rw [if_neg w]
      rw [e]
      exact ih (i + 1) fun y h1 h2 => h y (by omega) (by omega)
  have h10n : ∀ (i2 : Nat) (n i : Nat), (∃ y, i ≤ y ∧ y < i + n ∧ i2 ≠ y ∧ (r (17 + 4 * a + (i2 : Int)).toNat = 1 ∧ r (17 + 4 * b + (y : Int)).toNat = 1)) → k_for (b_clash_10 r a b i2 ()) n i () = .inl (.inl false) := by
    intro i2 n
    induction n with
    | zero => rintro i ⟨y, h1, h2, _⟩; omega
    | succ n ih =>
      rintro i ⟨y, h1, h2, h3, h4⟩
      show k_cn2 _ (b_clash_10 r a b i2 () i ()) = _
      unfold b_clash_10
      by_cases q : (i2 : Int) = (i : Int)
      · rw [if_pos q]
        exact ih (i + 1) ⟨y, by omega, by omega, h3, h4⟩
      · rw [if_neg q, if_pos h4.1]
        by_cases w : r (17 + 4 * b + (i : Int)).toNat = 1
        · rw [if_pos w]
          rfl
        · rw [if_neg w]
          refine ih (i + 1) ⟨y, ?_, by omega, h3, h4⟩
          have : i ≠ y := fun z => w (z ▸ h4.2)
          omega
  have h2 : ∀ (n i : Nat), (k_els (r_clash_2 r a b) (k_for (b_clash_2 r a b) n i ()) = true ↔ ∀ x y : Nat, i ≤ x → x < i + n → y < 4 → x ≠ y → ¬ (r (17 + 4 * a + (x : Int)).toNat = 1 ∧ r (17 + 4 * b + (y : Int)).toNat = 1)) := by
    intro n
    induction n with
    | zero => intro i; exact ⟨fun _ x y h1 h2 => by omega, fun _ => rfl⟩
    | succ n ih =>
      intro i
      show k_els _ (k_cn2 _ (b_clash_2 r a b i ())) = true ↔ _
      unfold b_clash_2
      by_cases q : ∃ y, 0 ≤ y ∧ y < 0 + 4 ∧ i ≠ y ∧ (r (17 + 4 * a + (i : Int)).toNat = 1 ∧ r (17 + 4 * b + (y : Int)).toNat = 1)
      · rw [h10n i 4 0 q]
        obtain ⟨y, _, g1, g2, g3⟩ := q
        exact ⟨fun h => (by cases h), fun h => absurd g3 (h i y (Nat.le_refl _) (by omega) (by omega) g2)⟩
      · rw [h10 i 4 0 fun y g1 g2 g3 g4 => q ⟨y, g1, g2, g3, g4⟩]
        show k_els (r_clash_2 r a b) (k_for (b_clash_2 r a b) n (i + 1) ()) = true ↔ _
        rw [ih (i + 1)]
        constructor
        · intro h x y h1 h2 h3 h4
          by_cases w : x = i
          · subst w
            exact fun z => q ⟨y, Nat.zero_le _, by omega, h4, z⟩
          · exact h x y (by omega) (by omega) h3 h4
        · intro h x y h1 h2
          exact h x y (by omega) (by omega)
  have := h2 4 0
  unfold m_clash
  rw [this]
  exact ⟨fun h x y h1 => h x y (Nat.zero_le _) (by omega), fun h x y _ h1 => h x y (by omega)⟩
theorem q_clash (hR : k_P1 r σ) (hI : k_Ty σ) {s o : Int} (hs : 0 ≤ s ∧ s < σ 1 0) (ho : 0 ≤ o ∧ o < σ 1 0) : f_clash σ s o ↔ m_clash r s o = true := by
  have hB := hI.2.1
  rw [z_clash]
  have key : ∀ b : Nat, b < 4 → (z_diff (f_open σ o) (z_one (b : Int)) ≠ 0 ↔ ∃ y : Nat, y < 4 ∧ b ≠ y ∧ r (17 + 4 * o + (y : Int)).toNat = 1) := by
    intro b hb
    constructor
    · intro h
      refine Classical.byContradiction fun q => h ?_
      refine z_ext (z_diff_nn _ _) (Int.le_refl 0) fun i hi => ?_
      rw [z_bit_0, z_bit_diff, z_bit_one (Int.natCast_nonneg b) hi]
      cases w : z_bit (f_open σ o) i with
      | false => rfl
      | true =>
        have h2 := q_openB hR hi w
        by_cases v : (b : Int) = i
        · simp [v]
        · exact absurd ⟨i.toNat, by omega, by omega, by rw [Int.toNat_of_nonneg hi]; exact (q_hasOpen hR ho ⟨hi, by omega⟩).mpr w⟩ q
    · rintro ⟨y, h1, h2, h3⟩ h
      have h4 := (q_hasOpen hR ho (b := (y : Int)) ⟨by omega, by omega⟩).mp h3
      have h5 : z_bit (z_diff (f_open σ o) (z_one (b : Int))) (y : Int) = true := by
        rw [z_bit_diff, h4, z_bit_one (Int.natCast_nonneg b) (Int.natCast_nonneg y)]
        simp
        omega
      rw [h, z_bit_0] at h5
      cases h5
  constructor
  · intro h x y hx hy hxy ⟨h1, h2⟩
    have h3 := (q_hasOpen hR hs (b := (x : Int)) ⟨by omega, by omega⟩).mp h1
    have h4 := (q_openB hR (Int.natCast_nonneg x) h3).2
    exact h x (by omega) ⟨h3, (key x hx).mpr ⟨y, hy, hxy, h2⟩⟩
  · intro h b hb ⟨h1, h2⟩
    obtain ⟨y, h3, h4, h5⟩ := (key b (by omega)).mp h2
    exact h b y (by omega) h3 h4 ⟨(q_hasOpen hR hs (b := (b : Int)) ⟨by omega, by omega⟩).mpr h1, h5⟩
/-- attending all wishes -/
theorem z_served (r : Nat → Int) (p : Int) : m_isServed r p = true ↔ 0 < r (45 + p).toNat ∧ ∀ k : Nat, k < (r (45 + p).toNat).toNat → m_blockOfSubject r p (r (57 + 3 * p + (k : Int)).toNat) ≠ -1 := by
  have h : ∀ (f : Nat → Int → Int), (∀ i x, f i x = if x = 0 then 0 else if m_blockOfSubject r p (r (57 + 3 * p + (i : Int)).toNat) = -1 then 0 else 1) → ∀ n : Nat, ((k_it f n 0 1 = 1 ∨ k_it f n 0 1 = 0) ∧ (k_it f n 0 1 = 1 ↔ ∀ k : Nat, k < n → m_blockOfSubject r p (r (57 + 3 * p + (k : Int)).toNat) ≠ -1)) := by
    intro f hf n
    induction n with
    | zero => exact ⟨Or.inl rfl, fun _ k hk => absurd hk (Nat.not_lt_zero k), fun _ => rfl⟩
    | succ n ih =>
      rw [k_it_succ, Nat.zero_add, hf]
      generalize k_it f n 0 1 = y at ih ⊢
      obtain ⟨h1, h2⟩ := ih
      by_cases q : y = 0
      · rw [if_pos q]
        refine ⟨Or.inr rfl, fun z => absurd z (by decide), fun z => ?_⟩
        have := h2.mpr fun k hk => z k (by omega)
        omega
      · rw [if_neg q]
        have hy : y = 1 := h1.resolve_right q
        by_cases w : m_blockOfSubject r p (r (57 + 3 * p + (n : Int)).toNat) = -1
        · rw [if_pos w]
          exact ⟨Or.inr rfl, fun z => absurd z (by decide), fun z => absurd w (z n (by omega))⟩
        · rw [if_neg w]
          refine ⟨Or.inl rfl, fun _ k hk => ?_, fun _ => rfl⟩
          by_cases v : k = n
          · subst v
            exact w
          · exact h2.mp hy k (by omega)
  by_cases q : r (45 + p).toNat ≤ 0
  · have e : m_isServed r p = (if r (45 + p).toNat ≤ 0 then decide (k_it (b_isServed_20 r p) (r (45 + p).toNat).toNat 0 0 = 1) else decide (k_it (b_isServed_20_2 r p) (r (45 + p).toNat).toNat 0 1 = 1)) := rfl
    rw [e, if_pos q, show (r (45 + p).toNat).toNat = 0 by omega]
    exact ⟨fun z => absurd (of_decide_eq_true z) (show ¬ (0 : Int) = 1 by decide), fun z => absurd z.1 (by omega)⟩
  · have e : m_isServed r p = (if r (45 + p).toNat ≤ 0 then decide (k_it (b_isServed_20 r p) (r (45 + p).toNat).toNat 0 0 = 1) else decide (k_it (b_isServed_20_2 r p) (r (45 + p).toNat).toNat 0 1 = 1)) := rfl
    rw [e, if_neg q, decide_eq_true_iff, (h (b_isServed_20_2 r p) (fun _ _ => rfl) _).2]
    exact ⟨fun z => ⟨by omega, z⟩, fun z => z.2⟩
theorem q_wish (hR : k_P1 r σ) (hI : k_Ty σ) {p k : Int} (hp : 0 ≤ p ∧ p < σ 1 2) (hk : 0 ≤ k ∧ k < σ 5 p.toNat) : f_wish σ p k = r (57 + 3 * p + k).toNat ∧ 0 ≤ f_wish σ p k ∧ f_wish σ p k < σ 1 0 := by
  have h5 := hI.2.2.2.2.2.2.1 p.toNat
  have h := hR.2.2.1.2.1 p k hp.1 hp.2 hk.1 hk.2
  have h6 := hI.2.2.2.2.2.2.2.1 (p * 3 + k).toNat
  unfold f_wish
  rw [if_pos ⟨hk.1, by omega⟩]
  exact ⟨h.1.symm, h6.1, h.2.1⟩
theorem q_attends (hR : k_P1 r σ) (hI : k_Ty σ) {p : Int} (hp : 0 ≤ p ∧ p < σ 1 2) : f_attends σ p ↔ m_isServed r p = true := by
  have hS := hI.1
  rw [z_served, (hR.2.2.1.1 p hp.1 hp.2).1]
  have key : ∀ k : Nat, k < (σ 5 p.toNat).toNat → f_taken σ p (f_wish σ p (k : Int)) = m_blockOfSubject r p (r (57 + 3 * p + (k : Int)).toNat) := by
    intro k hk
    have h := q_wish hR hI hp (k := (k : Int)) ⟨by omega, by omega⟩
    rw [q_taken hR hI hp ⟨h.2.1, by omega⟩, h.1]
  constructor
  · rintro ⟨h1, h2⟩
    exact ⟨h1, fun k hk => key k hk ▸ h2 k hk⟩
  · rintro ⟨h1, h2⟩
    exact ⟨h1, fun k hk => (key k hk).symm ▸ h2 k hk⟩
end K_R1
