/-! ===== CHAINS of join and of change: the class's search and the model's ===== -/
section K_R12
variable {σ ρ τ : Nat → Nat → Int} {r : Nat → Int}
theorem z_freeN (σ : Nat → Nat → Int) (p c : Int) (hc : 0 ≤ c) : ∀ n : Nat, z_bit (f_freeN σ p n) c = true ↔ c < n ∧ ¬ z_bit (f_busy σ c) p = true
  | 0 => by
    show z_bit 0 c = true ↔ _
    rw [z_bit_0]
    exact ⟨fun h => (by cases h), fun h => (by omega)⟩
  | n + 1 => by
    have e : f_freeN σ p (n + 1) = z_or (f_freeN σ p n) (if z_bit (f_busy σ (n : Int)) p = true then 0 else z_one (n : Int)) := rfl
    rw [e, z_bit_or, Bool.or_eq_true, z_freeN σ p c hc n]
    by_cases q : c = (n : Int)
    · subst q
      by_cases w : z_bit (f_busy σ (n : Int)) p = true
      · rw [if_pos w, z_bit_0]
        exact ⟨fun h => h.elim (fun y => absurd w y.2) (fun y => by cases y), fun h => absurd w h.2⟩
      · rw [if_neg w, z_bit_one (by omega) hc]
        exact ⟨fun _ => ⟨by omega, w⟩, fun _ => Or.inr (decide_eq_true rfl)⟩
    · constructor
      · rintro (h | h)
        · exact ⟨by omega, h.2⟩
        · split at h
          · rw [z_bit_0] at h
            cases h
          · rw [z_bit_one (by omega) hc] at h
            exact absurd (of_decide_eq_true h).symm q
      · intro h
        exact Or.inl ⟨by omega, h.2⟩
theorem q_free (hR : k_P1 r σ) (hI : k_Ty σ) {p b : Int} (hp : 0 ≤ p ∧ p < σ 1 2) (hb : 0 ≤ b ∧ b < σ 1 1) : z_bit (f_free σ p) b = true ↔ r (105 + 4 * p + b).toNat = -1 := by
  have hB := hI.2.1
  have e := z_freeN σ p b hb.1 (σ 1 1).toNat
  rw [show z_bit (f_free σ p) b = true ↔ _ from e, q_busy hR hI hp ⟨hb.1, by omega⟩]
  constructor
  · intro h
    by_cases q : r (105 + 4 * p + b).toNat = -1
    · exact q
    · exact absurd q h.2
  · intro h
    exact ⟨by omega, fun y => y h⟩
/-- the pupil to move is the least one of a roster that is free there -/
theorem q_member (hR : k_P1 r σ) (hI : k_Ty σ) {s a t : Int} (hs : 0 ≤ s ∧ s < 7) (ha : 0 ≤ a ∧ a < 4) (ht : 0 ≤ t ∧ t < 4) : g_memb (z_diff (f_roster σ s a) (f_busy σ t)) 0 = m_mover r s a t := by
  have hP := hI.2.2.1
  have hm : r 2 = σ 1 2 := hR.2.1.1.2.2
  rw [g_memb_first, z_mover, hm, z_first_more (P := fun i : Nat => z_bit (z_diff (f_roster σ s a) (f_busy σ t)) (i : Int)) (show (σ 1 2).toNat ≤ 16 by omega) (fun j h1 h2 => ?_)]
  · refine z_first_cong _ fun j hj => ?_
    have h1 := q_bit hR (p := (j : Int)) (s := s) (b := a) ⟨by omega, by omega⟩ hs ha
    have h2 := q_busy hR hI (p := (j : Int)) (b := t) ⟨by omega, by omega⟩ ht
    rw [z_bit_diff, Bool.eq_iff_iff, decide_eq_true_eq, Bool.and_eq_true, h1, Bool.not_eq_true', ← Bool.not_eq_true, h2]
    constructor
    · intro y
      refine ⟨y.1, ?_⟩
      by_cases q : r (105 + 4 * (j : Int) + t).toNat = -1
      · exact q
      · exact absurd q y.2
    · intro y
      exact ⟨y.1, fun z => z y.2⟩
  · show z_bit (z_diff (f_roster σ s a) (f_busy σ t)) (j : Int) = false
    rw [z_bit_diff]
    cases q : z_bit (f_roster σ s a) (j : Int) with
    | false => rfl
    | true =>
      have := (q_bitS hR (p := (j : Int)) (by omega) q).2.1
      omega
theorem g_memb_0 : g_memb 0 0 = -1 := by
  rw [g_memb_first]
  exact z_first_none _ fun j _ => z_bit_0 _
/-- what the class and the model see alike when they look for a chain -/
def k_lk (r : Nat → Int) (σ : Nat → Nat → Int) (p s F : Int) : Prop := (∀ a t : Int, 0 ≤ a ∧ a < 4 → 0 ≤ t ∧ t < 4 → g_memb (z_diff (f_roster σ s a) (f_busy σ t)) 0 = m_mover r s a t) ∧ (∀ b : Int, 0 ≤ b ∧ b < 4 → (z_bit (f_roomy σ s 0) b = true ↔ r (17 + 4 * s + b).toNat = 1 ∧ m_inClass r s b < r (10 + s).toNat)) ∧ (∀ b : Int, 0 ≤ b ∧ b < 4 → r (17 + 4 * s + b).toNat = 1 → (z_bit F b = true ↔ r (105 + 4 * p + b).toNat = -1) ∧ b < r 1) ∧ (∀ a t : Int, 0 ≤ a ∧ a < 4 → 0 ≤ t ∧ t < 4 → m_mover r s a t ≠ -1 → r (17 + 4 * s + a).toNat = 1) ∧ ∀ b : Int, 0 ≤ b ∧ b < 4 → (r (17 + 4 * s + b).toNat = 1 ↔ z_bit (f_open σ s) b = true)
theorem u_few15 (σ : Nat → Nat → Int) (s : Int) (b : Nat) (hb : b < 4) : u_few σ s 15 b = f_roster σ s (b : Int) := by
  have : b = 0 ∨ b = 1 ∨ b = 2 ∨ b = 3 := by omega
  rcases this with rfl | rfl | rfl | rfl <;> rfl
theorem u_few16 (σ : Nat → Nat → Int) (s : Int) (b : Nat) (hb : b < 4) : u_few σ s 16 b = f_busy σ (b : Int) := by
  have : b = 0 ∨ b = 1 ∨ b = 2 ∨ b = 3 := by omega
  rcases this with rfl | rfl | rfl | rfl <;> rfl
theorem q_seek {p s F : Int} (hI : k_Ty σ) (h : k_lk (ρ 124) σ p s F) : (f_few σ s F = -1 ∧ (m_findsChain ρ p s).1 = -1) ∨ ∃ e m : Nat, e < 4 ∧ m < 4 ∧ g_near (u_few σ s 17) F = (e : Int) ∧ f_few σ s F = (m : Int) ∧ u_few σ s 17 e = (m : Int) ∧ ∃ y : Nat → Int, (∀ k, k ≤ m → y k = f_path σ s m e k) ∧ m_findsChain ρ p s = ((m : Int), k_up ρ 133 y) := by
  obtain ⟨l1, l2, l3, l4, l5⟩ := h
  have hc := q_chain (ρ := ρ) (ro := u_few σ s 15) (bu := u_few σ s 16) (d0 := u_lookN σ s 4 17) (p := p) (s := s) (F := F) (fun a t ha ht => ?_) (fun b hb => ?_) (fun b hb ho => ?_) (fun b hb ho => ?_) (fun a t ha ht hm => ?_)
  · have e17 : u_few σ s 17 = g_dist (u_few σ s 15) (u_few σ s 16) (u_lookN σ s 4 17) 3 := rfl
    rcases hc with ⟨c1, c2⟩ | ⟨e, m, c1, c2, c3, c4, y, c5, c6⟩
    · refine Or.inl ⟨?_, c2⟩
      unfold f_few
      rw [e17, c1]
      rfl
    · refine Or.inr ⟨e, m, c1, c2, c3, ?_, c4, y, c5, c6⟩
      unfold f_few
      rw [e17, c3]
      refine (if_pos (show 0 ≤ (e : Int) ∧ (e : Int) < 4 by omega)).trans ?_
      rw [Int.toNat_natCast]
      exact c4
  · rw [u_few15 σ s a ha, u_few16 σ s t ht, ← l1 a t ⟨by omega, by omega⟩ ⟨by omega, by omega⟩]
    have h15 := f_roster_r hI s (a : Int)
    constructor
    · intro q
      have := g_memb_r12 (x := z_diff (f_roster σ s (a : Int)) (f_busy σ (t : Int))) ⟨z_diff_nn _ _, z_diff_lt 12 h15.2⟩ q
      omega
    · intro q z
      rw [z] at q
      exact q g_memb_0
  · rw [u_look17 σ s b hb]
    by_cases q : z_bit (f_roomy σ s 0) (b : Int) = true
    · rw [if_pos q]
      exact Or.inl ⟨rfl, (l2 b ⟨by omega, by omega⟩).mp q⟩
    · rw [if_neg q]
      exact Or.inr ⟨rfl, fun y => q ((l2 b ⟨by omega, by omega⟩).mpr y)⟩
  · exact (l3 b ⟨by omega, by omega⟩ ho).1
  · exact (l3 b ⟨by omega, by omega⟩ ho).2
  · exact l4 a t ⟨by omega, by omega⟩ ⟨by omega, by omega⟩ hm
theorem q_lk (hR : k_P1 r σ) (hI : k_Ty σ) {p s : Int} (hp : 0 ≤ p ∧ p < σ 1 2) (hs : 0 ≤ s ∧ s < σ 1 0) : k_lk r σ p s (f_free σ p) := by
  have hS := hI.1
  have hB := hI.2.1
  have hP := hI.2.2.1
  have hm : r 2 = σ 1 2 := hR.2.1.1.2.2
  refine ⟨fun a t ha ht => q_member hR hI ⟨hs.1, by omega⟩ ha ht, fun b hb => q_roomy0 hR hI hs hb, fun b hb ho => ?_, fun a t ha ht hmv => ?_, fun b hb => q_hasOpen hR hs hb⟩
  · have := (q_openB hR hb.1 ((q_hasOpen hR hs hb).mp ho)).2
    refine ⟨q_free hR hI hp ⟨hb.1, this⟩, ?_⟩
    rw [hR.2.1.1.2.1]
    exact this
  · obtain ⟨q, q1, q2, -⟩ := (z_mover_iff r s a t).mp hmv
    have := (q_bit hR (p := (q : Int)) (s := s) (b := a) ⟨by omega, by omega⟩ ⟨hs.1, by omega⟩ ha).mpr q2
    exact (q_hasOpen hR hs ha).mpr (q_bitS hR (by omega) this).2.2
theorem q_inClass_p {r' : Nat → Int} {p s b : Int} (h2 : r' 2 = r 2) (h : ∀ q : Nat, q < (r 2).toNat → (r' (105 + 4 * (q : Int) + b).toNat = s ↔ r (105 + 4 * (q : Int) + b).toNat = s)) : m_inClass r' s b = m_inClass r s b := by
  unfold m_inClass r_inClass_5
  rw [h2]
  refine k_it_congr _ _ _ fun j x _ hj => ?_
  unfold b_inClass_5
  by_cases q : r (105 + 4 * (j : Int) + b).toNat = s
  · rw [if_pos q, if_pos ((h j (by omega)).mpr q)]
  · rw [if_neg q, if_neg fun y => q ((h j (by omega)).mp y)]
theorem q_lkQ (hR : k_P1 r σ) (hI : k_Ty σ) {p a s t : Int} (hp : 0 ≤ p ∧ p < σ 1 2) (ha : 0 ≤ a ∧ a < σ 1 0) (hs : 0 ≤ s ∧ s < σ 1 0) (ht : f_taken σ p a = t) (hne : t ≠ -1) (hno : f_taken σ p s = -1) : k_lk (k_u1 r (105 + 4 * p + t).toNat (-1)) σ p s (f_freeQ σ p a) := by
  have hS := hI.1
  have hB := hI.2.1
  have hP := hI.2.2.1
  have hm : r 2 = σ 1 2 := hR.2.1.1.2.2
  rw [q_taken hR hI hp (s := a) ⟨ha.1, by omega⟩] at ht
  rw [q_taken hR hI hp (s := s) ⟨hs.1, by omega⟩] at hno
  have hta := (z_blockOf r p a).resolve_left fun y => hne (ht.symm.trans y.1)
  rw [ht] at hta
  have hns := ((z_blockOf r p s).resolve_right fun y => by omega).2
  have hlow : ∀ j : Nat, j < 105 → k_u1 r (105 + 4 * p + t).toNat (-1) j = r j := fun j hj => if_neg (by omega)
  have hat : ∀ q b : Int, 0 ≤ q → 0 ≤ b ∧ b < 4 → k_u1 r (105 + 4 * p + t).toNat (-1) (105 + 4 * q + b).toNat = if q = p ∧ b = t then -1 else r (105 + 4 * q + b).toNat := fun q b hq hb => by
    unfold k_u1
    by_cases e : q = p ∧ b = t
    · rw [if_pos e, if_pos (by omega)]
    · rw [if_neg e, if_neg (by omega)]
  have has : ∀ q b : Int, 0 ≤ q → 0 ≤ b ∧ b < 4 → (k_u1 r (105 + 4 * p + t).toNat (-1) (105 + 4 * q + b).toNat = s ↔ r (105 + 4 * q + b).toNat = s) := fun q b hq hb => by
    rw [hat q b hq hb]
    split
    · rename_i e
      have := hns b hb.1 hb.2
      rw [e.1]
      omega
    · exact Iff.rfl
  have hmv : ∀ a t' : Int, 0 ≤ a ∧ a < 4 → 0 ≤ t' ∧ t' < 4 → m_mover (k_u1 r (105 + 4 * p + t).toNat (-1)) s a t' = m_mover r s a t' := fun a t' ha ht' => by
    rw [z_mover, z_mover, hlow 2 (by omega)]
    refine z_first_cong _ fun j hj => ?_
    have h1 := has (j : Int) a (by omega) ha
    have h2 := hat (j : Int) t' (by omega) ht'
    rw [decide_eq_decide, h1, h2]
    refine and_congr_right fun y => ?_
    rw [if_neg]
    rintro ⟨z1, z2⟩
    rw [z1] at y
    exact hns a ha.1 ha.2 y
  obtain ⟨l1, l2, l3, l4, l5⟩ := q_lk hR hI hp hs
  have hin : ∀ b : Int, 0 ≤ b ∧ b < 4 → m_inClass (k_u1 r (105 + 4 * p + t).toNat (-1)) s b = m_inClass r s b := fun b hb => q_inClass_p (p := p) (hlow 2 (by omega)) fun q _ => has (q : Int) b (by omega) hb
  refine ⟨fun a t ha ht => (l1 a t ha ht).trans (hmv a t ha ht).symm, fun b hb => ?_, fun b hb ho => ?_, fun a t ha ht => ?_, fun b hb => ?_⟩
  · rw [hlow _ (by omega), hlow _ (by omega), hin b hb]
    exact l2 b hb
  · rw [hlow _ (by omega)] at ho
    obtain ⟨y1, y2⟩ := l3 b hb ho
    rw [hlow 1 (by omega)]
    refine ⟨?_, y2⟩
    unfold f_freeQ
    rw [q_taken hR hI hp (s := a) ⟨ha.1, by omega⟩, ht, z_bit_or, Bool.or_eq_true, y1, z_bit_one hta.1.1 hb.1, decide_eq_true_eq, hat p b hp.1 hb]
    by_cases e : b = t
    · rw [if_pos ⟨rfl, e⟩]
      exact ⟨fun _ => rfl, fun _ => Or.inr e.symm⟩
    · rw [if_neg fun y => e y.2]
      exact ⟨fun y => y.elim id fun z => absurd z.symm e, Or.inl⟩
  · rw [hmv a t ha ht, hlow _ (by omega)]
    exact l4 a t ha ht
  · rw [hlow _ (by omega)]
    exact l5 b hb
/-- the reason against -/
theorem z_no4 {x : Int} (hx : 0 ≤ x ∧ x < 16) : x = 0 ↔ ∀ b : Int, 0 ≤ b → b < 4 → z_bit x b = false := by
  constructor
  · intro h b _ _
    rw [h, z_bit_0]
  · intro h
    have hx0 : x.toNat = 0 := Nat.eq_of_testBit_eq fun i => by
      rw [Nat.zero_testBit]
      by_cases q : i < 4
      · exact h (i : Int) (by omega) (by omega)
      · refine Nat.testBit_lt_two_pow ?_
        have : 2 ^ 4 ≤ 2 ^ i := Nat.pow_le_pow_right (by decide) (by omega)
        omega
    omega
theorem q_why {p s F : Int} (hI : k_Ty σ) (hM : k_Mo r) (hs : 0 ≤ s ∧ s < 7) (h : k_lk r σ p s F) : f_reason σ s F = m_whyRefused r p s := by
  obtain ⟨l1, l2, l3, l4, l5⟩ := h
  have ho := f_open_r hI s
  have e1 : f_open σ s = 0 ↔ m_openOf r s = 0 := by
    rw [z_no4 ho]
    have e : m_openOf r s = 0 + r ((17 + (4 * s)) + ((0 : Nat) : Int)).toNat + r ((17 + (4 * s)) + ((1 : Nat) : Int)).toNat + r ((17 + (4 * s)) + ((2 : Nat) : Int)).toNat + r ((17 + (4 * s)) + ((3 : Nat) : Int)).toNat := rfl
    have m0 := k_Mo_opn hM (x := (17 + (4 * s)) + ((0 : Nat) : Int)) (by omega) (by omega)
    have m1 := k_Mo_opn hM (x := (17 + (4 * s)) + ((1 : Nat) : Int)) (by omega) (by omega)
    have m2 := k_Mo_opn hM (x := (17 + (4 * s)) + ((2 : Nat) : Int)) (by omega) (by omega)
    have m3 := k_Mo_opn hM (x := (17 + (4 * s)) + ((3 : Nat) : Int)) (by omega) (by omega)
    have b0 := l5 ((0 : Nat) : Int) (by omega)
    have b1 := l5 ((1 : Nat) : Int) (by omega)
    have b2 := l5 ((2 : Nat) : Int) (by omega)
    have b3 := l5 ((3 : Nat) : Int) (by omega)
    rw [e]
    constructor
    · intro y
      rw [y _ (by omega) (by omega)] at b0 b1 b2 b3
      have n0 := mt b0.mp (by decide)
      have n1 := mt b1.mp (by decide)
      have n2 := mt b2.mp (by decide)
      have n3 := mt b3.mp (by decide)
      omega
    · intro y b h0 h4
      cases q : z_bit (f_open σ s) b with
      | false => rfl
      | true =>
        exfalso
        have := (l5 b ⟨h0, h4⟩).mpr q
        have hb : b = ((0 : Nat) : Int) ∨ b = ((1 : Nat) : Int) ∨ b = ((2 : Nat) : Int) ∨ b = ((3 : Nat) : Int) := by omega
        rcases hb with rfl | rfl | rfl | rfl <;> omega
  have hent : ∀ b : Int, 0 ≤ b → (m_isEntry r p s b = true ↔ b < r 1 ∧ r (17 + 4 * s + b).toNat = 1 ∧ r (105 + 4 * p + b).toNat = -1) := fun b _ => by
    unfold m_isEntry
    by_cases a : b < r 1
    · rw [if_pos a]
      by_cases c : r (17 + 4 * s + b).toNat = 1
      · rw [if_pos c]
        by_cases d : r (105 + 4 * p + b).toNat = -1
        · rw [if_pos d]
          exact ⟨fun _ => ⟨a, c, d⟩, fun _ => rfl⟩
        · rw [if_neg d]
          exact ⟨fun y => (by cases y), fun y => absurd y.2.2 d⟩
      · rw [if_neg c]
        exact ⟨fun y => (by cases y), fun y => absurd y.2.1 c⟩
    · rw [if_neg a]
      exact ⟨fun y => (by cases y), fun y => absurd y.1 a⟩
  have hR1 := hM.2.1
  have e2 : z_and (f_open σ s) F = 0 ↔ ∀ b : Nat, b < (r 1).toNat → ¬ m_isEntry r p s (b : Int) = true := by
    have hz : 0 ≤ z_and (f_open σ s) F ∧ z_and (f_open σ s) F < 16 := ⟨z_and_nn _ _, by
    have : (f_open σ s).toNat &&& F.toNat ≤ (f_open σ s).toNat := Nat.and_le_left
    unfold z_and
    omega⟩
    rw [z_no4 hz]
    constructor
    · intro y b hb z
      obtain ⟨z1, z2, z3⟩ := (hent b (by omega)).mp z
      have := y (b : Int) (by omega) (by omega)
      rw [z_bit_and, (l5 b ⟨by omega, by omega⟩).mp z2, ((l3 b ⟨by omega, by omega⟩ z2).1).mpr z3] at this
      cases this
    · intro y b h0 h4
      cases q : z_bit (z_and (f_open σ s) F) b with
      | false => rfl
      | true =>
        rw [z_bit_and, Bool.and_eq_true] at q
        have z2 := (l5 b ⟨h0, h4⟩).mpr q.1
        have z3 := l3 b ⟨h0, h4⟩ z2
        refine absurd ((hent b h0).mpr ⟨z3.2, z2, z3.1.mp q.2⟩) ?_
        have := y b.toNat (by omega)
        rwa [show ((b.toNat : Nat) : Int) = b by omega] at this
  have e3 : ∀ n : Nat, k_it (b_whyRefused_5 r p s) n 0 0 = 0 ↔ ∀ b : Nat, b < n → ¬ m_isEntry r p s (b : Int) = true := by
    intro n
    induction n with
    | zero => exact ⟨fun _ b hb => absurd hb (Nat.not_lt_zero b), fun _ => rfl⟩
    | succ n ih =>
      rw [k_it_succ, Nat.zero_add]
      generalize k_it (b_whyRefused_5 r p s) n 0 0 = x at ih ⊢
      unfold b_whyRefused_5
      by_cases q : x = 0
      · rw [if_pos q]
        by_cases w : m_isEntry r p s (n : Int) = true
        · rw [if_pos w]
          exact ⟨fun y => (by cases y), fun y => absurd w (y n (by omega))⟩
        · rw [if_neg w]
          exact ⟨fun _ b hb => if e : b = n then e ▸ w else ih.mp q b (by omega), fun _ => rfl⟩
      · rw [if_neg q]
        exact ⟨fun y => (by cases y), fun y => absurd (ih.mpr fun b hb => y b (by omega)) q⟩
  unfold f_reason m_whyRefused r_whyRefused_5
  by_cases q : f_open σ s = 0
  · rw [if_pos q, if_pos (e1.mp q)]
  · rw [if_neg q, if_neg fun y => q (e1.mpr y)]
    by_cases w : z_and (f_open σ s) F = 0
    · rw [if_pos w, if_pos ((e3 _).mpr (e2.mp w))]
    · rw [if_neg w, if_neg fun y => w (e2.mpr ((e3 _).mp y))]
end K_R12
