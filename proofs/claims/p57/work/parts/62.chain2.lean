/-! ===== CHAINS: the first chain that is found is the best one ===== -/
section K_R6
variable {σ ρ : Nat → Nat → Int} {r : Nat → Int} {ro bu di : Nat → Int}
def z_p4 : Nat → Nat
  | 0 => 1
  | n + 1 => 4 * z_p4 n
/-- the k-th of the m + 1 digits of c -/
def z_dg (m c k : Nat) : Nat := c / z_p4 (m - k) % 4
def z_cd (m : Nat) (f : Nat → Nat) : Nat := k_fold (m + 1) (fun k a => 4 * a + f k) 0
theorem z_p4_eq : ∀ n : Nat, z_p4 n = 2 ^ (2 * n)
  | 0 => rfl
  | n + 1 => by
    rw [show 2 * (n + 1) = 2 * n + 2 by omega, Nat.pow_add, ← z_p4_eq n, Nat.mul_comm]
    rfl
theorem z_dg_lt (m c k : Nat) : z_dg m c k < 4 := Nat.mod_lt _ (by decide)
theorem z_dgI {m k : Nat} (c : Nat) (h : k ≤ m) : z_and (z_shr (c : Int) (2 * ((m : Int) - (k : Int)))) 3 = (z_dg m c k : Int) := by
  have e : (2 * ((m : Int) - (k : Int))).toNat = 2 * (m - k) := by omega
  unfold z_and z_shr z_dg
  rw [e, Int.toNat_natCast, Int.toNat_natCast, z_p4_eq]
  have e3 : (3 : Int).toNat = 2 ^ 2 - 1 := rfl
  rw [e3, Nat.and_two_pow_sub_one_eq_mod]
theorem z_dg_cd {m : Nat} (hm : m < 4) {f : Nat → Nat} (hf : ∀ k, k ≤ m → f k < 4) : (∀ k, k ≤ m → z_dg m (z_cd m f) k = f k) ∧ z_cd m f < z_p4 (m + 1) := by
  have : m = 0 ∨ m = 1 ∨ m = 2 ∨ m = 3 := by omega
  rcases this with rfl | rfl | rfl | rfl
  · have h0 := hf 0 (by omega)
    have e : z_cd 0 f = 4 * 0 + f 0 := rfl
    refine ⟨fun k hk => ?_, by rw [e]; show _ < 4; omega⟩
    have : k = 0 := by omega
    subst this
    rw [e]
    show (4 * 0 + f 0) / 1 % 4 = f 0
    omega
  · have h0 := hf 0 (by omega)
    have h1 := hf 1 (by omega)
    have e : z_cd 1 f = 4 * (4 * 0 + f 0) + f 1 := rfl
    refine ⟨fun k hk => ?_, by rw [e]; show _ < 16; omega⟩
    have : k = 0 ∨ k = 1 := by omega
    rw [e]
    rcases this with rfl | rfl
    · show (4 * (4 * 0 + f 0) + f 1) / 4 % 4 = f 0
      omega
    · show (4 * (4 * 0 + f 0) + f 1) / 1 % 4 = f 1
      omega
  · have h0 := hf 0 (by omega)
    have h1 := hf 1 (by omega)
    have h2 := hf 2 (by omega)
    have e : z_cd 2 f = 4 * (4 * (4 * 0 + f 0) + f 1) + f 2 := rfl
    refine ⟨fun k hk => ?_, by rw [e]; show _ < 64; omega⟩
    have : k = 0 ∨ k = 1 ∨ k = 2 := by omega
    rw [e]
    rcases this with rfl | rfl | rfl
    · show (4 * (4 * (4 * 0 + f 0) + f 1) + f 2) / 16 % 4 = f 0
      omega
    · show (4 * (4 * (4 * 0 + f 0) + f 1) + f 2) / 4 % 4 = f 1
      omega
    · show (4 * (4 * (4 * 0 + f 0) + f 1) + f 2) / 1 % 4 = f 2
      omega
  · have h0 := hf 0 (by omega)
    have h1 := hf 1 (by omega)
    have h2 := hf 2 (by omega)
    have h3 := hf 3 (by omega)
    have e : z_cd 3 f = 4 * (4 * (4 * (4 * 0 + f 0) + f 1) + f 2) + f 3 := rfl
    refine ⟨fun k hk => ?_, by rw [e]; show _ < 256; omega⟩
    have : k = 0 ∨ k = 1 ∨ k = 2 ∨ k = 3 := by omega
    rw [e]
    rcases this with rfl | rfl | rfl | rfl
    · show (4 * (4 * (4 * (4 * 0 + f 0) + f 1) + f 2) + f 3) / 64 % 4 = f 0
      omega
    · show (4 * (4 * (4 * (4 * 0 + f 0) + f 1) + f 2) + f 3) / 16 % 4 = f 1
      omega
    · show (4 * (4 * (4 * (4 * 0 + f 0) + f 1) + f 2) + f 3) / 4 % 4 = f 2
      omega
    · show (4 * (4 * (4 * (4 * 0 + f 0) + f 1) + f 2) + f 3) / 1 % 4 = f 3
      omega
/-- in the order of the codes the first digit that differs decides -/
theorem z_lex {m c : Nat} (hm : m < 4) (hc : c < z_p4 (m + 1)) {f : Nat → Nat} (hf : ∀ k, k ≤ m → f k < 4) (h : ∀ k, k ≤ m → (∀ j, j < k → z_dg m c j = f j) → f k ≤ z_dg m c k) : z_cd m f ≤ c := by
  have : m = 0 ∨ m = 1 ∨ m = 2 ∨ m = 3 := by omega
  rcases this with rfl | rfl | rfl | rfl
  · have e : z_cd 0 f = 4 * 0 + f 0 := rfl
    have h0 : f 0 ≤ c / 1 % 4 := h 0 (by omega) fun j hj => absurd hj (Nat.not_lt_zero j)
    have hc : c < 4 := hc
    omega
  · have e : z_cd 1 f = 4 * (4 * 0 + f 0) + f 1 := rfl
    have g0 := hf 0 (by omega)
    have g1 := hf 1 (by omega)
    have h0 : f 0 ≤ c / 4 % 4 := h 0 (by omega) fun j hj => absurd hj (Nat.not_lt_zero j)
    have h1 : c / 4 % 4 = f 0 → f 1 ≤ c / 1 % 4 := fun z => h 1 (by omega) fun j hj => by
      have : j = 0 := by omega
      subst this
      exact z
    have hc : c < 16 := hc
    omega
  · have e : z_cd 2 f = 4 * (4 * (4 * 0 + f 0) + f 1) + f 2 := rfl
    have g0 := hf 0 (by omega)
    have g1 := hf 1 (by omega)
    have g2 := hf 2 (by omega)
    have h0 : f 0 ≤ c / 16 % 4 := h 0 (by omega) fun j hj => absurd hj (Nat.not_lt_zero j)
    have h1 : c / 16 % 4 = f 0 → f 1 ≤ c / 4 % 4 := fun z => h 1 (by omega) fun j hj => by
      have : j = 0 := by omega
      subst this
      exact z
    have h2 : c / 16 % 4 = f 0 → c / 4 % 4 = f 1 → f 2 ≤ c / 1 % 4 := fun z y => h 2 (by omega) fun j hj => by
      have : j = 0 ∨ j = 1 := by omega
      rcases this with rfl | rfl
      · exact z
      · exact y
    have hc : c < 64 := hc
    omega
  · have e : z_cd 3 f = 4 * (4 * (4 * (4 * 0 + f 0) + f 1) + f 2) + f 3 := rfl
    have g0 := hf 0 (by omega)
    have g1 := hf 1 (by omega)
    have g2 := hf 2 (by omega)
    have g3 := hf 3 (by omega)
    have h0 : f 0 ≤ c / 64 % 4 := h 0 (by omega) fun j hj => absurd hj (Nat.not_lt_zero j)
    have h1 : c / 64 % 4 = f 0 → f 1 ≤ c / 16 % 4 := fun z => h 1 (by omega) fun j hj => by
      have : j = 0 := by omega
      subst this
      exact z
    have h2 : c / 64 % 4 = f 0 → c / 16 % 4 = f 1 → f 2 ≤ c / 4 % 4 := fun z y => h 2 (by omega) fun j hj => by
      have : j = 0 ∨ j = 1 := by omega
      rcases this with rfl | rfl
      · exact z
      · exact y
    have h3 : c / 64 % 4 = f 0 → c / 16 % 4 = f 1 → c / 4 % 4 = f 2 → f 3 ≤ c / 1 % 4 := fun z y x => h 3 (by omega) fun j hj => by
      have : j = 0 ∨ j = 1 ∨ j = 2 := by omega
      rcases this with rfl | rfl | rfl
      · exact z
      · exact y
      · exact x
    have hc : c < 256 := hc
    omega
/-- the chain of a code -/
def m_chn (r : Nat → Int) (p s : Int) (m c : Nat) : Prop := m_isChain r (fun k => (z_dg m c k : Int)) p s (m : Int) = true
theorem z_isChain_cong {r st st' : Nat → Int} {p s : Int} {m : Nat} (h : ∀ k, k ≤ m → st k = st' k) : m_isChain r st p s (m : Int) = true ↔ m_isChain r st' p s (m : Int) = true := by
  rw [z_isChain, z_isChain, h 0 (Nat.zero_le m), h m (Nat.le_refl m)]
  refine and_congr Iff.rfl (and_congr (forall_congr' fun k => ?_) Iff.rfl)
  constructor
  · intro z hk
    rw [← h k (by omega), ← h (k + 1) (by omega)]
    exact z hk
  · intro z hk
    rw [h k (by omega), h (k + 1) (by omega)]
    exact z hk
theorem b_stop (p s : Int) (m : Nat) (x2 : Nat → Int) (c : Nat) (x : Nat → Int) : ∀ k, k ≤ m → k_it (b_findsChain_25 ρ p s m x2 c x) (m + 1) 0 x k = (z_dg m c k : Int) := by
  have h : ∀ n, n ≤ m + 1 → ∀ k, k < n → k_it (b_findsChain_25 ρ p s m x2 c x) n 0 x k = (z_dg m c k : Int) := by
    intro n
    induction n with
    | zero => intro _ k hk; exact absurd hk (Nat.not_lt_zero k)
    | succ n ih =>
      intro hn k hk
      rw [k_it_succ, Nat.zero_add]
      unfold b_findsChain_25 k_u1
      rw [Int.toNat_natCast]
      by_cases q : k = n
      · rw [if_pos q, z_dgI c (by omega), q]
      · rw [if_neg q]
        exact ih (by omega) k (by omega)
  exact fun k hk => h (m + 1) (Nat.le_refl _) k (by omega)
theorem b_chn (p s : Int) (m : Nat) (x2 : Nat → Int) (c : Nat) (x : Nat → Int) : ∃ y : Nat → Int, (∀ k, k ≤ m → y k = (z_dg m c k : Int)) ∧ (m_chn (ρ 124) p s m c → b_findsChain_10 ρ p s m x2 c x = .inl (.inl ((m : Int), k_up ρ 133 y))) ∧ (¬ m_chn (ρ 124) p s m c → b_findsChain_10 ρ p s m x2 c x = .inr y) := by
  have h := b_stop (ρ := ρ) p s m x2 c x
  refine ⟨k_it (b_findsChain_25 ρ p s m x2 c x) (m + 1) 0 x, h, ?_⟩
  have e : b_findsChain_10 ρ p s m x2 c x = if m_isChain (ρ 124) (k_it (b_findsChain_25 ρ p s m x2 c x) (m + 1) 0 x) p s (m : Int) = true then .inl (.inl ((m : Int), k_up ρ 133 (k_it (b_findsChain_25 ρ p s m x2 c x) (m + 1) 0 x))) else .inr (k_it (b_findsChain_25 ρ p s m x2 c x) (m + 1) 0 x) := rfl
  have hc := z_isChain_cong (r := ρ 124) (p := p) (s := s) h
  constructor
  · intro z
    rw [e, if_pos (hc.mpr z)]
  · intro z
    rw [e, if_neg fun w => z (hc.mp w)]
theorem f_10no (p s : Int) (m : Nat) (x2 : Nat → Int) : ∀ (n i : Nat) (x : Nat → Int), (∀ c, i ≤ c → c < i + n → ¬ m_chn (ρ 124) p s m c) → ∃ y, k_for (b_findsChain_10 ρ p s m x2) n i x = .inr y
  | 0, _, x, _ => ⟨x, rfl⟩
  | n + 1, i, x, h => by
    obtain ⟨y, -, -, hy⟩ := b_chn (ρ := ρ) p s m x2 i x
    have e : k_for (b_findsChain_10 ρ p s m x2) (n + 1) i x = k_cn2 (k_for (b_findsChain_10 ρ p s m x2) n (i + 1)) (b_findsChain_10 ρ p s m x2 i x) := rfl
    rw [e, hy (h i (Nat.le_refl i) (by omega))]
    exact f_10no p s m x2 n (i + 1) y fun c h1 h2 => h c (by omega) (by omega)
theorem f_10yes (p s : Int) (m : Nat) (x2 : Nat → Int) {c0 : Nat} (hc : m_chn (ρ 124) p s m c0) : ∀ (n i : Nat) (x : Nat → Int), i ≤ c0 → c0 < i + n → (∀ c, i ≤ c → c < c0 → ¬ m_chn (ρ 124) p s m c) → ∃ y : Nat → Int, (∀ k, k ≤ m → y k = (z_dg m c0 k : Int)) ∧ k_for (b_findsChain_10 ρ p s m x2) n i x = .inl (.inl ((m : Int), k_up ρ 133 y))
  | 0, i, _, h1, h2, _ => by omega
  | n + 1, i, x, h1, h2, h3 => by
    obtain ⟨y, y1, y2, y3⟩ := b_chn (ρ := ρ) p s m x2 i x
    have e : k_for (b_findsChain_10 ρ p s m x2) (n + 1) i x = k_cn2 (k_for (b_findsChain_10 ρ p s m x2) n (i + 1)) (b_findsChain_10 ρ p s m x2 i x) := rfl
    rw [e]
    by_cases q : i = c0
    · subst q
      rw [y2 hc]
      exact ⟨y, y1, rfl⟩
    · rw [y3 (h3 i (Nat.le_refl i) (by omega))]
      exact f_10yes p s m x2 hc n (i + 1) y (by omega) (by omega) fun c a b => h3 c (by omega) b
theorem z_N10 (m : Nat) : (z_one ((2 * ((m : Int))) + 2)).toNat = z_p4 (m + 1) := by
  unfold z_one
  rw [Int.toNat_natCast, z_p4_eq, show (2 * (m : Int) + 2).toNat = 2 * (m + 1) by omega]
theorem f_2no (p s : Int) : ∀ (n i : Nat) (x : Nat → Int), (∀ m, i ≤ m → m < i + n → ∀ c, c < z_p4 (m + 1) → ¬ m_chn (ρ 124) p s m c) → ∃ y, k_for (b_findsChain_2 ρ p s) n i x = .inr y
  | 0, _, x, _ => ⟨x, rfl⟩
  | n + 1, i, x, h => by
    have e : k_for (b_findsChain_2 ρ p s) (n + 1) i x = k_cn2 (k_for (b_findsChain_2 ρ p s) n (i + 1)) (b_findsChain_2 ρ p s i x) := rfl
    obtain ⟨y, hy⟩ := f_10no (ρ := ρ) p s i x (z_p4 (i + 1)) 0 x fun c _ h2 => h i (Nat.le_refl i) (by omega) c (by omega)
    have e2 : b_findsChain_2 ρ p s i x = .inr y := by
      unfold b_findsChain_2
      rw [z_N10, hy]
      rfl
    rw [e, e2]
    exact f_2no p s n (i + 1) y fun m h1 h2 => h m (by omega) (by omega)
theorem f_2yes (p s : Int) {m0 c0 : Nat} (hc0 : c0 < z_p4 (m0 + 1)) (hc : m_chn (ρ 124) p s m0 c0) (hmin : ∀ c, c < c0 → ¬ m_chn (ρ 124) p s m0 c) : ∀ (n i : Nat) (x : Nat → Int), i ≤ m0 → m0 < i + n → (∀ m, i ≤ m → m < m0 → ∀ c, c < z_p4 (m + 1) → ¬ m_chn (ρ 124) p s m c) → ∃ y : Nat → Int, (∀ k, k ≤ m0 → y k = (z_dg m0 c0 k : Int)) ∧ k_for (b_findsChain_2 ρ p s) n i x = .inl ((m0 : Int), k_up ρ 133 y)
  | 0, i, _, h1, h2, _ => by omega
  | n + 1, i, x, h1, h2, h3 => by
    have e : k_for (b_findsChain_2 ρ p s) (n + 1) i x = k_cn2 (k_for (b_findsChain_2 ρ p s) n (i + 1)) (b_findsChain_2 ρ p s i x) := rfl
    by_cases q : i = m0
    · subst q
      obtain ⟨y, y1, y2⟩ := f_10yes (ρ := ρ) p s i x hc (z_p4 (i + 1)) 0 x (Nat.zero_le _) (by omega) fun c _ b => hmin c b
      have e2 : b_findsChain_2 ρ p s i x = .inl ((i : Int), k_up ρ 133 y) := by
        unfold b_findsChain_2
        rw [z_N10, y2]
        rfl
      rw [e, e2]
      exact ⟨y, y1, rfl⟩
    · obtain ⟨y, hy⟩ := f_10no (ρ := ρ) p s i x (z_p4 (i + 1)) 0 x fun c _ b => h3 i (Nat.le_refl i) (by omega) c (by omega)
      have e2 : b_findsChain_2 ρ p s i x = .inr y := by
        unfold b_findsChain_2
        rw [z_N10, hy]
        rfl
      rw [e, e2]
      exact f_2yes p s hc0 hc hmin n (i + 1) y (by omega) (by omega) fun m a b => h3 m (by omega) b
theorem q_findNo {p s : Int} (h : ∀ m, m < 4 → ∀ c, c < z_p4 (m + 1) → ¬ m_chn (ρ 124) p s m c) : (m_findsChain ρ p s).1 = -1 := by
  obtain ⟨y, hy⟩ := f_2no (ρ := ρ) p s 4 0 (ρ 133) fun m _ h2 => h m (by omega)
  unfold m_findsChain
  rw [hy]
  rfl
theorem q_findYes {p s : Int} {m0 c0 : Nat} (hm : m0 < 4) (hc0 : c0 < z_p4 (m0 + 1)) (hc : m_chn (ρ 124) p s m0 c0) (hmin : ∀ c, c < c0 → ¬ m_chn (ρ 124) p s m0 c) (hm0 : ∀ m, m < m0 → ∀ c, c < z_p4 (m + 1) → ¬ m_chn (ρ 124) p s m c) : ∃ y : Nat → Int, (∀ k, k ≤ m0 → y k = (z_dg m0 c0 k : Int)) ∧ m_findsChain ρ p s = ((m0 : Int), k_up ρ 133 y) := by
  obtain ⟨y, y1, y2⟩ := f_2yes (ρ := ρ) p s hc0 hc hmin 4 0 (ρ 133) (Nat.zero_le _) (by omega) fun m _ b => hm0 m b
  refine ⟨y, y1, ?_⟩
  unfold m_findsChain
  rw [y2]
  rfl
end K_R6
