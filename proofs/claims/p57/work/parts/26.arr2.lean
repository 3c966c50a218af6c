/-! ===== ARRANGEMENTS, second part: the searches ===== -/
section K_U
variable {E : k_E} {sh : List k_Sh} {σ : Nat → Nat → Int}
theorem g_pairI_eq (w : Int) (s : Nat) (g : Nat → Int) (n : Nat) (hn : n ≤ 7) : ∀ a b : Nat, b < 7 → g_pairI w s n g (a * 7 + b) = g (a * 7 + b) + zb (a = s ∧ b < n ∧ z_bit w (a : Int) = true ∧ z_bit w (b : Int) = true) := by
  induction n with
  | zero => intro a b hb; rw [zb_f (by omega)]; exact (Int.add_zero _).symm
  | succ n ih =>
    intro a b hb
    have ih := ih (by omega)
    have ev : g_pairI w s (n + 1) g = if z_bit w (s : Int) = true ∧ z_bit w (n : Int) = true then k_u1 (g_pairI w s n g) ((s : Int) * 7 + (n : Int)).toNat (g_pairI w s n g ((s : Int) * 7 + (n : Int)).toNat + 1) else g_pairI w s n g := rfl
    rw [ev]
    have ec : ((s : Int) * 7 + (n : Int)).toNat = s * 7 + n := by omega
    rw [ec]
    by_cases h : z_bit w (s : Int) = true ∧ z_bit w (n : Int) = true
    · rw [if_pos h]
      unfold k_u1
      by_cases e : a * 7 + b = s * 7 + n
      · have ha : a = s := by omega
        have hb2 : b = n := by omega
        subst ha hb2
        rw [if_pos rfl, ih a b hb, zb_f (by omega), zb_t ⟨rfl, by omega, h.1, h.2⟩]
        omega
      · rw [if_neg e, ih a b hb]
        by_cases q : a = s ∧ b < n ∧ z_bit w (a : Int) = true ∧ z_bit w (b : Int) = true
        · rw [zb_t q, zb_t ⟨q.1, by omega, q.2.2⟩]
        · rw [zb_f q, zb_f (fun q2 => q ⟨q2.1, by omega, q2.2.2⟩)]
    · rw [if_neg h, ih a b hb]
      by_cases q : a = s ∧ b < n ∧ z_bit w (a : Int) = true ∧ z_bit w (b : Int) = true
      · rw [zb_t q, zb_t ⟨q.1, by omega, q.2.2⟩]
      · rw [zb_f q, zb_f (fun q2 => q ⟨q2.1, by
          have : ¬ b = n := fun e => h (by rw [← q2.1, ← e]; exact q2.2.2)
          omega, q2.2.2⟩)]
theorem g_pairs_eq (w : Int) (g : Nat → Int) (n : Nat) : ∀ a b : Nat, b < 7 → g_pairs w n g (a * 7 + b) = g (a * 7 + b) + zb (a < n ∧ z_bit w (a : Int) = true ∧ z_bit w (b : Int) = true) := by
  induction n with
  | zero => intro a b hb; rw [zb_f (by omega)]; exact (Int.add_zero _).symm
  | succ n ih =>
    intro a b hb
    have ev : g_pairs w (n + 1) g = g_pairI w n 7 (g_pairs w n g) := rfl
    rw [ev, g_pairI_eq w n _ 7 (by decide) a b hb, ih a b hb]
    by_cases q : z_bit w (a : Int) = true ∧ z_bit w (b : Int) = true
    · by_cases e : a = n
      · rw [zb_f (by omega), zb_t ⟨e, hb, q⟩, zb_t ⟨by omega, q⟩]; omega
      · by_cases e2 : a < n
        · rw [zb_t ⟨e2, q⟩, zb_f (by omega), zb_t ⟨by omega, q⟩]; omega
        · rw [zb_f (by omega), zb_f (by omega), zb_f (by omega)]; omega
    · rw [zb_f (fun x => q x.2), zb_f (fun x => q x.2.2), zb_f (fun x => q x.2)]; omega
theorem g_zero_at (g : Nat → Int) : ∀ (n j : Nat), j < n → g_zero n g j = 0
  | 0, j, h => by omega
  | n + 1, j, h => by
    show k_u1 (g_zero n g) n 0 j = 0
    unfold k_u1
    split
    · rfl
    · exact g_zero_at g n j (by omega)
theorem g_zero_r {g : Nat → Int} (h : ∀ j, 0 ≤ g j ∧ g j ≤ 12) (n : Nat) : ∀ j, 0 ≤ g_zero n g j ∧ g_zero n g j ≤ 12 :=
  k_fold_inv (P := fun g : Nat → Int => ∀ j, 0 ≤ g j ∧ g j ≤ 12) h (fun b g hg j => by
    unfold k_u1
    split
    · decide
    · exact hg j) n
theorem g_comm_eq (σ : Nat → Nat → Int) : ∀ n a b : Nat, a < 7 → b < 7 → g_comm σ n (a * 7 + b) = f_bothN σ (a : Int) (b : Int) n
  | 0, a, b, ha, hb => g_zero_at _ 49 _ (by omega)
  | n + 1, a, b, ha, hb => by
    have ev : g_comm σ (n + 1) = g_pairs (f_wishSet σ (n : Int)) 7 (g_comm σ n) := rfl
    rw [ev, g_pairs_eq _ _ 7 a b hb, g_comm_eq σ n a b ha hb]
    show f_bothN σ (a : Int) (b : Int) n + _ = f_bothN σ (a : Int) (b : Int) n + zb _
    by_cases q : z_bit (f_wishSet σ (n : Int)) (a : Int) = true ∧ z_bit (f_wishSet σ (n : Int)) (b : Int) = true
    · rw [zb_t ⟨ha, q⟩, zb_t q]
    · rw [zb_f (fun x => q x.2), zb_f q]
theorem g_pairs_far (w : Int) (g : Nat → Int) {j : Nat} (hj : 49 ≤ j) : g_pairs w 7 g j = g j := by
  have h := g_pairs_eq w g 7 (j / 7) (j % 7) (by omega)
  have e : j / 7 * 7 + j % 7 = j := by omega
  rw [e, zb_f (by omega)] at h
  omega
theorem g_comm_r (hI : k_Ty σ) (h : ∀ j, 0 ≤ σ 19 j ∧ σ 19 j ≤ 12) : ∀ j, 0 ≤ g_comm σ (σ 1 2).toNat j ∧ g_comm σ (σ 1 2).toNat j ≤ 12 := by
  intro j
  by_cases hj : j < 49
  · have e : j / 7 * 7 + j % 7 = j := by omega
    have h1 := g_comm_eq σ (σ 1 2).toNat (j / 7) (j % 7) (by omega) (by omega)
    rw [e] at h1
    rw [h1]
    have h2 := f_bothN_r σ ((j / 7 : Nat) : Int) ((j % 7 : Nat) : Int) (σ 1 2).toNat
    have h3 := hI.2.2.1
    omega
  · have : ∀ n, g_comm σ n j = g_zero 49 (σ 19) j := by
      intro n
      induction n with
      | zero => rfl
      | succ n ih => exact (g_pairs_far _ _ (by omega)).trans ih
    rw [this]
    exact g_zero_r h 49 j
abbrev g_B : Type := (Nat → Int) × (Nat → Int) × (Nat → Int) × Int
/-- the search's own cells: tried, best, added, the fewest clashes -/
def g_putA (σ : Nat → Nat → Int) (S : g_B) : Nat → Nat → Int := k_up (k_up (k_up (k_up σ 20 S.1) 21 S.2.1) 22 S.2.2.1) 18 (k_u1 (σ 18) 5 S.2.2.2)
def g_bOk (S : g_B) : Prop := (∀ j, 0 ≤ S.1 j ∧ S.1 j < 4) ∧ (∀ j, 0 ≤ S.2.1 j ∧ S.2.1 j < 4) ∧ (∀ j, 0 ≤ S.2.2.1 j ∧ S.2.2.1 j ≤ 84) ∧ (0 ≤ S.2.2.2 ∧ S.2.2.2 ≤ 2147483647)
/-- the search that drops what cannot be better; n subjects are left of N -/
def g_set (cm : Nat → Int) (N : Int) (B : Nat) : Nat → Int → g_B → g_B
  | 0, c, S => if c < S.2.2.2 then (S.1, S.1, S.2.2.1, c) else S
  | n + 1, c, S => if c < S.2.2.2 then k_fold B (fun b T => g_set cm N B n (c + T.2.2.1 ((N - ((n + 1 : Nat) : Int)) * 4 + (b : Int)).toNat) (k_u1 T.1 (N - ((n + 1 : Nat) : Int)).toNat (b : Int), T.2)) (S.1, S.2.1, g_weigh cm S.1 (N - ((n + 1 : Nat) : Int)) S.2.2.1, S.2.2.2) else S
/-- the search through all -/
def g_try (cm : Nat → Int) (N : Int) (B : Nat) : Nat → Int → g_B → Int × g_B
  | 0, c, S => (c, S)
  | n + 1, c, S => k_fold B (fun b T => (z_min T.1 (g_try cm N B n (c + T.2.2.2.1 ((N - ((n + 1 : Nat) : Int)) * 4 + (b : Int)).toNat) (k_u1 T.2.1 (N - ((n + 1 : Nat) : Int)).toNat (b : Int), T.2.2)).1, (g_try cm N B n (c + T.2.2.2.1 ((N - ((n + 1 : Nat) : Int)) * 4 + (b : Int)).toNat) (k_u1 T.2.1 (N - ((n + 1 : Nat) : Int)).toNat (b : Int), T.2.2)).2)) (37, (S.1, S.2.1, g_weigh cm S.1 (N - ((n + 1 : Nat) : Int)) S.2.2.1, S.2.2.2))
theorem g_u1_r {f : Nat → Int} {k : Nat} {v : Int} (h : ∀ j, 0 ≤ f j ∧ f j < 4) (hv : 0 ≤ v ∧ v < 4) : ∀ j, 0 ≤ k_u1 f k v j ∧ k_u1 f k v j < 4 := fun j => by
  unfold k_u1
  split
  · exact hv
  · exact h j
theorem k_fold_invL {α : Type} {P : α → Prop} {f : Nat → α → α} {a : α} (h0 : P a) : ∀ n, (∀ i, i < n → ∀ x, P x → P (f i x)) → P (k_fold n f a)
  | 0, _ => h0
  | n + 1, hs => hs n (by omega) _ (k_fold_invL h0 n (fun i hi => hs i (by omega)))
theorem g_set_ok {cm : Nat → Int} {N : Int} {B : Nat} (hcm : ∀ j, 0 ≤ cm j ∧ cm j ≤ 12) (hN : N ≤ 7) (hB : B ≤ 4) : ∀ (n : Nat) (c : Int) (S : g_B), (n : Int) ≤ N → 0 ≤ c → g_bOk S → g_bOk (g_set cm N B n c S)
  | 0, c, S, _, hc, h => by
    unfold g_set
    split
    · exact ⟨h.1, h.1, h.2.2.1, by have := h.2.2.2; show 0 ≤ c ∧ c ≤ 2147483647; omega⟩
    · exact h
  | n + 1, c, S, hn, hc, h => by
    unfold g_set
    split
    · refine k_fold_invL (P := g_bOk) (by exact ⟨h.1, h.2.1, g_weigh_r ⟨by omega, by omega⟩ hcm h.1 h.2.2.1, h.2.2.2⟩) B (fun b hb T hT => ?_)
      have h1 := hT.2.2.1 ((N - ((n + 1 : Nat) : Int)) * 4 + (b : Int)).toNat
      exact g_set_ok hcm hN hB n _ _ (by omega) (by omega) ⟨g_u1_r hT.1 ⟨by omega, by omega⟩, hT.2⟩
    · exact h
theorem z_min_r {a b : Int} (ha : 0 ≤ a ∧ a ≤ 2147483647) (hb : 0 ≤ b ∧ b ≤ 2147483647) : 0 ≤ z_min a b ∧ z_min a b ≤ 2147483647 := by
  unfold z_min
  split <;> assumption
theorem g_try_ok {cm : Nat → Int} {N : Int} {B : Nat} (hcm : ∀ j, 0 ≤ cm j ∧ cm j ≤ 12) (hN : N ≤ 7) (hB : B ≤ 4) : ∀ (n : Nat) (c : Int) (S : g_B), (n : Int) ≤ N → (0 ≤ c ∧ c ≤ 84 * (N - n)) → g_bOk S → (0 ≤ (g_try cm N B n c S).1 ∧ (g_try cm N B n c S).1 ≤ 2147483647) ∧ g_bOk (g_try cm N B n c S).2
  | 0, c, S, _, hc, h => ⟨by show 0 ≤ c ∧ c ≤ 2147483647; omega, h⟩
  | n + 1, c, S, hn, hc, h => by
    unfold g_try
    refine k_fold_invL (P := fun T : Int × g_B => (0 ≤ T.1 ∧ T.1 ≤ 2147483647) ∧ g_bOk T.2) (by exact ⟨⟨(by decide : (0 : Int) ≤ 37), (by decide : (37 : Int) ≤ 2147483647)⟩, h.1, h.2.1, g_weigh_r ⟨by omega, by omega⟩ hcm h.1 h.2.2.1, h.2.2.2⟩) B (fun b hb T hT => ?_)
    have h1 := hT.2.2.2.1 ((N - ((n + 1 : Nat) : Int)) * 4 + (b : Int)).toNat
    have h2 := g_try_ok hcm hN hB n (c + T.2.2.2.1 ((N - ((n + 1 : Nat) : Int)) * 4 + (b : Int)).toNat) (k_u1 T.2.1 (N - ((n + 1 : Nat) : Int)).toNat (b : Int), T.2.2) (by omega) ⟨by omega, by omega⟩ ⟨g_u1_r hT.2.1 ⟨by omega, by omega⟩, hT.2.2⟩
    exact ⟨z_min_r hT.1 h2.1, h2.2⟩
theorem g_putA_put (σ : Nat → Nat → Int) (S T : g_B) : g_putA (g_putA σ S) T = g_putA σ T := by
  funext i
  by_cases e18 : i = 18
  · subst e18; show k_u1 (k_u1 (σ 18) 5 S.2.2.2) 5 T.2.2.2 = k_u1 (σ 18) 5 T.2.2.2; funext j; unfold k_u1; split <;> rfl
  · by_cases e22 : i = 22
    · subst e22; rfl
    · by_cases e21 : i = 21
      · subst e21; rfl
      · by_cases e20 : i = 20
        · subst e20; rfl
        · simp [g_putA, k_up, e18, e22, e21, e20]
theorem g_setF {cm : Nat → Int} {N c : Int} {B n : Nat} {S : g_B} (hcm : ∀ j, 0 ≤ cm j ∧ cm j ≤ 12) (hN : N ≤ 7) (hB : B ≤ 4) (hn : ((n + 1 : Nat) : Int) ≤ N) (hc : 0 ≤ c) (h : g_bOk S) (m : Nat) (hm : m ≤ B) : g_bOk (k_fold m (fun b T => g_set cm N B n (c + T.2.2.1 ((N - ((n + 1 : Nat) : Int)) * 4 + (b : Int)).toNat) (k_u1 T.1 (N - ((n + 1 : Nat) : Int)).toNat (b : Int), T.2)) (S.1, S.2.1, g_weigh cm S.1 (N - ((n + 1 : Nat) : Int)) S.2.2.1, S.2.2.2)) := by
  refine k_fold_invL (P := g_bOk) (by exact ⟨h.1, h.2.1, g_weigh_r ⟨by omega, by omega⟩ hcm h.1 h.2.2.1, h.2.2.2⟩) m (fun b hb T hT => ?_)
  have h1 := hT.2.2.1 ((N - ((n + 1 : Nat) : Int)) * 4 + (b : Int)).toNat
  exact g_set_ok hcm hN hB n _ _ (by omega) (by omega) ⟨g_u1_r hT.1 ⟨by omega, by omega⟩, hT.2⟩
set_option maxHeartbeats 4000000 in
theorem c_settle (hsh : k_Main sh) (hI : k_Ty σ) (hcm : ∀ j, 0 ≤ σ 19 j ∧ σ 19 j ≤ 12) : ∀ m : Nat, (m : Int) ≤ σ 1 0 → ∀ (c : Int) (S : g_B), (0 ≤ c ∧ c ≤ 84 * (σ 1 0 - (m : Int))) → g_bOk S → k_C E mX0_settle (m + 3) [.ref 18, .int (iI (σ 1 0 - (m : Int))), .int (iI c)] sh (g_putA σ S) 0 0 (k_ret none sh (g_putA σ (g_set (σ 19) (σ 1 0) (σ 1 1).toNat m c S))) := by
  obtain ⟨t0, t1, t2, t3, t4, t5, t6, t7, t8, t9, t10, t11⟩ := id hI
  intro m
  induction m with
  | zero =>
    intro hm c S hc hS
    have hf := hS.2.2.2
    refine k_C_of (ls0 := [(0, .ref 18), (1, .int (iI (σ 1 0 - ((0 : Nat) : Int)))), (2, .int (iI c))]) rfl pnX0 (fun v hv => k_cat1 rfl hv) (Nat.le_of_ble_eq_true rfl) rfl ?_
    refine k_iload_n dX0_settle_0 2 rfl rfl ?_
    refine k_aload_n dX0_settle_1 0 rfl rfl (by decide) ?_
    refine k_get (kf := 5) (v := .int (iI (S.2.2.2))) dX0_settle_2 kcX0 w_242 (by decide) (by decide) (s_18 hsh) rfl rfl ?_
    refine k_icmp_lt (tgt := 9) dX0_settle_5 rfl ⟨by omega, by omega⟩ ⟨by omega, by omega⟩ (fun h_1 => ?_) (fun h_1 => ?_)
    · refine k_iload_n dX0_settle_9 1 rfl rfl ?_
      refine k_aload_n dX0_settle_10 0 rfl rfl (by decide) ?_
      refine k_get (kf := 0) (v := .ref 1) dX0_settle_11 kcX0 w_237 (by decide) (by decide) (s_18 hsh) rfl rfl ?_
      refine k_getN (kf := 0) (v := .int (iI (σ 1 0))) dX0_settle_14 kcX5 w_133 (by decide) (by decide) (s_1 hsh) rfl rfl ?_
      refine k_icmp_ge (tgt := 26) dX0_settle_17 rfl ⟨by omega, by omega⟩ ⟨by omega, by omega⟩ (fun h_2 => ?_) (fun h_2 => absurd h_2 (by omega))
      refine k_aload_n dX0_settle_26 0 rfl rfl (by decide) ?_
      refine k_iload_n dX0_settle_27 2 rfl rfl ?_
      refine k_putf (kf := 5) dX0_settle_28 kcX0 w_242 (by decide) (by decide) (s_18 hsh) rfl rfl rfl rfl ?_
      refine k_aload_n dX0_settle_31 0 rfl rfl (by decide) ?_
      refine k_get (kf := 2) (v := .ref 20) dX0_settle_32 kcX0 w_239 (by decide) (by decide) (s_18 hsh) rfl rfl ?_
      refine k_aload_n dX0_settle_35 0 rfl rfl (by decide) ?_
      refine k_get (kf := 3) (v := .ref 21) dX0_settle_36 kcX0 w_240 (by decide) (by decide) (s_18 hsh) rfl rfl ?_
      refine k_callSNr (st := []) (as := [.ref 20, .ref 21]) dX0_settle_39 oX7_copyRow w_581 w_430 rfl (by omega) rfl (Nat.le_of_ble_eq_true rfl) (c_copyRow (w := 7) (by decide) (by decide) (s_20 hsh) (s_21 hsh) (by decide)) ?_
      exact k_retv dX0_settle_42 rfl (by unfold g_set; first | exact (congrArg (g_putA σ) (if_neg (show ¬ c < S.2.2.2 by omega))).symm | (rw [if_pos (show c < S.2.2.2 by omega)]; funext i; by_cases e18 : i = 18; (· subst e18; show k_u1 (k_u1 (σ 18) 5 S.2.2.2) 5 c = k_u1 (σ 18) 5 c; funext j; unfold k_u1; split <;> rfl); by_cases e22 : i = 22; (· subst e22; rfl); by_cases e21 : i = 21; (· subst e21; rfl); by_cases e20 : i = 20; (· subst e20; rfl); simp [k_up, g_putA, e18, e22, e21, e20]))
    · exact k_retv dX0_settle_8 rfl (by unfold g_set; first | exact (congrArg (g_putA σ) (if_neg (show ¬ c < S.2.2.2 by omega))).symm | (rw [if_pos (show c < S.2.2.2 by omega)]; funext i; by_cases e18 : i = 18; (· subst e18; show k_u1 (k_u1 (σ 18) 5 S.2.2.2) 5 c = k_u1 (σ 18) 5 c; funext j; unfold k_u1; split <;> rfl); by_cases e22 : i = 22; (· subst e22; rfl); by_cases e21 : i = 21; (· subst e21; rfl); by_cases e20 : i = 20; (· subst e20; rfl); simp [k_up, g_putA, e18, e22, e21, e20]))
  | succ n IH =>
    intro hm c S hc hS
    have hf := hS.2.2.2
    have IH := IH (by omega)
    refine k_C_of (ls0 := [(0, .ref 18), (1, .int (iI (σ 1 0 - ((n + 1 : Nat) : Int)))), (2, .int (iI c))]) rfl pnX0 (fun v hv => k_cat1 rfl hv) (Nat.le_of_ble_eq_true rfl) rfl ?_
    refine k_iload_n dX0_settle_0 2 rfl rfl ?_
    refine k_aload_n dX0_settle_1 0 rfl rfl (by decide) ?_
    refine k_get (kf := 5) (v := .int (iI (S.2.2.2))) dX0_settle_2 kcX0 w_242 (by decide) (by decide) (s_18 hsh) rfl rfl ?_
    refine k_icmp_lt (tgt := 9) dX0_settle_5 rfl ⟨by omega, by omega⟩ ⟨by omega, by omega⟩ (fun h_1 => ?_) (fun h_1 => ?_)
    · refine k_iload_n dX0_settle_9 1 rfl rfl ?_
      refine k_aload_n dX0_settle_10 0 rfl rfl (by decide) ?_
      refine k_get (kf := 0) (v := .ref 1) dX0_settle_11 kcX0 w_237 (by decide) (by decide) (s_18 hsh) rfl rfl ?_
      refine k_getN (kf := 0) (v := .int (iI (σ 1 0))) dX0_settle_14 kcX5 w_133 (by decide) (by decide) (s_1 hsh) rfl rfl ?_
      refine k_icmp_ge (tgt := 26) dX0_settle_17 rfl ⟨by omega, by omega⟩ ⟨by omega, by omega⟩ (fun h_2 => absurd h_2 (by omega)) (fun h_2 => ?_)
      refine k_iload_n dX0_settle_20 1 rfl rfl ?_
      refine k_bipush (v := 7) dX0_settle_21 (by decide) ?_
      refine k_icmp_lt (tgt := 43) dX0_settle_23 rfl ⟨by omega, by omega⟩ ⟨by decide, by decide⟩ (fun h_3 => ?_) (fun h_3 => absurd h_3 (by omega))
      refine k_aload_n dX0_settle_43 0 rfl rfl (by decide) ?_
      refine k_iload_n dX0_settle_44 1 rfl rfl ?_
      refine k_callVr (st := []) (as := [.int (iI (σ 1 0 - ((n + 1 : Nat) : Int)))]) dX0_settle_45 oX0_weigh w_582 w_584 w_6 rfl (by omega) rfl (Nat.le_of_ble_eq_true rfl) (by decide) (s_18 hsh) rfl (c_weigh hsh ⟨by omega, by omega⟩ ⟨hcm, hS.1, hS.2.1, hS.2.2.1⟩ ⟨by omega, by omega⟩) ?_
      refine k_iconst (v := 0) dX0_settle_48 rfl ?_
      refine k_istore_n (ls' := [(0, .ref 18), (1, .int (iI (σ 1 0 - ((n + 1 : Nat) : Int)))), (2, .int (iI (c))), (3, .int (iI (0)))]) dX0_settle_49 rfl (by decide) rfl rfl ?_
      refine k_eqσ (σ' := (g_putA σ (k_fold 0 (fun b T => g_set (σ 19) (σ 1 0) (σ 1 1).toNat n (c + T.2.2.1 ((σ 1 0 - ((n + 1 : Nat) : Int)) * 4 + (b : Int)).toNat) (k_u1 T.1 (σ 1 0 - ((n + 1 : Nat) : Int)).toNat (b : Int), T.2)) (S.1, S.2.1, g_weigh (σ 19) S.1 (σ 1 0 - ((n + 1 : Nat) : Int)) S.2.2.1, S.2.2.2)))) (by funext i; by_cases e18 : i = 18; (· subst e18; rfl); by_cases e22 : i = 22; (· subst e22; rfl); by_cases e21 : i = 21; (· subst e21; rfl); by_cases e20 : i = 20; (· subst e20; rfl); simp [k_up, g_putA, k_fold, e18, e22, e21, e20]) ?_
      refine k_down (P := fun i50 : Nat => k_V E mX0_settle _ 50 [(0, .ref 18), (1, .int (iI (σ 1 0 - ((n + 1 : Nat) : Int)))), (2, .int (iI (c))), (3, .int (iI ((i50 : Int))))] [] sh (g_putA σ (k_fold i50 (fun b T => g_set (σ 19) (σ 1 0) (σ 1 1).toNat n (c + T.2.2.1 ((σ 1 0 - ((n + 1 : Nat) : Int)) * 4 + (b : Int)).toNat) (k_u1 T.1 (σ 1 0 - ((n + 1 : Nat) : Int)).toNat (b : Int), T.2)) (S.1, S.2.1, g_weigh (σ 19) S.1 (σ 1 0 - ((n + 1 : Nat) : Int)) S.2.2.1, S.2.2.2))) _ _ _) ((σ 1 1).toNat) ?_ ?_
      · skip
        have hT : g_bOk (k_fold ((σ 1 1).toNat) (fun b T => g_set (σ 19) (σ 1 0) (σ 1 1).toNat n (c + T.2.2.1 ((σ 1 0 - ((n + 1 : Nat) : Int)) * 4 + (b : Int)).toNat) (k_u1 T.1 (σ 1 0 - ((n + 1 : Nat) : Int)).toNat (b : Int), T.2)) (S.1, S.2.1, g_weigh (σ 19) S.1 (σ 1 0 - ((n + 1 : Nat) : Int)) S.2.2.1, S.2.2.2)) := g_setF hcm (by omega) (by omega) (by omega) (by omega) hS ((σ 1 1).toNat) (by omega)
        have hTa := hT.2.2.1 ((σ 1 0 - ((n + 1 : Nat) : Int)) * 4 + (((σ 1 1).toNat) : Int)).toNat
        refine k_iload_n dX0_settle_50 3 rfl rfl ?_
        refine k_aload_n dX0_settle_51 0 rfl rfl (by decide) ?_
        refine k_get (kf := 0) (v := .ref 1) dX0_settle_52 kcX0 w_237 (by decide) (by decide) (s_18 hsh) rfl rfl ?_
        refine k_getN (kf := 1) (v := .int (iI (σ 1 1))) dX0_settle_55 kcX5 w_137 (by decide) (by decide) (s_1 hsh) rfl rfl ?_
        refine k_icmp_ge (tgt := 97) dX0_settle_58 rfl ⟨by omega, by omega⟩ ⟨by omega, by omega⟩ (fun h_4 => ?_) (fun h_4 => absurd h_4 (by omega))
        exact k_retv dX0_settle_97 rfl (by first | exact (congrArg (g_putA σ) (if_neg (show ¬ c < S.2.2.2 by omega))).symm | exact (congrArg (g_putA σ) (if_pos (show c < S.2.2.2 by omega))).symm)
      · intro i50 hi50 ih50
        have hT : g_bOk (k_fold i50 (fun b T => g_set (σ 19) (σ 1 0) (σ 1 1).toNat n (c + T.2.2.1 ((σ 1 0 - ((n + 1 : Nat) : Int)) * 4 + (b : Int)).toNat) (k_u1 T.1 (σ 1 0 - ((n + 1 : Nat) : Int)).toNat (b : Int), T.2)) (S.1, S.2.1, g_weigh (σ 19) S.1 (σ 1 0 - ((n + 1 : Nat) : Int)) S.2.2.1, S.2.2.2)) := g_setF hcm (by omega) (by omega) (by omega) (by omega) hS i50 (by omega)
        have hTa := hT.2.2.1 ((σ 1 0 - ((n + 1 : Nat) : Int)) * 4 + (i50 : Int)).toNat
        refine k_iload_n dX0_settle_50 3 rfl rfl ?_
        refine k_aload_n dX0_settle_51 0 rfl rfl (by decide) ?_
        refine k_get (kf := 0) (v := .ref 1) dX0_settle_52 kcX0 w_237 (by decide) (by decide) (s_18 hsh) rfl rfl ?_
        refine k_getN (kf := 1) (v := .int (iI (σ 1 1))) dX0_settle_55 kcX5 w_137 (by decide) (by decide) (s_1 hsh) rfl rfl ?_
        refine k_icmp_ge (tgt := 97) dX0_settle_58 rfl ⟨by omega, by omega⟩ ⟨by omega, by omega⟩ (fun h_5 => absurd h_5 (by omega)) (fun h_5 => ?_)
        refine k_aload_n dX0_settle_61 0 rfl rfl (by decide) ?_
        refine k_get (kf := 2) (v := .ref 20) dX0_settle_62 kcX0 w_239 (by decide) (by decide) (s_18 hsh) rfl rfl ?_
        refine k_iload_n dX0_settle_65 1 rfl rfl ?_
        refine k_iload_n dX0_settle_66 3 rfl rfl ?_
        refine k_callSNr (st := []) (as := [.ref 20, .int (iI (σ 1 0 - ((n + 1 : Nat) : Int))), .int (iI ((i50 : Int)))]) dX0_settle_67 oX7_write w_570 w_498 rfl (by omega) rfl (Nat.le_of_ble_eq_true rfl) (c_writeIn (by decide) (s_20 hsh) (by decide) (by omega) (by omega)) ?_
        refine k_eqσ (σ' := (g_putA σ (k_u1 (k_fold i50 (fun b T => g_set (σ 19) (σ 1 0) (σ 1 1).toNat n (c + T.2.2.1 ((σ 1 0 - ((n + 1 : Nat) : Int)) * 4 + (b : Int)).toNat) (k_u1 T.1 (σ 1 0 - ((n + 1 : Nat) : Int)).toNat (b : Int), T.2)) (S.1, S.2.1, g_weigh (σ 19) S.1 (σ 1 0 - ((n + 1 : Nat) : Int)) S.2.2.1, S.2.2.2)).1 (σ 1 0 - ((n + 1 : Nat) : Int)).toNat (i50 : Int), (k_fold i50 (fun b T => g_set (σ 19) (σ 1 0) (σ 1 1).toNat n (c + T.2.2.1 ((σ 1 0 - ((n + 1 : Nat) : Int)) * 4 + (b : Int)).toNat) (k_u1 T.1 (σ 1 0 - ((n + 1 : Nat) : Int)).toNat (b : Int), T.2)) (S.1, S.2.1, g_weigh (σ 19) S.1 (σ 1 0 - ((n + 1 : Nat) : Int)) S.2.2.1, S.2.2.2)).2))) (by funext i; by_cases e18 : i = 18; (· subst e18; rfl); by_cases e22 : i = 22; (· subst e22; rfl); by_cases e21 : i = 21; (· subst e21; rfl); by_cases e20 : i = 20; (· subst e20; rfl); simp [k_up, g_putA, e18, e22, e21, e20]) ?_
        refine k_aload_n dX0_settle_70 0 rfl rfl (by decide) ?_
        refine k_iload_n dX0_settle_71 1 rfl rfl ?_
        refine k_iconst (v := 1) dX0_settle_72 rfl ?_
        refine k_iadd dX0_settle_73 ?_
        refine k_eqst (congrArg (fun z : Int => Value.int (iI z) :: [.ref 18]) (show σ 1 0 - (n : Int) = (σ 1 0 - ((n + 1 : Nat) : Int)) + 1 from by omega)) ?_
        refine k_iload_n dX0_settle_74 2 rfl rfl ?_
        refine k_aload_n dX0_settle_75 0 rfl rfl (by decide) ?_
        refine k_get (kf := 4) (v := .ref 22) dX0_settle_76 kcX0 w_241 (by decide) (by decide) (s_18 hsh) rfl rfl ?_
        refine k_iload_n dX0_settle_79 1 rfl rfl ?_
        refine k_iconst (v := 4) dX0_settle_80 rfl ?_
        refine k_imul dX0_settle_81 ?_
        refine k_iload_n dX0_settle_82 3 rfl rfl ?_
        refine k_iadd dX0_settle_83 ?_
        refine k_callSNr (st := [.int (iI (c)), .int (iI (σ 1 0 - (n : Int))), .ref 18]) (as := [.ref 22, .int (iI (((σ 1 0 - ((n + 1 : Nat) : Int)) * 4) + ((i50 : Int))))]) dX0_settle_84 oX7_read w_577 w_460 rfl (by omega) rfl (Nat.le_of_ble_eq_true rfl) (c_readIn (by decide) (s_22 hsh) (by decide) (by omega) (by omega)) ?_
        refine k_eqst (congrArg (fun z : Int => Value.int (iI z) :: [.int (iI (c)), .int (iI (σ 1 0 - (n : Int))), .ref 18]) (show (k_fold i50 (fun b T => g_set (σ 19) (σ 1 0) (σ 1 1).toNat n (c + T.2.2.1 ((σ 1 0 - ((n + 1 : Nat) : Int)) * 4 + (b : Int)).toNat) (k_u1 T.1 (σ 1 0 - ((n + 1 : Nat) : Int)).toNat (b : Int), T.2)) (S.1, S.2.1, g_weigh (σ 19) S.1 (σ 1 0 - ((n + 1 : Nat) : Int)) S.2.2.1, S.2.2.2)).2.2.1 ((σ 1 0 - ((n + 1 : Nat) : Int)) * 4 + (i50 : Int)).toNat = (g_putA σ (k_u1 (k_fold i50 (fun b T => g_set (σ 19) (σ 1 0) (σ 1 1).toNat n (c + T.2.2.1 ((σ 1 0 - ((n + 1 : Nat) : Int)) * 4 + (b : Int)).toNat) (k_u1 T.1 (σ 1 0 - ((n + 1 : Nat) : Int)).toNat (b : Int), T.2)) (S.1, S.2.1, g_weigh (σ 19) S.1 (σ 1 0 - ((n + 1 : Nat) : Int)) S.2.2.1, S.2.2.2)).1 (σ 1 0 - ((n + 1 : Nat) : Int)).toNat (i50 : Int), (k_fold i50 (fun b T => g_set (σ 19) (σ 1 0) (σ 1 1).toNat n (c + T.2.2.1 ((σ 1 0 - ((n + 1 : Nat) : Int)) * 4 + (b : Int)).toNat) (k_u1 T.1 (σ 1 0 - ((n + 1 : Nat) : Int)).toNat (b : Int), T.2)) (S.1, S.2.1, g_weigh (σ 19) S.1 (σ 1 0 - ((n + 1 : Nat) : Int)) S.2.2.1, S.2.2.2)).2)) 22 (((σ 1 0 - ((n + 1 : Nat) : Int)) * 4) + ((i50 : Int))).toNat from rfl)) ?_
        refine k_iadd dX0_settle_87 ?_
        refine k_callSr (st := []) (as := [.ref 18, .int (iI (σ 1 0 - (n : Int))), .int (iI (c + ((k_fold i50 (fun b T => g_set (σ 19) (σ 1 0) (σ 1 1).toNat n (c + T.2.2.1 ((σ 1 0 - ((n + 1 : Nat) : Int)) * 4 + (b : Int)).toNat) (k_u1 T.1 (σ 1 0 - ((n + 1 : Nat) : Int)).toNat (b : Int), T.2)) (S.1, S.2.1, g_weigh (σ 19) S.1 (σ 1 0 - ((n + 1 : Nat) : Int)) S.2.2.1, S.2.2.2)).2.2.1 ((σ 1 0 - ((n + 1 : Nat) : Int)) * 4 + (i50 : Int)).toNat)))]) dX0_settle_88 oX0_settle w_578 w_579 rfl (by omega) rfl (Nat.le_of_ble_eq_true rfl) (IH _ _ (by omega) ⟨g_u1_r hT.1 ⟨by omega, by omega⟩, hT.2⟩) ?_
        refine k_iinc (ls' := [(0, .ref 18), (1, .int (iI (σ 1 0 - ((n + 1 : Nat) : Int)))), (2, .int (iI (c))), (3, .int (iI ((i50 : Int) + 1)))]) dX0_settle_91 3 rfl (by decide) rfl rfl ?_
        refine k_goto (tgt := 50) dX0_settle_94 rfl ?_
        exact ih50
    · exact k_retv dX0_settle_8 rfl (by first | exact (congrArg (g_putA σ) (if_neg (show ¬ c < S.2.2.2 by omega))).symm | exact (congrArg (g_putA σ) (if_pos (show c < S.2.2.2 by omega))).symm)
theorem g_tryF {cm : Nat → Int} {N c : Int} {B n : Nat} {S : g_B} (hcm : ∀ j, 0 ≤ cm j ∧ cm j ≤ 12) (hN : N ≤ 7) (hB : B ≤ 4) (hn : ((n + 1 : Nat) : Int) ≤ N) (hc : 0 ≤ c ∧ c ≤ 84 * (N - ((n + 1 : Nat) : Int))) (h : g_bOk S) (m : Nat) (hm : m ≤ B) : (0 ≤ (k_fold m (fun b T => (z_min T.1 (g_try (cm) (N) B n (c + T.2.2.2.1 ((N - ((n + 1 : Nat) : Int)) * 4 + (b : Int)).toNat) (k_u1 T.2.1 (N - ((n + 1 : Nat) : Int)).toNat (b : Int), T.2.2)).1, (g_try (cm) (N) B n (c + T.2.2.2.1 ((N - ((n + 1 : Nat) : Int)) * 4 + (b : Int)).toNat) (k_u1 T.2.1 (N - ((n + 1 : Nat) : Int)).toNat (b : Int), T.2.2)).2)) (37, (S.1, S.2.1, g_weigh (cm) S.1 (N - ((n + 1 : Nat) : Int)) S.2.2.1, S.2.2.2))).1 ∧ (k_fold m (fun b T => (z_min T.1 (g_try (cm) (N) B n (c + T.2.2.2.1 ((N - ((n + 1 : Nat) : Int)) * 4 + (b : Int)).toNat) (k_u1 T.2.1 (N - ((n + 1 : Nat) : Int)).toNat (b : Int), T.2.2)).1, (g_try (cm) (N) B n (c + T.2.2.2.1 ((N - ((n + 1 : Nat) : Int)) * 4 + (b : Int)).toNat) (k_u1 T.2.1 (N - ((n + 1 : Nat) : Int)).toNat (b : Int), T.2.2)).2)) (37, (S.1, S.2.1, g_weigh (cm) S.1 (N - ((n + 1 : Nat) : Int)) S.2.2.1, S.2.2.2))).1 ≤ 2147483647) ∧ g_bOk (k_fold m (fun b T => (z_min T.1 (g_try (cm) (N) B n (c + T.2.2.2.1 ((N - ((n + 1 : Nat) : Int)) * 4 + (b : Int)).toNat) (k_u1 T.2.1 (N - ((n + 1 : Nat) : Int)).toNat (b : Int), T.2.2)).1, (g_try (cm) (N) B n (c + T.2.2.2.1 ((N - ((n + 1 : Nat) : Int)) * 4 + (b : Int)).toNat) (k_u1 T.2.1 (N - ((n + 1 : Nat) : Int)).toNat (b : Int), T.2.2)).2)) (37, (S.1, S.2.1, g_weigh (cm) S.1 (N - ((n + 1 : Nat) : Int)) S.2.2.1, S.2.2.2))).2 := by
  refine k_fold_invL (P := fun T : Int × g_B => (0 ≤ T.1 ∧ T.1 ≤ 2147483647) ∧ g_bOk T.2) (by exact ⟨⟨(by decide : (0 : Int) ≤ 37), (by decide : (37 : Int) ≤ 2147483647)⟩, h.1, h.2.1, g_weigh_r ⟨by omega, by omega⟩ hcm h.1 h.2.2.1, h.2.2.2⟩) m (fun b hb T hT => ?_)
  have h1 := hT.2.2.2.1 ((N - ((n + 1 : Nat) : Int)) * 4 + (b : Int)).toNat
  have h2 := g_try_ok hcm hN hB n (c + T.2.2.2.1 ((N - ((n + 1 : Nat) : Int)) * 4 + (b : Int)).toNat) (k_u1 T.2.1 (N - ((n + 1 : Nat) : Int)).toNat (b : Int), T.2.2) (by omega) ⟨by omega, by omega⟩ ⟨g_u1_r hT.2.1 ⟨by omega, by omega⟩, hT.2.2⟩
  exact ⟨z_min_r hT.1 h2.1, h2.2⟩
set_option maxHeartbeats 4000000 in
theorem c_tryAll (hsh : k_Main sh) (hI : k_Ty σ) (hcm : ∀ j, 0 ≤ σ 19 j ∧ σ 19 j ≤ 12) : ∀ m : Nat, (m : Int) ≤ σ 1 0 → ∀ (c : Int) (S : g_B), (0 ≤ c ∧ c ≤ 84 * (σ 1 0 - (m : Int))) → g_bOk S → k_C E mX0_tryAll (m + 3) [.ref 18, .int (iI (σ 1 0 - (m : Int))), .int (iI c)] sh (g_putA σ S) 0 0 (k_ret (some (.int (iI ((g_try (σ 19) (σ 1 0) (σ 1 1).toNat m c S).1)))) sh (g_putA σ (g_try (σ 19) (σ 1 0) (σ 1 1).toNat m c S).2)) := by
  obtain ⟨t0, t1, t2, t3, t4, t5, t6, t7, t8, t9, t10, t11⟩ := id hI
  intro m
  induction m with
  | zero =>
    intro hm c S hc hS
    refine k_C_of (ls0 := [(0, .ref 18), (1, .int (iI (σ 1 0 - ((0 : Nat) : Int)))), (2, .int (iI c))]) rfl pnX0 (fun v hv => k_cat1 rfl hv) (Nat.le_of_ble_eq_true rfl) rfl ?_
    refine k_iload_n dX0_tryAll_0 1 rfl rfl ?_
    refine k_aload_n dX0_tryAll_1 0 rfl rfl (by decide) ?_
    refine k_get (kf := 0) (v := .ref 1) dX0_tryAll_2 kcX0 w_237 (by decide) (by decide) (s_18 hsh) rfl rfl ?_
    refine k_getN (kf := 0) (v := .int (iI (σ 1 0))) dX0_tryAll_5 kcX5 w_133 (by decide) (by decide) (s_1 hsh) rfl rfl ?_
    refine k_icmp_ge (tgt := 17) dX0_tryAll_8 rfl ⟨by omega, by omega⟩ ⟨by omega, by omega⟩ (fun h_1 => ?_) (fun h_1 => absurd h_1 (by omega))
    refine k_iload_n dX0_tryAll_17 2 rfl rfl ?_
    exact k_reti dX0_tryAll_18 rfl rfl (by rfl)
  | succ n IH =>
    intro hm c S hc hS
    have IH := IH (by omega)
    refine k_C_of (ls0 := [(0, .ref 18), (1, .int (iI (σ 1 0 - ((n + 1 : Nat) : Int)))), (2, .int (iI c))]) rfl pnX0 (fun v hv => k_cat1 rfl hv) (Nat.le_of_ble_eq_true rfl) rfl ?_
    refine k_iload_n dX0_tryAll_0 1 rfl rfl ?_
    refine k_aload_n dX0_tryAll_1 0 rfl rfl (by decide) ?_
    refine k_get (kf := 0) (v := .ref 1) dX0_tryAll_2 kcX0 w_237 (by decide) (by decide) (s_18 hsh) rfl rfl ?_
    refine k_getN (kf := 0) (v := .int (iI (σ 1 0))) dX0_tryAll_5 kcX5 w_133 (by decide) (by decide) (s_1 hsh) rfl rfl ?_
    refine k_icmp_ge (tgt := 17) dX0_tryAll_8 rfl ⟨by omega, by omega⟩ ⟨by omega, by omega⟩ (fun h_1 => absurd h_1 (by omega)) (fun h_1 => ?_)
    refine k_iload_n dX0_tryAll_11 1 rfl rfl ?_
    refine k_bipush (v := 7) dX0_tryAll_12 (by decide) ?_
    refine k_icmp_lt (tgt := 19) dX0_tryAll_14 rfl ⟨by omega, by omega⟩ ⟨by decide, by decide⟩ (fun h_2 => ?_) (fun h_2 => absurd h_2 (by omega))
    refine k_aload_n dX0_tryAll_19 0 rfl rfl (by decide) ?_
    refine k_iload_n dX0_tryAll_20 1 rfl rfl ?_
    refine k_callVr (st := []) (as := [.int (iI (σ 1 0 - ((n + 1 : Nat) : Int)))]) dX0_tryAll_21 oX0_weigh w_582 w_584 w_6 rfl (by omega) rfl (Nat.le_of_ble_eq_true rfl) (by decide) (s_18 hsh) rfl (c_weigh hsh ⟨by omega, by omega⟩ ⟨hcm, hS.1, hS.2.1, hS.2.2.1⟩ ⟨by omega, by omega⟩) ?_
    refine k_bipush (v := 37) dX0_tryAll_24 (by decide) ?_
    refine k_eqst (st' := [.int (iI 37)]) rfl ?_
    refine k_istore_n (ls' := [(0, .ref 18), (1, .int (iI (σ 1 0 - ((n + 1 : Nat) : Int)))), (2, .int (iI (c))), (3, .int (iI (37)))]) dX0_tryAll_26 rfl (by decide) rfl rfl ?_
    refine k_iconst (v := 0) dX0_tryAll_27 rfl ?_
    refine k_istore (ls' := [(0, .ref 18), (1, .int (iI (σ 1 0 - ((n + 1 : Nat) : Int)))), (2, .int (iI (c))), (3, .int (iI (37))), (4, .int (iI (0)))]) dX0_tryAll_28 (by decide) rfl rfl ?_
    refine k_eqσ (σ' := (g_putA σ (k_fold 0 (fun b T => (z_min T.1 (g_try (σ 19) (σ 1 0) (σ 1 1).toNat n (c + T.2.2.2.1 ((σ 1 0 - ((n + 1 : Nat) : Int)) * 4 + (b : Int)).toNat) (k_u1 T.2.1 (σ 1 0 - ((n + 1 : Nat) : Int)).toNat (b : Int), T.2.2)).1, (g_try (σ 19) (σ 1 0) (σ 1 1).toNat n (c + T.2.2.2.1 ((σ 1 0 - ((n + 1 : Nat) : Int)) * 4 + (b : Int)).toNat) (k_u1 T.2.1 (σ 1 0 - ((n + 1 : Nat) : Int)).toNat (b : Int), T.2.2)).2)) (37, (S.1, S.2.1, g_weigh (σ 19) S.1 (σ 1 0 - ((n + 1 : Nat) : Int)) S.2.2.1, S.2.2.2))).2)) (by funext i; by_cases e18 : i = 18; (· subst e18; rfl); by_cases e22 : i = 22; (· subst e22; rfl); by_cases e21 : i = 21; (· subst e21; rfl); by_cases e20 : i = 20; (· subst e20; rfl); simp [k_up, g_putA, k_fold, e18, e22, e21, e20]) ?_
    refine k_down (P := fun i30 : Nat => k_V E mX0_tryAll _ 30 [(0, .ref 18), (1, .int (iI (σ 1 0 - ((n + 1 : Nat) : Int)))), (2, .int (iI (c))), (3, .int (iI ((k_fold i30 (fun b T => (z_min T.1 (g_try (σ 19) (σ 1 0) (σ 1 1).toNat n (c + T.2.2.2.1 ((σ 1 0 - ((n + 1 : Nat) : Int)) * 4 + (b : Int)).toNat) (k_u1 T.2.1 (σ 1 0 - ((n + 1 : Nat) : Int)).toNat (b : Int), T.2.2)).1, (g_try (σ 19) (σ 1 0) (σ 1 1).toNat n (c + T.2.2.2.1 ((σ 1 0 - ((n + 1 : Nat) : Int)) * 4 + (b : Int)).toNat) (k_u1 T.2.1 (σ 1 0 - ((n + 1 : Nat) : Int)).toNat (b : Int), T.2.2)).2)) (37, (S.1, S.2.1, g_weigh (σ 19) S.1 (σ 1 0 - ((n + 1 : Nat) : Int)) S.2.2.1, S.2.2.2))).1))), (4, .int (iI ((i30 : Int))))] [] sh (g_putA σ (k_fold i30 (fun b T => (z_min T.1 (g_try (σ 19) (σ 1 0) (σ 1 1).toNat n (c + T.2.2.2.1 ((σ 1 0 - ((n + 1 : Nat) : Int)) * 4 + (b : Int)).toNat) (k_u1 T.2.1 (σ 1 0 - ((n + 1 : Nat) : Int)).toNat (b : Int), T.2.2)).1, (g_try (σ 19) (σ 1 0) (σ 1 1).toNat n (c + T.2.2.2.1 ((σ 1 0 - ((n + 1 : Nat) : Int)) * 4 + (b : Int)).toNat) (k_u1 T.2.1 (σ 1 0 - ((n + 1 : Nat) : Int)).toNat (b : Int), T.2.2)).2)) (37, (S.1, S.2.1, g_weigh (σ 19) S.1 (σ 1 0 - ((n + 1 : Nat) : Int)) S.2.2.1, S.2.2.2))).2) _ _ _) ((σ 1 1).toNat) ?_ ?_
    · skip
      have hR := g_tryF (B := (σ 1 1).toNat) (n := n) hcm (by omega) (by omega) (by omega) hc hS ((σ 1 1).toNat) (by omega)
      have hT := hR.2
      have hR1 := hR.1
      have hTa := hT.2.2.1 ((σ 1 0 - ((n + 1 : Nat) : Int)) * 4 + (((σ 1 1).toNat) : Int)).toNat
      refine k_iload dX0_tryAll_30 4 rfl ?_
      refine k_aload_n dX0_tryAll_32 0 rfl rfl (by decide) ?_
      refine k_get (kf := 0) (v := .ref 1) dX0_tryAll_33 kcX0 w_237 (by decide) (by decide) (s_18 hsh) rfl rfl ?_
      refine k_getN (kf := 1) (v := .int (iI (σ 1 1))) dX0_tryAll_36 kcX5 w_137 (by decide) (by decide) (s_1 hsh) rfl rfl ?_
      refine k_icmp_ge (tgt := 89) dX0_tryAll_39 rfl ⟨by omega, by omega⟩ ⟨by omega, by omega⟩ (fun h_3 => ?_) (fun h_3 => absurd h_3 (by omega))
      refine k_iload_n dX0_tryAll_89 3 rfl rfl ?_
      exact k_reti dX0_tryAll_90 rfl rfl (by rfl)
    · intro i30 hi30 ih30
      have hR := g_tryF (B := (σ 1 1).toNat) (n := n) hcm (by omega) (by omega) (by omega) hc hS i30 (by omega)
      have hT := hR.2
      have hR1 := hR.1
      have hTa := hT.2.2.1 ((σ 1 0 - ((n + 1 : Nat) : Int)) * 4 + (i30 : Int)).toNat
      have hR2 := (g_try_ok hcm (N := σ 1 0) (B := (σ 1 1).toNat) (by omega) (by omega) n (c + (k_fold i30 (fun b T => (z_min T.1 (g_try (σ 19) (σ 1 0) (σ 1 1).toNat n (c + T.2.2.2.1 ((σ 1 0 - ((n + 1 : Nat) : Int)) * 4 + (b : Int)).toNat) (k_u1 T.2.1 (σ 1 0 - ((n + 1 : Nat) : Int)).toNat (b : Int), T.2.2)).1, (g_try (σ 19) (σ 1 0) (σ 1 1).toNat n (c + T.2.2.2.1 ((σ 1 0 - ((n + 1 : Nat) : Int)) * 4 + (b : Int)).toNat) (k_u1 T.2.1 (σ 1 0 - ((n + 1 : Nat) : Int)).toNat (b : Int), T.2.2)).2)) (37, (S.1, S.2.1, g_weigh (σ 19) S.1 (σ 1 0 - ((n + 1 : Nat) : Int)) S.2.2.1, S.2.2.2))).2.2.2.1 ((σ 1 0 - ((n + 1 : Nat) : Int)) * 4 + (i30 : Int)).toNat) (k_u1 (k_fold i30 (fun b T => (z_min T.1 (g_try (σ 19) (σ 1 0) (σ 1 1).toNat n (c + T.2.2.2.1 ((σ 1 0 - ((n + 1 : Nat) : Int)) * 4 + (b : Int)).toNat) (k_u1 T.2.1 (σ 1 0 - ((n + 1 : Nat) : Int)).toNat (b : Int), T.2.2)).1, (g_try (σ 19) (σ 1 0) (σ 1 1).toNat n (c + T.2.2.2.1 ((σ 1 0 - ((n + 1 : Nat) : Int)) * 4 + (b : Int)).toNat) (k_u1 T.2.1 (σ 1 0 - ((n + 1 : Nat) : Int)).toNat (b : Int), T.2.2)).2)) (37, (S.1, S.2.1, g_weigh (σ 19) S.1 (σ 1 0 - ((n + 1 : Nat) : Int)) S.2.2.1, S.2.2.2))).2.1 (σ 1 0 - ((n + 1 : Nat) : Int)).toNat (i30 : Int), (k_fold i30 (fun b T => (z_min T.1 (g_try (σ 19) (σ 1 0) (σ 1 1).toNat n (c + T.2.2.2.1 ((σ 1 0 - ((n + 1 : Nat) : Int)) * 4 + (b : Int)).toNat) (k_u1 T.2.1 (σ 1 0 - ((n + 1 : Nat) : Int)).toNat (b : Int), T.2.2)).1, (g_try (σ 19) (σ 1 0) (σ 1 1).toNat n (c + T.2.2.2.1 ((σ 1 0 - ((n + 1 : Nat) : Int)) * 4 + (b : Int)).toNat) (k_u1 T.2.1 (σ 1 0 - ((n + 1 : Nat) : Int)).toNat (b : Int), T.2.2)).2)) (37, (S.1, S.2.1, g_weigh (σ 19) S.1 (σ 1 0 - ((n + 1 : Nat) : Int)) S.2.2.1, S.2.2.2))).2.2) (by omega) ⟨by omega, by omega⟩ ⟨g_u1_r hT.1 ⟨by omega, by omega⟩, hT.2⟩).1
      refine k_iload dX0_tryAll_30 4 rfl ?_
      refine k_aload_n dX0_tryAll_32 0 rfl rfl (by decide) ?_
      refine k_get (kf := 0) (v := .ref 1) dX0_tryAll_33 kcX0 w_237 (by decide) (by decide) (s_18 hsh) rfl rfl ?_
      refine k_getN (kf := 1) (v := .int (iI (σ 1 1))) dX0_tryAll_36 kcX5 w_137 (by decide) (by decide) (s_1 hsh) rfl rfl ?_
      refine k_icmp_ge (tgt := 89) dX0_tryAll_39 rfl ⟨by omega, by omega⟩ ⟨by omega, by omega⟩ (fun h_4 => absurd h_4 (by omega)) (fun h_4 => ?_)
      refine k_aload_n dX0_tryAll_42 0 rfl rfl (by decide) ?_
      refine k_get (kf := 2) (v := .ref 20) dX0_tryAll_43 kcX0 w_239 (by decide) (by decide) (s_18 hsh) rfl rfl ?_
      refine k_iload_n dX0_tryAll_46 1 rfl rfl ?_
      refine k_iload dX0_tryAll_47 4 rfl ?_
      refine k_callSNr (st := []) (as := [.ref 20, .int (iI (σ 1 0 - ((n + 1 : Nat) : Int))), .int (iI ((i30 : Int)))]) dX0_tryAll_49 oX7_write w_570 w_498 rfl (by omega) rfl (Nat.le_of_ble_eq_true rfl) (c_writeIn (by decide) (s_20 hsh) (by decide) (by omega) (by omega)) ?_
      refine k_eqσ (σ' := (g_putA σ (k_u1 (k_fold i30 (fun b T => (z_min T.1 (g_try (σ 19) (σ 1 0) (σ 1 1).toNat n (c + T.2.2.2.1 ((σ 1 0 - ((n + 1 : Nat) : Int)) * 4 + (b : Int)).toNat) (k_u1 T.2.1 (σ 1 0 - ((n + 1 : Nat) : Int)).toNat (b : Int), T.2.2)).1, (g_try (σ 19) (σ 1 0) (σ 1 1).toNat n (c + T.2.2.2.1 ((σ 1 0 - ((n + 1 : Nat) : Int)) * 4 + (b : Int)).toNat) (k_u1 T.2.1 (σ 1 0 - ((n + 1 : Nat) : Int)).toNat (b : Int), T.2.2)).2)) (37, (S.1, S.2.1, g_weigh (σ 19) S.1 (σ 1 0 - ((n + 1 : Nat) : Int)) S.2.2.1, S.2.2.2))).2.1 (σ 1 0 - ((n + 1 : Nat) : Int)).toNat (i30 : Int), (k_fold i30 (fun b T => (z_min T.1 (g_try (σ 19) (σ 1 0) (σ 1 1).toNat n (c + T.2.2.2.1 ((σ 1 0 - ((n + 1 : Nat) : Int)) * 4 + (b : Int)).toNat) (k_u1 T.2.1 (σ 1 0 - ((n + 1 : Nat) : Int)).toNat (b : Int), T.2.2)).1, (g_try (σ 19) (σ 1 0) (σ 1 1).toNat n (c + T.2.2.2.1 ((σ 1 0 - ((n + 1 : Nat) : Int)) * 4 + (b : Int)).toNat) (k_u1 T.2.1 (σ 1 0 - ((n + 1 : Nat) : Int)).toNat (b : Int), T.2.2)).2)) (37, (S.1, S.2.1, g_weigh (σ 19) S.1 (σ 1 0 - ((n + 1 : Nat) : Int)) S.2.2.1, S.2.2.2))).2.2))) (by funext i; by_cases e18 : i = 18; (· subst e18; rfl); by_cases e22 : i = 22; (· subst e22; rfl); by_cases e21 : i = 21; (· subst e21; rfl); by_cases e20 : i = 20; (· subst e20; rfl); simp [k_up, g_putA, e18, e22, e21, e20]) ?_
      refine k_aload_n dX0_tryAll_52 0 rfl rfl (by decide) ?_
      refine k_get (kf := 4) (v := .ref 22) dX0_tryAll_53 kcX0 w_241 (by decide) (by decide) (s_18 hsh) rfl rfl ?_
      refine k_iload_n dX0_tryAll_56 1 rfl rfl ?_
      refine k_iconst (v := 4) dX0_tryAll_57 rfl ?_
      refine k_imul dX0_tryAll_58 ?_
      refine k_iload dX0_tryAll_59 4 rfl ?_
      refine k_iadd dX0_tryAll_61 ?_
      refine k_callSNr (st := []) (as := [.ref 22, .int (iI (((σ 1 0 - ((n + 1 : Nat) : Int)) * 4) + ((i30 : Int))))]) dX0_tryAll_62 oX7_read w_577 w_460 rfl (by omega) rfl (Nat.le_of_ble_eq_true rfl) (c_readIn (by decide) (s_22 hsh) (by decide) (by omega) (by omega)) ?_
      refine k_eqst (congrArg (fun z : Int => Value.int (iI z) :: []) (show (k_fold i30 (fun b T => (z_min T.1 (g_try (σ 19) (σ 1 0) (σ 1 1).toNat n (c + T.2.2.2.1 ((σ 1 0 - ((n + 1 : Nat) : Int)) * 4 + (b : Int)).toNat) (k_u1 T.2.1 (σ 1 0 - ((n + 1 : Nat) : Int)).toNat (b : Int), T.2.2)).1, (g_try (σ 19) (σ 1 0) (σ 1 1).toNat n (c + T.2.2.2.1 ((σ 1 0 - ((n + 1 : Nat) : Int)) * 4 + (b : Int)).toNat) (k_u1 T.2.1 (σ 1 0 - ((n + 1 : Nat) : Int)).toNat (b : Int), T.2.2)).2)) (37, (S.1, S.2.1, g_weigh (σ 19) S.1 (σ 1 0 - ((n + 1 : Nat) : Int)) S.2.2.1, S.2.2.2))).2.2.2.1 ((σ 1 0 - ((n + 1 : Nat) : Int)) * 4 + (i30 : Int)).toNat = (g_putA σ (k_u1 (k_fold i30 (fun b T => (z_min T.1 (g_try (σ 19) (σ 1 0) (σ 1 1).toNat n (c + T.2.2.2.1 ((σ 1 0 - ((n + 1 : Nat) : Int)) * 4 + (b : Int)).toNat) (k_u1 T.2.1 (σ 1 0 - ((n + 1 : Nat) : Int)).toNat (b : Int), T.2.2)).1, (g_try (σ 19) (σ 1 0) (σ 1 1).toNat n (c + T.2.2.2.1 ((σ 1 0 - ((n + 1 : Nat) : Int)) * 4 + (b : Int)).toNat) (k_u1 T.2.1 (σ 1 0 - ((n + 1 : Nat) : Int)).toNat (b : Int), T.2.2)).2)) (37, (S.1, S.2.1, g_weigh (σ 19) S.1 (σ 1 0 - ((n + 1 : Nat) : Int)) S.2.2.1, S.2.2.2))).2.1 (σ 1 0 - ((n + 1 : Nat) : Int)).toNat (i30 : Int), (k_fold i30 (fun b T => (z_min T.1 (g_try (σ 19) (σ 1 0) (σ 1 1).toNat n (c + T.2.2.2.1 ((σ 1 0 - ((n + 1 : Nat) : Int)) * 4 + (b : Int)).toNat) (k_u1 T.2.1 (σ 1 0 - ((n + 1 : Nat) : Int)).toNat (b : Int), T.2.2)).1, (g_try (σ 19) (σ 1 0) (σ 1 1).toNat n (c + T.2.2.2.1 ((σ 1 0 - ((n + 1 : Nat) : Int)) * 4 + (b : Int)).toNat) (k_u1 T.2.1 (σ 1 0 - ((n + 1 : Nat) : Int)).toNat (b : Int), T.2.2)).2)) (37, (S.1, S.2.1, g_weigh (σ 19) S.1 (σ 1 0 - ((n + 1 : Nat) : Int)) S.2.2.1, S.2.2.2))).2.2)) 22 (((σ 1 0 - ((n + 1 : Nat) : Int)) * 4) + ((i30 : Int))).toNat from rfl)) ?_
      refine k_istore (ls' := [(0, .ref 18), (1, .int (iI (σ 1 0 - ((n + 1 : Nat) : Int)))), (2, .int (iI (c))), (3, .int (iI ((k_fold i30 (fun b T => (z_min T.1 (g_try (σ 19) (σ 1 0) (σ 1 1).toNat n (c + T.2.2.2.1 ((σ 1 0 - ((n + 1 : Nat) : Int)) * 4 + (b : Int)).toNat) (k_u1 T.2.1 (σ 1 0 - ((n + 1 : Nat) : Int)).toNat (b : Int), T.2.2)).1, (g_try (σ 19) (σ 1 0) (σ 1 1).toNat n (c + T.2.2.2.1 ((σ 1 0 - ((n + 1 : Nat) : Int)) * 4 + (b : Int)).toNat) (k_u1 T.2.1 (σ 1 0 - ((n + 1 : Nat) : Int)).toNat (b : Int), T.2.2)).2)) (37, (S.1, S.2.1, g_weigh (σ 19) S.1 (σ 1 0 - ((n + 1 : Nat) : Int)) S.2.2.1, S.2.2.2))).1))), (4, .int (iI ((i30 : Int)))), (5, .int (iI ((k_fold i30 (fun b T => (z_min T.1 (g_try (σ 19) (σ 1 0) (σ 1 1).toNat n (c + T.2.2.2.1 ((σ 1 0 - ((n + 1 : Nat) : Int)) * 4 + (b : Int)).toNat) (k_u1 T.2.1 (σ 1 0 - ((n + 1 : Nat) : Int)).toNat (b : Int), T.2.2)).1, (g_try (σ 19) (σ 1 0) (σ 1 1).toNat n (c + T.2.2.2.1 ((σ 1 0 - ((n + 1 : Nat) : Int)) * 4 + (b : Int)).toNat) (k_u1 T.2.1 (σ 1 0 - ((n + 1 : Nat) : Int)).toNat (b : Int), T.2.2)).2)) (37, (S.1, S.2.1, g_weigh (σ 19) S.1 (σ 1 0 - ((n + 1 : Nat) : Int)) S.2.2.1, S.2.2.2))).2.2.2.1 ((σ 1 0 - ((n + 1 : Nat) : Int)) * 4 + (i30 : Int)).toNat)))]) dX0_tryAll_65 (by decide) rfl rfl ?_
      refine k_iload_n dX0_tryAll_67 3 rfl rfl ?_
      refine k_aload_n dX0_tryAll_68 0 rfl rfl (by decide) ?_
      refine k_iload_n dX0_tryAll_69 1 rfl rfl ?_
      refine k_iconst (v := 1) dX0_tryAll_70 rfl ?_
      refine k_iadd dX0_tryAll_71 ?_
      refine k_eqst (congrArg (fun z : Int => Value.int (iI z) :: [.ref 18, .int (iI ((k_fold i30 (fun b T => (z_min T.1 (g_try (σ 19) (σ 1 0) (σ 1 1).toNat n (c + T.2.2.2.1 ((σ 1 0 - ((n + 1 : Nat) : Int)) * 4 + (b : Int)).toNat) (k_u1 T.2.1 (σ 1 0 - ((n + 1 : Nat) : Int)).toNat (b : Int), T.2.2)).1, (g_try (σ 19) (σ 1 0) (σ 1 1).toNat n (c + T.2.2.2.1 ((σ 1 0 - ((n + 1 : Nat) : Int)) * 4 + (b : Int)).toNat) (k_u1 T.2.1 (σ 1 0 - ((n + 1 : Nat) : Int)).toNat (b : Int), T.2.2)).2)) (37, (S.1, S.2.1, g_weigh (σ 19) S.1 (σ 1 0 - ((n + 1 : Nat) : Int)) S.2.2.1, S.2.2.2))).1))]) (show σ 1 0 - (n : Int) = (σ 1 0 - ((n + 1 : Nat) : Int)) + 1 from by omega)) ?_
      refine k_iload_n dX0_tryAll_72 2 rfl rfl ?_
      refine k_iload dX0_tryAll_73 5 rfl ?_
      refine k_iadd dX0_tryAll_75 ?_
      refine k_callSr (st := [.int (iI ((k_fold i30 (fun b T => (z_min T.1 (g_try (σ 19) (σ 1 0) (σ 1 1).toNat n (c + T.2.2.2.1 ((σ 1 0 - ((n + 1 : Nat) : Int)) * 4 + (b : Int)).toNat) (k_u1 T.2.1 (σ 1 0 - ((n + 1 : Nat) : Int)).toNat (b : Int), T.2.2)).1, (g_try (σ 19) (σ 1 0) (σ 1 1).toNat n (c + T.2.2.2.1 ((σ 1 0 - ((n + 1 : Nat) : Int)) * 4 + (b : Int)).toNat) (k_u1 T.2.1 (σ 1 0 - ((n + 1 : Nat) : Int)).toNat (b : Int), T.2.2)).2)) (37, (S.1, S.2.1, g_weigh (σ 19) S.1 (σ 1 0 - ((n + 1 : Nat) : Int)) S.2.2.1, S.2.2.2))).1))]) (as := [.ref 18, .int (iI (σ 1 0 - (n : Int))), .int (iI (c + ((k_fold i30 (fun b T => (z_min T.1 (g_try (σ 19) (σ 1 0) (σ 1 1).toNat n (c + T.2.2.2.1 ((σ 1 0 - ((n + 1 : Nat) : Int)) * 4 + (b : Int)).toNat) (k_u1 T.2.1 (σ 1 0 - ((n + 1 : Nat) : Int)).toNat (b : Int), T.2.2)).1, (g_try (σ 19) (σ 1 0) (σ 1 1).toNat n (c + T.2.2.2.1 ((σ 1 0 - ((n + 1 : Nat) : Int)) * 4 + (b : Int)).toNat) (k_u1 T.2.1 (σ 1 0 - ((n + 1 : Nat) : Int)).toNat (b : Int), T.2.2)).2)) (37, (S.1, S.2.1, g_weigh (σ 19) S.1 (σ 1 0 - ((n + 1 : Nat) : Int)) S.2.2.1, S.2.2.2))).2.2.2.1 ((σ 1 0 - ((n + 1 : Nat) : Int)) * 4 + (i30 : Int)).toNat)))]) dX0_tryAll_76 oX0_tryAll w_594 w_595 rfl (by omega) rfl (Nat.le_of_ble_eq_true rfl) (IH _ _ ⟨by omega, by omega⟩ ⟨g_u1_r hT.1 ⟨by omega, by omega⟩, hT.2⟩) ?_
      refine k_mmin (st := []) dX0_tryAll_79 w_597 w_433 (by omega) (Nat.le_of_ble_eq_true rfl) ⟨by omega, by omega⟩ ⟨by omega, by omega⟩ ?_
      refine k_istore_n (ls' := [(0, .ref 18), (1, .int (iI (σ 1 0 - ((n + 1 : Nat) : Int)))), (2, .int (iI (c))), (3, .int (iI (z_min ((k_fold i30 (fun b T => (z_min T.1 (g_try (σ 19) (σ 1 0) (σ 1 1).toNat n (c + T.2.2.2.1 ((σ 1 0 - ((n + 1 : Nat) : Int)) * 4 + (b : Int)).toNat) (k_u1 T.2.1 (σ 1 0 - ((n + 1 : Nat) : Int)).toNat (b : Int), T.2.2)).1, (g_try (σ 19) (σ 1 0) (σ 1 1).toNat n (c + T.2.2.2.1 ((σ 1 0 - ((n + 1 : Nat) : Int)) * 4 + (b : Int)).toNat) (k_u1 T.2.1 (σ 1 0 - ((n + 1 : Nat) : Int)).toNat (b : Int), T.2.2)).2)) (37, (S.1, S.2.1, g_weigh (σ 19) S.1 (σ 1 0 - ((n + 1 : Nat) : Int)) S.2.2.1, S.2.2.2))).1) ((g_try (σ 19) (σ 1 0) (σ 1 1).toNat n (c + (k_fold i30 (fun b T => (z_min T.1 (g_try (σ 19) (σ 1 0) (σ 1 1).toNat n (c + T.2.2.2.1 ((σ 1 0 - ((n + 1 : Nat) : Int)) * 4 + (b : Int)).toNat) (k_u1 T.2.1 (σ 1 0 - ((n + 1 : Nat) : Int)).toNat (b : Int), T.2.2)).1, (g_try (σ 19) (σ 1 0) (σ 1 1).toNat n (c + T.2.2.2.1 ((σ 1 0 - ((n + 1 : Nat) : Int)) * 4 + (b : Int)).toNat) (k_u1 T.2.1 (σ 1 0 - ((n + 1 : Nat) : Int)).toNat (b : Int), T.2.2)).2)) (37, (S.1, S.2.1, g_weigh (σ 19) S.1 (σ 1 0 - ((n + 1 : Nat) : Int)) S.2.2.1, S.2.2.2))).2.2.2.1 ((σ 1 0 - ((n + 1 : Nat) : Int)) * 4 + (i30 : Int)).toNat) (k_u1 (k_fold i30 (fun b T => (z_min T.1 (g_try (σ 19) (σ 1 0) (σ 1 1).toNat n (c + T.2.2.2.1 ((σ 1 0 - ((n + 1 : Nat) : Int)) * 4 + (b : Int)).toNat) (k_u1 T.2.1 (σ 1 0 - ((n + 1 : Nat) : Int)).toNat (b : Int), T.2.2)).1, (g_try (σ 19) (σ 1 0) (σ 1 1).toNat n (c + T.2.2.2.1 ((σ 1 0 - ((n + 1 : Nat) : Int)) * 4 + (b : Int)).toNat) (k_u1 T.2.1 (σ 1 0 - ((n + 1 : Nat) : Int)).toNat (b : Int), T.2.2)).2)) (37, (S.1, S.2.1, g_weigh (σ 19) S.1 (σ 1 0 - ((n + 1 : Nat) : Int)) S.2.2.1, S.2.2.2))).2.1 (σ 1 0 - ((n + 1 : Nat) : Int)).toNat (i30 : Int), (k_fold i30 (fun b T => (z_min T.1 (g_try (σ 19) (σ 1 0) (σ 1 1).toNat n (c + T.2.2.2.1 ((σ 1 0 - ((n + 1 : Nat) : Int)) * 4 + (b : Int)).toNat) (k_u1 T.2.1 (σ 1 0 - ((n + 1 : Nat) : Int)).toNat (b : Int), T.2.2)).1, (g_try (σ 19) (σ 1 0) (σ 1 1).toNat n (c + T.2.2.2.1 ((σ 1 0 - ((n + 1 : Nat) : Int)) * 4 + (b : Int)).toNat) (k_u1 T.2.1 (σ 1 0 - ((n + 1 : Nat) : Int)).toNat (b : Int), T.2.2)).2)) (37, (S.1, S.2.1, g_weigh (σ 19) S.1 (σ 1 0 - ((n + 1 : Nat) : Int)) S.2.2.1, S.2.2.2))).2.2)).1)))), (4, .int (iI ((i30 : Int)))), (5, .int (iI ((k_fold i30 (fun b T => (z_min T.1 (g_try (σ 19) (σ 1 0) (σ 1 1).toNat n (c + T.2.2.2.1 ((σ 1 0 - ((n + 1 : Nat) : Int)) * 4 + (b : Int)).toNat) (k_u1 T.2.1 (σ 1 0 - ((n + 1 : Nat) : Int)).toNat (b : Int), T.2.2)).1, (g_try (σ 19) (σ 1 0) (σ 1 1).toNat n (c + T.2.2.2.1 ((σ 1 0 - ((n + 1 : Nat) : Int)) * 4 + (b : Int)).toNat) (k_u1 T.2.1 (σ 1 0 - ((n + 1 : Nat) : Int)).toNat (b : Int), T.2.2)).2)) (37, (S.1, S.2.1, g_weigh (σ 19) S.1 (σ 1 0 - ((n + 1 : Nat) : Int)) S.2.2.1, S.2.2.2))).2.2.2.1 ((σ 1 0 - ((n + 1 : Nat) : Int)) * 4 + (i30 : Int)).toNat)))]) dX0_tryAll_82 rfl (by decide) rfl rfl ?_
      refine k_iinc (ls' := [(0, .ref 18), (1, .int (iI (σ 1 0 - ((n + 1 : Nat) : Int)))), (2, .int (iI (c))), (3, .int (iI (z_min ((k_fold i30 (fun b T => (z_min T.1 (g_try (σ 19) (σ 1 0) (σ 1 1).toNat n (c + T.2.2.2.1 ((σ 1 0 - ((n + 1 : Nat) : Int)) * 4 + (b : Int)).toNat) (k_u1 T.2.1 (σ 1 0 - ((n + 1 : Nat) : Int)).toNat (b : Int), T.2.2)).1, (g_try (σ 19) (σ 1 0) (σ 1 1).toNat n (c + T.2.2.2.1 ((σ 1 0 - ((n + 1 : Nat) : Int)) * 4 + (b : Int)).toNat) (k_u1 T.2.1 (σ 1 0 - ((n + 1 : Nat) : Int)).toNat (b : Int), T.2.2)).2)) (37, (S.1, S.2.1, g_weigh (σ 19) S.1 (σ 1 0 - ((n + 1 : Nat) : Int)) S.2.2.1, S.2.2.2))).1) ((g_try (σ 19) (σ 1 0) (σ 1 1).toNat n (c + (k_fold i30 (fun b T => (z_min T.1 (g_try (σ 19) (σ 1 0) (σ 1 1).toNat n (c + T.2.2.2.1 ((σ 1 0 - ((n + 1 : Nat) : Int)) * 4 + (b : Int)).toNat) (k_u1 T.2.1 (σ 1 0 - ((n + 1 : Nat) : Int)).toNat (b : Int), T.2.2)).1, (g_try (σ 19) (σ 1 0) (σ 1 1).toNat n (c + T.2.2.2.1 ((σ 1 0 - ((n + 1 : Nat) : Int)) * 4 + (b : Int)).toNat) (k_u1 T.2.1 (σ 1 0 - ((n + 1 : Nat) : Int)).toNat (b : Int), T.2.2)).2)) (37, (S.1, S.2.1, g_weigh (σ 19) S.1 (σ 1 0 - ((n + 1 : Nat) : Int)) S.2.2.1, S.2.2.2))).2.2.2.1 ((σ 1 0 - ((n + 1 : Nat) : Int)) * 4 + (i30 : Int)).toNat) (k_u1 (k_fold i30 (fun b T => (z_min T.1 (g_try (σ 19) (σ 1 0) (σ 1 1).toNat n (c + T.2.2.2.1 ((σ 1 0 - ((n + 1 : Nat) : Int)) * 4 + (b : Int)).toNat) (k_u1 T.2.1 (σ 1 0 - ((n + 1 : Nat) : Int)).toNat (b : Int), T.2.2)).1, (g_try (σ 19) (σ 1 0) (σ 1 1).toNat n (c + T.2.2.2.1 ((σ 1 0 - ((n + 1 : Nat) : Int)) * 4 + (b : Int)).toNat) (k_u1 T.2.1 (σ 1 0 - ((n + 1 : Nat) : Int)).toNat (b : Int), T.2.2)).2)) (37, (S.1, S.2.1, g_weigh (σ 19) S.1 (σ 1 0 - ((n + 1 : Nat) : Int)) S.2.2.1, S.2.2.2))).2.1 (σ 1 0 - ((n + 1 : Nat) : Int)).toNat (i30 : Int), (k_fold i30 (fun b T => (z_min T.1 (g_try (σ 19) (σ 1 0) (σ 1 1).toNat n (c + T.2.2.2.1 ((σ 1 0 - ((n + 1 : Nat) : Int)) * 4 + (b : Int)).toNat) (k_u1 T.2.1 (σ 1 0 - ((n + 1 : Nat) : Int)).toNat (b : Int), T.2.2)).1, (g_try (σ 19) (σ 1 0) (σ 1 1).toNat n (c + T.2.2.2.1 ((σ 1 0 - ((n + 1 : Nat) : Int)) * 4 + (b : Int)).toNat) (k_u1 T.2.1 (σ 1 0 - ((n + 1 : Nat) : Int)).toNat (b : Int), T.2.2)).2)) (37, (S.1, S.2.1, g_weigh (σ 19) S.1 (σ 1 0 - ((n + 1 : Nat) : Int)) S.2.2.1, S.2.2.2))).2.2)).1)))), (4, .int (iI ((i30 : Int) + 1))), (5, .int (iI ((k_fold i30 (fun b T => (z_min T.1 (g_try (σ 19) (σ 1 0) (σ 1 1).toNat n (c + T.2.2.2.1 ((σ 1 0 - ((n + 1 : Nat) : Int)) * 4 + (b : Int)).toNat) (k_u1 T.2.1 (σ 1 0 - ((n + 1 : Nat) : Int)).toNat (b : Int), T.2.2)).1, (g_try (σ 19) (σ 1 0) (σ 1 1).toNat n (c + T.2.2.2.1 ((σ 1 0 - ((n + 1 : Nat) : Int)) * 4 + (b : Int)).toNat) (k_u1 T.2.1 (σ 1 0 - ((n + 1 : Nat) : Int)).toNat (b : Int), T.2.2)).2)) (37, (S.1, S.2.1, g_weigh (σ 19) S.1 (σ 1 0 - ((n + 1 : Nat) : Int)) S.2.2.1, S.2.2.2))).2.2.2.1 ((σ 1 0 - ((n + 1 : Nat) : Int)) * 4 + (i30 : Int)).toNat)))]) dX0_tryAll_83 4 rfl (by decide) rfl rfl ?_
      refine k_goto (tgt := 30) dX0_tryAll_86 rfl ?_
      refine k_lrw (q := 3) (j := 3) (a' := (k_fold (i30 + 1) (fun b T => (z_min T.1 (g_try (σ 19) (σ 1 0) (σ 1 1).toNat n (c + T.2.2.2.1 ((σ 1 0 - ((n + 1 : Nat) : Int)) * 4 + (b : Int)).toNat) (k_u1 T.2.1 (σ 1 0 - ((n + 1 : Nat) : Int)).toNat (b : Int), T.2.2)).1, (g_try (σ 19) (σ 1 0) (σ 1 1).toNat n (c + T.2.2.2.1 ((σ 1 0 - ((n + 1 : Nat) : Int)) * 4 + (b : Int)).toNat) (k_u1 T.2.1 (σ 1 0 - ((n + 1 : Nat) : Int)).toNat (b : Int), T.2.2)).2)) (37, (S.1, S.2.1, g_weigh (σ 19) S.1 (σ 1 0 - ((n + 1 : Nat) : Int)) S.2.2.1, S.2.2.2))).1) (ls' := [(0, .ref 18), (1, .int (iI (σ 1 0 - ((n + 1 : Nat) : Int)))), (2, .int (iI (c))), (3, .int (iI ((k_fold (i30 + 1) (fun b T => (z_min T.1 (g_try (σ 19) (σ 1 0) (σ 1 1).toNat n (c + T.2.2.2.1 ((σ 1 0 - ((n + 1 : Nat) : Int)) * 4 + (b : Int)).toNat) (k_u1 T.2.1 (σ 1 0 - ((n + 1 : Nat) : Int)).toNat (b : Int), T.2.2)).1, (g_try (σ 19) (σ 1 0) (σ 1 1).toNat n (c + T.2.2.2.1 ((σ 1 0 - ((n + 1 : Nat) : Int)) * 4 + (b : Int)).toNat) (k_u1 T.2.1 (σ 1 0 - ((n + 1 : Nat) : Int)).toNat (b : Int), T.2.2)).2)) (37, (S.1, S.2.1, g_weigh (σ 19) S.1 (σ 1 0 - ((n + 1 : Nat) : Int)) S.2.2.1, S.2.2.2))).1))), (4, .int (iI ((i30 : Int) + 1))), (5, .int (iI ((k_fold i30 (fun b T => (z_min T.1 (g_try (σ 19) (σ 1 0) (σ 1 1).toNat n (c + T.2.2.2.1 ((σ 1 0 - ((n + 1 : Nat) : Int)) * 4 + (b : Int)).toNat) (k_u1 T.2.1 (σ 1 0 - ((n + 1 : Nat) : Int)).toNat (b : Int), T.2.2)).1, (g_try (σ 19) (σ 1 0) (σ 1 1).toNat n (c + T.2.2.2.1 ((σ 1 0 - ((n + 1 : Nat) : Int)) * 4 + (b : Int)).toNat) (k_u1 T.2.1 (σ 1 0 - ((n + 1 : Nat) : Int)).toNat (b : Int), T.2.2)).2)) (37, (S.1, S.2.1, g_weigh (σ 19) S.1 (σ 1 0 - ((n + 1 : Nat) : Int)) S.2.2.1, S.2.2.2))).2.2.2.1 ((σ 1 0 - ((n + 1 : Nat) : Int)) * 4 + (i30 : Int)).toNat)))]) rfl (rfl) rfl ?_
      refine k_dropr (ls' := [(0, .ref 18), (1, .int (iI (σ 1 0 - ((n + 1 : Nat) : Int)))), (2, .int (iI (c))), (3, .int (iI ((k_fold (i30 + 1) (fun b T => (z_min T.1 (g_try (σ 19) (σ 1 0) (σ 1 1).toNat n (c + T.2.2.2.1 ((σ 1 0 - ((n + 1 : Nat) : Int)) * 4 + (b : Int)).toNat) (k_u1 T.2.1 (σ 1 0 - ((n + 1 : Nat) : Int)).toNat (b : Int), T.2.2)).1, (g_try (σ 19) (σ 1 0) (σ 1 1).toNat n (c + T.2.2.2.1 ((σ 1 0 - ((n + 1 : Nat) : Int)) * 4 + (b : Int)).toNat) (k_u1 T.2.1 (σ 1 0 - ((n + 1 : Nat) : Int)).toNat (b : Int), T.2.2)).2)) (37, (S.1, S.2.1, g_weigh (σ 19) S.1 (σ 1 0 - ((n + 1 : Nat) : Int)) S.2.2.1, S.2.2.2))).1))), (4, .int (iI ((i30 : Int) + 1)))]) (ex := [(5, .int (iI ((k_fold i30 (fun b T => (z_min T.1 (g_try (σ 19) (σ 1 0) (σ 1 1).toNat n (c + T.2.2.2.1 ((σ 1 0 - ((n + 1 : Nat) : Int)) * 4 + (b : Int)).toNat) (k_u1 T.2.1 (σ 1 0 - ((n + 1 : Nat) : Int)).toNat (b : Int), T.2.2)).1, (g_try (σ 19) (σ 1 0) (σ 1 1).toNat n (c + T.2.2.2.1 ((σ 1 0 - ((n + 1 : Nat) : Int)) * 4 + (b : Int)).toNat) (k_u1 T.2.1 (σ 1 0 - ((n + 1 : Nat) : Int)).toNat (b : Int), T.2.2)).2)) (37, (S.1, S.2.1, g_weigh (σ 19) S.1 (σ 1 0 - ((n + 1 : Nat) : Int)) S.2.2.1, S.2.2.2))).2.2.2.1 ((σ 1 0 - ((n + 1 : Nat) : Int)) * 4 + (i30 : Int)).toNat)))]) rfl ?_
      exact ih30
end K_U
