/-! ===== CHAINS, fourth part: the best chain carried out ===== -/
section K_S
variable {E : k_E} {sh : List k_Sh} {σ : Nat → Nat → Int}
theorem g_next_some {ro bu di : Nat → Int} {a d : Int} (h : g_next ro bu di a d ≠ -1) : ∃ t : Nat, t < 4 ∧ g_next ro bu di a d = (t : Int) ∧ (di t = d ∧ z_diff (ro a.toNat) (bu t) ≠ 0) ∧ ∀ j : Nat, j < t → ¬ (di j = d ∧ z_diff (ro a.toNat) (bu j) ≠ 0) := by
  unfold g_next at h ⊢
  rcases z_first_spec (P := fun t => decide (di t = d ∧ z_diff (ro a.toNat) (bu t) ≠ 0)) 4 with ⟨h1, -⟩ | ⟨t, h1, h2, h3, h4⟩
  · exact absurd h1 h
  · exact ⟨t, h1, h2, of_decide_eq_true h3, fun j hj => of_decide_eq_false (h4 j hj)⟩
theorem g_next_ne {ro bu di : Nat → Int} {a d : Int} (h : ∃ t : Nat, t < 4 ∧ di t = d ∧ z_diff (ro a.toNat) (bu t) ≠ 0) : g_next ro bu di a d ≠ -1 := by
  obtain ⟨t, ht, h1⟩ := h
  intro e
  unfold g_next at e
  rcases z_first_spec (P := fun t => decide (di t = d ∧ z_diff (ro a.toNat) (bu t) ≠ 0)) 4 with ⟨-, h2⟩ | ⟨i, h2, h3, -⟩
  · exact of_decide_eq_false (h2 t ht) h1
  · omega
/-- each distance is 0, or one more than that of a block into which a pupil can move -/
def g_dInv (ro bu : Nat → Int) (n : Int) (g : Nat → Int) : Prop := ∀ b, b < 4 → g b = -1 ∨ g b = 0 ∨ (1 ≤ g b ∧ g b ≤ n ∧ g_next ro bu g (b : Int) (g b - 1) ≠ -1)
theorem g_dInv_meas {ro bu g : Nat → Int} {n : Int} (hn : 0 ≤ n) (h : g_dInv ro bu n g) : g_dInv ro bu (n + 1) (g_meas ro bu (n + 1) g) := by
  unfold g_meas g_measN
  refine k_fold_inv (P := g_dInv ro bu (n + 1)) (fun b hb => ?_) (fun b g hg => ?_) 4
  · rcases h b hb with e | e | e
    · exact Or.inl e
    · exact Or.inr (Or.inl e)
    · exact Or.inr (Or.inr ⟨e.1, by omega, e.2.2⟩)
  · split
    · rename_i hc
      have mono : ∀ (a d : Int), d ≠ -1 → g_next ro bu g a d ≠ -1 → g_next ro bu (k_u1 g b (n + 1)) a d ≠ -1 := by
        intro a d hd ha
        obtain ⟨t, t1, -, t3, -⟩ := g_next_some ha
        refine g_next_ne ⟨t, t1, ?_, t3.2⟩
        unfold k_u1
        rw [if_neg (fun e => hd (by rw [← t3.1, e, hc.1]))]
        exact t3.1
      intro c hcc
      by_cases e : c = b
      · subst e
        refine Or.inr (Or.inr ?_)
        have ev : k_u1 g c (n + 1) c = n + 1 := if_pos rfl
        rw [ev]
        exact ⟨by omega, by omega, mono _ _ (by omega) hc.2⟩
      · have ev : k_u1 g b (n + 1) c = g c := if_neg e
        rw [ev]
        rcases hg c hcc with h1 | h1 | h1
        · exact Or.inl h1
        · exact Or.inr (Or.inl h1)
        · exact Or.inr (Or.inr ⟨h1.1, h1.2.1, mono _ _ (by omega) h1.2.2⟩)
    · exact hg
theorem g_dInv_dist {ro bu g : Nat → Int} (h : ∀ b, b < 4 → g b = -1 ∨ g b = 0) : ∀ n : Nat, g_dInv ro bu n (g_dist ro bu g n)
  | 0 => fun b hb => (h b hb).elim Or.inl (fun e => Or.inr (Or.inl e))
  | n + 1 => by
    have e : ((n + 1 : Nat) : Int) = (n : Int) + 1 := by omega
    rw [e]
    exact g_dInv_meas (Int.natCast_nonneg n) (g_dInv_dist h n)
theorem u_look17 (σ : Nat → Nat → Int) (s : Int) (b : Nat) (hb : b < 4) : u_lookN σ s 4 17 b = if z_bit (f_roomy σ s 0) (b : Int) = true then 0 else -1 := by
  have : b = 0 ∨ b = 1 ∨ b = 2 ∨ b = 3 := by omega
  rcases this with rfl | rfl | rfl | rfl <;> rfl
theorem u_few_inv (σ : Nat → Nat → Int) (s : Int) : g_dInv (u_few σ s 15) (u_few σ s 16) 3 (u_few σ s 17) :=
  g_dInv_dist (fun b hb => by rw [u_look17 σ s b hb]; split <;> simp) 3
def g_path (ro bu di : Nat → Int) (m e : Int) (n : Nat) : Int := match n with
  | 0 => e
  | k + 1 => g_next ro bu di (g_path ro bu di m e k) (m - (k : Int) - 1)
def f_path (σ : Nat → Nat → Int) (s m e : Int) (n : Nat) : Int := g_path (u_few σ s 15) (u_few σ s 16) (u_few σ s 17) m e n
def f_mover (σ : Nat → Nat → Int) (s m e : Int) (n : Nat) : Int := g_memb (z_diff (u_few σ s 15 (f_path σ s m e n).toNat) (u_few σ s 16 (f_path σ s m e (n + 1)).toNat)) 0
theorem g_path_ok {ro bu di : Nat → Int} {m e : Int} (h : g_dInv ro bu 3 di) (he : 0 ≤ e ∧ e < 4) (hd : di e.toNat = m) : ∀ k : Nat, (k : Int) ≤ m → (0 ≤ g_path ro bu di m e k ∧ g_path ro bu di m e k < 4) ∧ di (g_path ro bu di m e k).toNat = m - k
  | 0, _ => ⟨he, by show di e.toNat = m - 0; omega⟩
  | k + 1, hk => by
    obtain ⟨⟨h1, h2⟩, h3⟩ := g_path_ok h he hd k (by omega)
    have h4 := h (g_path ro bu di m e k).toNat (by omega)
    rw [h3] at h4
    have h5 : g_next ro bu di (g_path ro bu di m e k) (m - (k : Int) - 1) ≠ -1 := by
      have e1 : (((g_path ro bu di m e k).toNat : Nat) : Int) = g_path ro bu di m e k := Int.toNat_of_nonneg h1
      rw [e1] at h4
      rcases h4 with h4 | h4 | h4
      · omega
      · omega
      · exact h4.2.2
    obtain ⟨t, t1, t2, t3, -⟩ := g_next_some h5
    have e2 : g_path ro bu di m e (k + 1) = (t : Int) := t2
    rw [e2]
    refine ⟨⟨by omega, by omega⟩, ?_⟩
    rw [Int.toNat_natCast, t3.1]
    omega
theorem z_cntn_0 {x : Int} : ∀ n : Nat, (∀ j : Nat, j < n → z_bit x (j : Int) = false) → z_cntn x n = 0
  | 0, _ => rfl
  | n + 1, h => by
    rw [z_cntn_s, z_cntn_0 n (fun j hj => h j (by omega)), zb_f (by rw [h n (by omega)]; decide)]
    rfl
theorem g_memb_first (x : Int) : g_memb x 0 = z_first 16 (fun i => z_bit x (i : Int)) := by
  unfold g_memb
  rcases z_first_spec (P := fun i : Nat => z_bit x (i : Int)) 16 with ⟨h1, h2⟩ | ⟨i, h1, h2, h3, h4⟩
  · rw [h1]
    exact z_first_none 16 (fun j hj => by simp [h2 j hj])
  · rw [h2]
    exact z_first_some (i := i) (by simp [h3, z_cntn_0 i h4]) (fun j hj => by simp [h4 j hj]) 16 h1
theorem z_bit_ex {x : Int} (h : 0 ≤ x ∧ x < 4096) (h0 : x ≠ 0) : ∃ i : Nat, i < 12 ∧ z_bit x (i : Int) = true := by
  apply Classical.byContradiction
  intro hn
  apply h0
  refine z_ext h.1 (by decide) (fun i hi => ?_)
  rw [z_bit_0]
  by_cases h2 : i < 12
  · have := mt (fun q => (⟨i.toNat, by omega, q⟩ : ∃ i : Nat, i < 12 ∧ z_bit x (i : Int) = true)) hn
    rw [Int.toNat_of_nonneg hi] at this
    simpa using this
  · exact z_bit_ge 12 h.2 (by omega)
theorem g_memb_r12 {x : Int} (h : 0 ≤ x ∧ x < 4096) (h0 : x ≠ 0) : 0 ≤ g_memb x 0 ∧ g_memb x 0 < 12 := by
  obtain ⟨i, i1, i2⟩ := z_bit_ex h h0
  rw [g_memb_first]
  rcases z_first_spec (P := fun i : Nat => z_bit x (i : Int)) 16 with ⟨-, h2⟩ | ⟨j, h1, h2, h3, h4⟩
  · exact absurd (h2 i (by omega)) (by rw [i2]; decide)
  · rw [h2]
    have : ¬ i < j := fun q => absurd (h4 i q) (by rw [i2]; decide)
    omega
theorem g_near_ok {di : Nat → Int} {f : Int} (h : f_read di 4 (g_near di f) ≠ -1) : (0 ≤ g_near di f ∧ g_near di f < 4) ∧ f_read di 4 (g_near di f) = di (g_near di f).toNat := by
  unfold f_read at h ⊢
  split at h
  · rename_i hc
    exact ⟨hc, if_pos hc⟩
  · exact absurd rfl h
theorem u_carry {s p m e : Int} (hI : k_Ty σ) (hC : k_Ch σ) (hm : m = f_few σ s (f_free σ p)) (he : e = g_near (u_few σ s 17) (f_free σ p)) (hne : f_few σ s (f_free σ p) ≠ -1) : (0 ≤ m ∧ m ≤ 3) ∧ (0 ≤ e ∧ e < 4) ∧ (∀ k : Nat, (k : Int) ≤ m → 0 ≤ f_path σ s m e k ∧ f_path σ s m e k < 4) ∧ (∀ k : Nat, (k : Int) < m → 0 ≤ f_mover σ s m e k ∧ f_mover σ s m e k < 12) := by
  have hd := u_fewN_ch hI hC s 3 (by decide)
  obtain ⟨h1, h2⟩ := g_near_ok hne
  rw [← he] at h1
  have h2 : m = u_few σ s 17 e.toNat := by rw [hm, he]; exact h2
  have h0 : -1 ≤ m ∧ m ≤ 3 := by rw [h2]; exact hd.2.2 _
  have hne : m ≠ -1 := by rw [hm]; exact hne
  have hp := g_path_ok (u_few_inv σ s) h1 h2.symm
  refine ⟨⟨by omega, h0.2⟩, h1, fun k hk => (hp k hk).1, fun k hk => ?_⟩
  have hb := hp (k + 1) (by omega)
  have hne2 : g_next (u_few σ s 15) (u_few σ s 16) (u_few σ s 17) (f_path σ s m e k) (m - (k : Int) - 1) ≠ -1 := by
    have : g_next (u_few σ s 15) (u_few σ s 16) (u_few σ s 17) (f_path σ s m e k) (m - (k : Int) - 1) = f_path σ s m e (k + 1) := rfl
    rw [this]
    have : 0 ≤ f_path σ s m e (k + 1) := hb.1.1
    omega
  obtain ⟨t, t1, t2, t3, -⟩ := g_next_some hne2
  have e2 : f_path σ s m e (k + 1) = (t : Int) := t2
  unfold f_mover
  rw [e2, Int.toNat_natCast]
  have h15 := hd.1 (f_path σ s m e k).toNat
  exact g_memb_r12 ⟨z_diff_nn _ _, z_diff_lt 12 h15.2⟩ t3.2
def u_carN (σ : Nat → Nat → Int) (s m e : Int) (n : Nat) : Nat → Nat → Int := k_up (k_up (u_few σ s) 8 (k_fold n (fun k g => k_u1 g k (f_mover σ s m e k)) (u_few σ s 8))) 9 (k_fold n (fun k g => k_u1 g k (f_path σ s m e (k + 1))) (u_few σ s 9))
def u_carE (σ : Nat → Nat → Int) (p s m e : Int) : Nat → Nat → Int := u_enter (u_moves (u_carN σ s m e m.toNat) s e m) p s e
def u_car (σ : Nat → Nat → Int) (p s : Int) : Nat → Nat → Int := u_carE σ p s (f_few σ s (f_free σ p)) (g_near (u_few σ s 17) (f_free σ p))
theorem u_carN_ty {s m e : Int} (hI : k_Ty σ) (h1 : ∀ k : Nat, (k : Int) ≤ m → 0 ≤ f_path σ s m e k ∧ f_path σ s m e k < 4) (h2 : ∀ k : Nat, (k : Int) < m → 0 ≤ f_mover σ s m e k ∧ f_mover σ s m e k < 12) : ∀ n : Nat, (n : Int) ≤ m → k_Ty (u_carN σ s m e n) := by
  obtain ⟨t0, t1, t2, t3, t4, t5, t6, t7, t8, t9, t10, t11⟩ := (u_fewN_pl s 3).ty hI
  intro n hn
  refine ⟨t0, t1, t2, t3, t4, t5, t6, t7, t8, t9, ?_, ?_⟩
  · show ∀ j, 0 ≤ k_fold n (fun k g => k_u1 g k (f_mover σ s m e k)) (u_few σ s 8) j ∧ k_fold n (fun k g => k_u1 g k (f_mover σ s m e k)) (u_few σ s 8) j < 12
    induction n with
    | zero => exact t10
    | succ n ih =>
      intro j
      show 0 ≤ k_u1 (k_fold n (fun k g => k_u1 g k (f_mover σ s m e k)) (u_few σ s 8)) n (f_mover σ s m e n) j ∧ k_u1 (k_fold n (fun k g => k_u1 g k (f_mover σ s m e k)) (u_few σ s 8)) n (f_mover σ s m e n) j < 12
      unfold k_u1
      split
      · exact h2 n (by omega)
      · exact ih (by omega) j
  · show ∀ j, 0 ≤ k_fold n (fun k g => k_u1 g k (f_path σ s m e (k + 1))) (u_few σ s 9) j ∧ k_fold n (fun k g => k_u1 g k (f_path σ s m e (k + 1))) (u_few σ s 9) j < 4
    induction n with
    | zero => exact t11
    | succ n ih =>
      intro j
      show 0 ≤ k_u1 (k_fold n (fun k g => k_u1 g k (f_path σ s m e (k + 1))) (u_few σ s 9)) n (f_path σ s m e (n + 1)) j ∧ k_u1 (k_fold n (fun k g => k_u1 g k (f_path σ s m e (k + 1))) (u_few σ s 9)) n (f_path σ s m e (n + 1)) j < 4
      unfold k_u1
      split
      · exact h1 (n + 1) (by omega)
      · exact ih (by omega) j
set_option maxHeartbeats 4000000 in
theorem c_carryOut (hsh : k_Main sh) (hI : k_Ty σ) (hC : k_Ch σ) {p s : Int} (hp : -2147483648 ≤ p ∧ p < 2147483648) (hs : -2147483648 ≤ s ∧ s < 2147483648) (hp0 : 0 ≤ p ∧ p < 12) (hne : f_few σ s (f_free σ p) ≠ -1) : k_C E mX1_carryOut 6 [.ref 14, .int (iI (p)), .int (iI (s))] sh σ 0 0 (k_ret (some (.int (iI (f_few σ s (f_free σ p))))) sh (u_car σ p s)) := by
  refine k_C_of (ls0 := [(0, .ref 14), (1, .int (iI (p))), (2, .int (iI (s)))]) rfl pnX1 (fun v hv => k_cat1 rfl hv) (Nat.le_of_ble_eq_true rfl) rfl ?_
  obtain ⟨t0, t1, t2, t3, t4, t5, t6, t7, t8, t9, t10, t11⟩ := id hI
  obtain ⟨c0, c1, c2⟩ := id hC
  obtain ⟨m, hm⟩ : ∃ m, m = f_few σ s (f_free σ p) := ⟨_, rfl⟩
  obtain ⟨e, he⟩ : ∃ e, e = g_near (u_few σ s 17) (f_free σ p) := ⟨_, rfl⟩
  have hch := u_carry hI hC hm he hne
  have hC3 : k_Ch (u_few σ s) := u_fewN_ch hI hC s 3 (by decide)
  have hf0 := f_free_r σ p (σ 1 1).toNat (by omega)
  have hf1 : 0 ≤ f_free σ p ∧ f_free σ p < 16 := hf0
  refine k_aload_n dX1_carryOut_0 0 rfl rfl (by decide) ?_
  refine k_get (kf := 0) (v := .ref 1) dX1_carryOut_1 kcX1 w_218 (by decide) (by decide) (s_14 hsh) rfl rfl ?_
  refine k_iload_n dX1_carryOut_4 1 rfl rfl ?_
  refine k_callVr (st := []) (as := [.int (iI (p))]) dX1_carryOut_5 oX5_freeBlocks w_863 w_661 w_662 rfl (by omega) rfl (Nat.le_of_ble_eq_true rfl) (by decide) (s_1 hsh) rfl (c_freeBlocks hsh hI ⟨by omega, by omega⟩ (by omega)) ?_
  refine k_istore_n (ls' := [(0, .ref 14), (1, .int (iI (p))), (2, .int (iI (s))), (3, .int (iI (f_free σ p)))]) dX1_carryOut_8 rfl (by decide) rfl rfl ?_
  refine k_aload_n dX1_carryOut_9 0 rfl rfl (by decide) ?_
  refine k_iload_n dX1_carryOut_10 2 rfl rfl ?_
  refine k_iload_n dX1_carryOut_11 3 rfl rfl ?_
  refine k_callVr (st := []) (as := [.int (iI (s)), .int (iI (f_free σ p))]) dX1_carryOut_12 oX1_fewestMoves w_864 w_665 w_666 rfl (by omega) rfl (Nat.le_of_ble_eq_true rfl) (by decide) (s_14 hsh) rfl (c_fewestMoves hsh hI hC ⟨by omega, by omega⟩ ⟨by omega, by omega⟩ (by omega)) ?_
  refine k_eqst (congrArg (fun z : Int => Value.int (iI z) :: []) (show m = f_few σ s (f_free σ p) from hm)) ?_
  refine k_istore (ls' := [(0, .ref 14), (1, .int (iI (p))), (2, .int (iI (s))), (3, .int (iI (f_free σ p))), (4, .int (iI (m)))]) dX1_carryOut_15 (by decide) rfl rfl ?_
  refine k_aload_n dX1_carryOut_17 0 rfl rfl (by decide) ?_
  refine k_iload_n dX1_carryOut_18 3 rfl rfl ?_
  refine k_callVr (st := []) (as := [.int (iI (f_free σ p))]) dX1_carryOut_19 oX1_nearest w_682 w_684 w_17 rfl (by omega) rfl (Nat.le_of_ble_eq_true rfl) (by decide) (s_14 hsh) rfl (c_nearest hsh hC3 ⟨by omega, by omega⟩ (by omega)) ?_
  refine k_eqst (congrArg (fun z : Int => Value.int (iI z) :: []) (show e = g_near ((u_few σ s) 17) (f_free σ p) from he)) ?_
  refine k_istore (ls' := [(0, .ref 14), (1, .int (iI (p))), (2, .int (iI (s))), (3, .int (iI (f_free σ p))), (4, .int (iI (m))), (5, .int (iI (e)))]) dX1_carryOut_22 (by decide) rfl rfl ?_
  refine k_iload dX1_carryOut_24 5 rfl ?_
  refine k_istore (ls' := [(0, .ref 14), (1, .int (iI (p))), (2, .int (iI (s))), (3, .int (iI (f_free σ p))), (4, .int (iI (m))), (5, .int (iI (e))), (6, .int (iI (e)))]) dX1_carryOut_26 (by decide) rfl rfl ?_
  refine k_iconst (v := 0) dX1_carryOut_28 rfl ?_
  refine k_istore (ls' := [(0, .ref 14), (1, .int (iI (p))), (2, .int (iI (s))), (3, .int (iI (f_free σ p))), (4, .int (iI (m))), (5, .int (iI (e))), (6, .int (iI (e))), (7, .int (iI (0)))]) dX1_carryOut_29 (by decide) rfl rfl ?_
  refine k_eqσ (σ' := (u_carN σ s m e 0)) (by funext i; by_cases e9 : i = 9; (· subst e9; rfl); by_cases e8 : i = 8; (· subst e8; rfl); simp [k_up, u_carN, u_few, u_note, e9, e8]) ?_
  refine k_down (P := fun i31 : Nat => k_V E mX1_carryOut _ 31 [(0, .ref 14), (1, .int (iI (p))), (2, .int (iI (s))), (3, .int (iI (f_free σ p))), (4, .int (iI (m))), (5, .int (iI (e))), (6, .int (iI (f_path σ s m e i31))), (7, .int (iI ((i31 : Int))))] [] sh (u_carN σ s m e i31) _ _ _) (m.toNat) ?_ ?_
  · skip
    have hT := u_carN_ty hI hch.2.2.1 hch.2.2.2 (m.toNat) (by omega)
    have hC1 : k_Ch (u_carN σ s m e (m.toNat)) := k_Ch_up (k_Ch_up hC3 (by decide)) (by decide)
    have q1 := hch.2.2.1 (m.toNat) (by omega)
    refine k_iload dX1_carryOut_31 7 rfl ?_
    refine k_iload dX1_carryOut_33 4 rfl ?_
    refine k_icmp_ge (tgt := 99) dX1_carryOut_35 rfl ⟨by omega, by omega⟩ ⟨by omega, by omega⟩ (fun h_1 => ?_) (fun h_1 => absurd h_1 (by omega))
    refine k_aload_n dX1_carryOut_99 0 rfl rfl (by decide) ?_
    refine k_get (kf := 0) (v := .ref 1) dX1_carryOut_100 kcX1 w_218 (by decide) (by decide) (s_14 hsh) rfl rfl ?_
    refine k_iload_n dX1_carryOut_103 2 rfl rfl ?_
    refine k_iload dX1_carryOut_104 5 rfl ?_
    refine k_iload dX1_carryOut_106 4 rfl ?_
    refine k_callVr (st := []) (as := [.int (iI (s)), .int (iI (e)), .int (iI (m))]) dX1_carryOut_108 oX5_makeMoves w_873 w_874 w_875 rfl (by omega) rfl (Nat.le_of_ble_eq_true rfl) (by decide) (s_1 hsh) rfl (c_makeMoves hsh hT ⟨by omega, by omega⟩ ⟨by omega, by omega⟩ ⟨by omega, by omega⟩ hch.1 hch.2.1) ?_
    refine k_aload_n dX1_carryOut_111 0 rfl rfl (by decide) ?_
    refine k_get (kf := 0) (v := .ref 1) dX1_carryOut_112 kcX1 w_218 (by decide) (by decide) (s_14 hsh) rfl rfl ?_
    refine k_iload_n dX1_carryOut_115 1 rfl rfl ?_
    refine k_iload_n dX1_carryOut_116 2 rfl rfl ?_
    refine k_iload dX1_carryOut_117 5 rfl ?_
    refine k_callVr (st := []) (as := [.int (iI (p)), .int (iI (s)), .int (iI (e))]) dX1_carryOut_119 oX5_enter w_882 w_517 w_518 rfl (by omega) rfl (Nat.le_of_ble_eq_true rfl) (by decide) (s_1 hsh) rfl (c_enter hsh (u_movesN_ty hT ⟨by omega, by omega⟩ _) ⟨by omega, by omega⟩ ⟨by omega, by omega⟩ ⟨by omega, by omega⟩ hp0) ?_
    refine k_iload dX1_carryOut_122 4 rfl ?_
    exact k_reti dX1_carryOut_124 rfl (by subst hm he; rfl) (by exact hm)
  · intro i31 hi31 ih31
    have hT := u_carN_ty hI hch.2.2.1 hch.2.2.2 i31 (by omega)
    have hC1 : k_Ch (u_carN σ s m e i31) := k_Ch_up (k_Ch_up hC3 (by decide)) (by decide)
    have q1 := hch.2.2.1 i31 (by omega)
    have q2 := hch.2.2.1 (i31 + 1) (by omega)
    have q3 := hch.2.2.2 i31 (by omega)
    have q4 : 0 ≤ z_diff (u_few σ s 15 (f_path σ s m e i31).toNat) (u_few σ s 16 (f_path σ s m e (i31 + 1)).toNat) ∧ z_diff (u_few σ s 15 (f_path σ s m e i31).toNat) (u_few σ s 16 (f_path σ s m e (i31 + 1)).toNat) < 4096 := ⟨z_diff_nn _ _, z_diff_lt 12 (hC3.1 _).2⟩
    have q5 := hC3.1 (f_path σ s m e i31).toNat
    have q6 := hC3.2.1 (f_path σ s m e (i31 + 1)).toNat
    refine k_iload dX1_carryOut_31 7 rfl ?_
    refine k_iload dX1_carryOut_33 4 rfl ?_
    refine k_icmp_ge (tgt := 99) dX1_carryOut_35 rfl ⟨by omega, by omega⟩ ⟨by omega, by omega⟩ (fun h_2 => absurd h_2 (by omega)) (fun h_2 => ?_)
    refine k_aload_n dX1_carryOut_38 0 rfl rfl (by decide) ?_
    refine k_iload dX1_carryOut_39 6 rfl ?_
    refine k_iload dX1_carryOut_41 4 rfl ?_
    refine k_iload dX1_carryOut_43 7 rfl ?_
    refine k_isub dX1_carryOut_45 ?_
    refine k_iconst (v := 1) dX1_carryOut_46 rfl ?_
    refine k_isub dX1_carryOut_47 ?_
    refine k_callVr (st := []) (as := [.int (iI (f_path σ s m e i31)), .int (iI ((m - ((i31 : Int))) - 1))]) dX1_carryOut_48 oX1_nextBlock w_678 w_680 w_16 rfl (by omega) rfl (Nat.le_of_ble_eq_true rfl) (by decide) (s_14 hsh) rfl (c_nextBlock hsh hC1 ⟨by omega, by omega⟩ ⟨by omega, by omega⟩ (by omega)) ?_
    refine k_eqst (congrArg (fun z : Int => Value.int (iI z) :: []) (show f_path σ s m e (i31 + 1) = g_next ((u_carN σ s m e i31) 15) ((u_carN σ s m e i31) 16) ((u_carN σ s m e i31) 17) (f_path σ s m e i31) ((m - ((i31 : Int))) - 1) from rfl)) ?_
    refine k_istore (ls' := [(0, .ref 14), (1, .int (iI (p))), (2, .int (iI (s))), (3, .int (iI (f_free σ p))), (4, .int (iI (m))), (5, .int (iI (e))), (6, .int (iI (f_path σ s m e i31))), (7, .int (iI ((i31 : Int)))), (8, .int (iI (f_path σ s m e (i31 + 1))))]) dX1_carryOut_51 (by decide) rfl rfl ?_
    refine k_aload_n dX1_carryOut_53 0 rfl rfl (by decide) ?_
    refine k_get (kf := 0) (v := .ref 1) dX1_carryOut_54 kcX1 w_218 (by decide) (by decide) (s_14 hsh) rfl rfl ?_
    refine k_iload dX1_carryOut_57 7 rfl ?_
    refine k_aload_n dX1_carryOut_59 0 rfl rfl (by decide) ?_
    refine k_get (kf := 1) (v := .ref 15) dX1_carryOut_60 kcX1 w_219 (by decide) (by decide) (s_14 hsh) rfl rfl ?_
    refine k_iload dX1_carryOut_63 6 rfl ?_
    refine k_callSNr (st := [.int (iI ((i31 : Int))), .ref 1]) (as := [.ref 15, .int (iI (f_path σ s m e i31))]) dX1_carryOut_65 oX7_read w_677 w_460 rfl (by omega) rfl (Nat.le_of_ble_eq_true rfl) (c_readIn (by decide) (s_15 hsh) (by decide) (by omega) (by omega)) ?_
    refine k_eqst (congrArg (fun z : Int => Value.int (iI z) :: [.int (iI ((i31 : Int))), .ref 1]) (show u_few σ s 15 (f_path σ s m e i31).toNat = (u_carN σ s m e i31) 15 (f_path σ s m e i31).toNat from rfl)) ?_
    refine k_aload_n dX1_carryOut_68 0 rfl rfl (by decide) ?_
    refine k_get (kf := 2) (v := .ref 16) dX1_carryOut_69 kcX1 w_220 (by decide) (by decide) (s_14 hsh) rfl rfl ?_
    refine k_iload dX1_carryOut_72 8 rfl ?_
    refine k_callSNr (st := [.int (iI (u_few σ s 15 (f_path σ s m e i31).toNat)), .int (iI ((i31 : Int))), .ref 1]) (as := [.ref 16, .int (iI (f_path σ s m e (i31 + 1)))]) dX1_carryOut_74 oX7_read w_677 w_460 rfl (by omega) rfl (Nat.le_of_ble_eq_true rfl) (c_readIn (by decide) (s_16 hsh) (by decide) (by omega) (by omega)) ?_
    refine k_eqst (congrArg (fun z : Int => Value.int (iI z) :: [.int (iI (u_few σ s 15 (f_path σ s m e i31).toNat)), .int (iI ((i31 : Int))), .ref 1]) (show u_few σ s 16 (f_path σ s m e (i31 + 1)).toNat = (u_carN σ s m e i31) 16 (f_path σ s m e (i31 + 1)).toNat from rfl)) ?_
    refine k_iconst (v := (-1)) dX1_carryOut_77 rfl ?_
    refine k_ixor (v := (iI (u_few σ s 16 (f_path σ s m e (i31 + 1)).toNat) ^^^ iI (-1))) dX1_carryOut_78 rfl ?_
    refine k_iand (v := (iI (z_diff (u_few σ s 15 (f_path σ s m e i31).toNat) (u_few σ s 16 (f_path σ s m e (i31 + 1)).toNat)))) dX1_carryOut_79 (z_diffI (by omega) (by omega) (by omega)) ?_
    refine k_iconst (v := 0) dX1_carryOut_80 rfl ?_
    refine k_callSNr (st := [.int (iI ((i31 : Int))), .ref 1]) (as := [.int (iI (z_diff (u_few σ s 15 (f_path σ s m e i31).toNat) (u_few σ s 16 (f_path σ s m e (i31 + 1)).toNat))), .int (iI (0))]) dX1_carryOut_81 oX7_memberAt w_865 w_866 rfl (by omega) rfl (Nat.le_of_ble_eq_true rfl) (c_memberAt ⟨by omega, by omega⟩ ⟨by omega, by omega⟩ (by omega) (by omega)) ?_
    refine k_eqst (congrArg (fun z : Int => Value.int (iI z) :: [.int (iI ((i31 : Int))), .ref 1]) (show f_mover σ s m e i31 = g_memb (z_diff (u_few σ s 15 (f_path σ s m e i31).toNat) (u_few σ s 16 (f_path σ s m e (i31 + 1)).toNat)) 0 from rfl)) ?_
    refine k_iload dX1_carryOut_84 8 rfl ?_
    refine k_callVr (st := []) (as := [.int (iI ((i31 : Int))), .int (iI (f_mover σ s m e i31)), .int (iI (f_path σ s m e (i31 + 1)))]) dX1_carryOut_86 oX5_noteMove w_869 w_870 w_871 rfl (by omega) rfl (Nat.le_of_ble_eq_true rfl) (by decide) (s_1 hsh) rfl (c_noteMove hsh hT ⟨by omega, by omega⟩ ⟨by omega, by omega⟩ ⟨by omega, by omega⟩ (by omega)) ?_
    refine k_eqσ (σ' := (u_carN σ s m e (i31 + 1))) (by funext i; by_cases e9 : i = 9; (· subst e9; rfl); by_cases e8 : i = 8; (· subst e8; rfl); simp [k_up, u_carN, u_few, u_note, e9, e8]) ?_
    refine k_iload dX1_carryOut_89 8 rfl ?_
    refine k_istore (ls' := [(0, .ref 14), (1, .int (iI (p))), (2, .int (iI (s))), (3, .int (iI (f_free σ p))), (4, .int (iI (m))), (5, .int (iI (e))), (6, .int (iI (f_path σ s m e (i31 + 1)))), (7, .int (iI ((i31 : Int)))), (8, .int (iI (f_path σ s m e (i31 + 1))))]) dX1_carryOut_91 (by decide) rfl rfl ?_
    refine k_iinc (ls' := [(0, .ref 14), (1, .int (iI (p))), (2, .int (iI (s))), (3, .int (iI (f_free σ p))), (4, .int (iI (m))), (5, .int (iI (e))), (6, .int (iI (f_path σ s m e (i31 + 1)))), (7, .int (iI ((i31 : Int) + 1))), (8, .int (iI (f_path σ s m e (i31 + 1))))]) dX1_carryOut_93 7 rfl (by decide) rfl rfl ?_
    refine k_goto (tgt := 31) dX1_carryOut_96 rfl ?_
    refine k_dropr (ls' := [(0, .ref 14), (1, .int (iI (p))), (2, .int (iI (s))), (3, .int (iI (f_free σ p))), (4, .int (iI (m))), (5, .int (iI (e))), (6, .int (iI (f_path σ s m e (i31 + 1)))), (7, .int (iI ((i31 : Int) + 1)))]) (ex := [(8, .int (iI (f_path σ s m e (i31 + 1))))]) rfl ?_
    exact ih31
end K_S
