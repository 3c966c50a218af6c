/-! ===== THE FACE: the line ===== -/
section K_LN
variable {E : k_E} {M M1 : k_M} {dp d1 pc k n k1 n1 na : Nat} {ls : List (Nat × Value)} {st as : List Value} {sh : List k_Sh} {σ σ' τ : Nat → Nat → Int} {Q Q1 : k_Q} {o : Option Value}
theorem u_appI_3 {a v w : Nat} (hB : k_SB sh σ a v w) (x : Int) : u_appI σ a v x a 3 = σ a 3 + f_dg x := by
  unfold u_appI
  rw [k_up_same]
  rfl
theorem g_digits_r {f : Nat → Int} (h : ∀ j, 0 ≤ f j ∧ f j < 128) {x : Int} (hx : 0 ≤ x ∧ x < 100) (y : Int) : ∀ j, 0 ≤ g_digits f x y j ∧ g_digits f x y j < 128 := by
  intro j
  have := h j
  unfold g_digits k_u1
  split <;> (dsimp only; (repeat' split) <;> omega)
theorem k_SB_appI {a v w : Nat} (hB : k_SB sh σ a v w) {x : Int} (hx0 : 0 ≤ x ∧ x < 100) (hr0 : σ a 3 + f_dg x ≤ w) : k_SB sh (u_appI σ a v x) a v w := by
  obtain ⟨b0, b1, ⟨b2, b3, b4⟩, ⟨b5, b6, b7, b8⟩, b9⟩ := id hB
  have b10 : ¬ v = a := fun e => by rw [e, b0] at b1; cases b1
  have q1 : 1 ≤ f_dg x ∧ f_dg x ≤ 2 := by unfold f_dg; split <;> decide
  have e : u_appI σ a v x a = k_u1 (σ a) 3 (σ a 3 + f_dg x) := by
    unfold u_appI
    rw [k_up_same]
  refine ⟨b0, b1, ⟨b2, b3, b4⟩, ?_, ?_⟩
  · rw [e]
    exact ⟨b5, b6, by show 0 ≤ σ a 3 + f_dg x; omega, by show σ a 3 + f_dg x ≤ w; omega⟩
  · intro j
    unfold u_appI
    rw [k_up_ne b10, k_up_same]
    exact g_digits_r b9 hx0 _ j
theorem k_SB_set0 {a v w : Nat} (hB : k_SB sh σ a v w) : k_SB sh (u_set0 σ a) a v w := by
  obtain ⟨b0, b1, ⟨b2, b3, b4⟩, ⟨b5, b6, b7, b8⟩, b9⟩ := id hB
  have b10 : ¬ v = a := fun e => by rw [e, b0] at b1; cases b1
  refine ⟨b0, b1, ⟨b2, b3, b4⟩, ?_, ?_⟩
  · unfold u_set0
    rw [k_up_same]
    have e0 : ∀ j, j ≠ 2 → (if 0 < σ a 3 then k_u1 (σ a) 2 1 else σ a) j = σ a j := by
      intro j hj
      split
      · exact if_neg hj
      · rfl
    refine ⟨(e0 0 (by decide)).trans b5, (e0 1 (by decide)).trans b6, ?_, ?_⟩
    · exact Int.le_refl 0
    · show (0 : Int) ≤ w
      omega
  · intro j
    unfold u_set0
    rw [k_up_ne b10]
    exact b9 j
theorem u_set0_3 (σ : Nat → Nat → Int) (a : Nat) : u_set0 σ a a 3 = 0 := by
  unfold u_set0
  rw [k_up_same]
  rfl
def u_C (σ : Nat → Nat → Int) (c : Int) : Nat → Nat → Int := u_appC σ 121 122 c
def u_I (σ : Nat → Nat → Int) (x : Int) : Nat → Nat → Int := u_appI σ 121 122 x
theorem u_C_ne (σ : Nat → Nat → Int) (c : Int) {i : Nat} (h : i ≠ 121 ∧ i ≠ 122) : u_C σ c i = σ i := by
  unfold u_C u_appC
  rw [k_up_ne h.2, k_up_ne h.1]
theorem u_I_ne (σ : Nat → Nat → Int) (c : Int) {i : Nat} (h : i ≠ 121 ∧ i ≠ 122) : u_I σ c i = σ i := by
  unfold u_I u_appI
  rw [k_up_ne h.1, k_up_ne h.2]
theorem u_s0_ne (σ : Nat → Nat → Int) {i : Nat} (h : i ≠ 121 ∧ i ≠ 122) : u_set0 σ 121 i = σ i := by
  unfold u_set0
  rw [k_up_ne h.1]
/-- the builder of the line, its length at most m -/
def k_LB (sh : List k_Sh) (σ : Nat → Nat → Int) (m : Int) : Prop := k_SB sh σ 121 122 16 ∧ σ 121 3 ≤ m
theorem k_LB_C {m c : Int} (h : k_LB sh σ m) (hm : m < 16) (hc : 0 ≤ c ∧ c < 128) : k_LB sh (u_C σ c) (m + 1) :=
  ⟨k_SB_app h.1 hc (by have := h.2; omega), by have := u_appC_3 h.1 c; have := h.2; unfold u_C; omega⟩
theorem k_LB_I {m x : Int} (h : k_LB sh σ m) (hm : m + f_dg x ≤ 16) (hc : 0 ≤ x ∧ x < 100) : k_LB sh (u_I σ x) (m + f_dg x) :=
  ⟨k_SB_appI h.1 hc (by have := h.2; omega), by have := u_appI_3 h.1 x; have := h.2; unfold u_I; omega⟩
theorem f_dg1 {x : Int} (h : x < 10) : f_dg x = 1 := if_pos h
theorem f_dg2 (x : Int) : 1 ≤ f_dg x ∧ f_dg x ≤ 2 := by unfold f_dg; split <;> decide
def u_wl (σ : Nat → Nat → Int) (p s : Int) : Nat → Nat → Int := if s = -1 then u_C σ 45 else if s = σ 7 p.toNat then u_C (u_I σ s) 33 else u_I σ s
theorem u_wl_ne (σ : Nat → Nat → Int) (p s : Int) {i : Nat} (h : i ≠ 121 ∧ i ≠ 122) : u_wl σ p s i = σ i := by
  unfold u_wl
  split
  · exact u_C_ne σ _ h
  · split
    · exact (u_C_ne _ _ h).trans (u_I_ne σ _ h)
    · exact u_I_ne σ _ h
theorem k_LB_le {m m2 : Int} (h : k_LB sh σ m) (hm : m ≤ m2) : k_LB sh σ m2 := ⟨h.1, Int.le_trans h.2 hm⟩
theorem k_LB_wl {m p s : Int} (h : k_LB sh σ m) (hm : m + 2 ≤ 16) (hs : -1 ≤ s ∧ s < 10) : k_LB sh (u_wl σ p s) (m + 2) := by
  unfold u_wl
  split
  · exact k_LB_le (k_LB_C h (by omega) (by decide)) (by omega)
  · have e : f_dg s = 1 := f_dg1 hs.2
    have h1 := k_LB_I (x := s) h (by omega) ⟨by omega, by omega⟩
    rw [e] at h1
    split
    · exact k_LB_le (k_LB_C h1 (by omega) (by decide)) (by omega)
    · exact k_LB_le h1 (by omega)
def u_tt0 (σ : Nat → Nat → Int) (p : Int) : Nat → Nat → Int := u_C (u_I (u_set0 σ 121) p) 58
def g_tt (σ : Nat → Nat → Int) (p : Int) (n : Nat) : Nat → Nat → Int := k_fold n (fun b τ => u_wl (u_C τ 32) p (f_lesson σ p (b : Int))) (u_tt0 σ p)
theorem u_tt0_ok {p : Int} (h : k_SB sh σ 121 122 16) (hp : 0 ≤ p ∧ p < 12) : k_LB sh (u_tt0 σ p) 3 ∧ ∀ i, i ≠ 121 ∧ i ≠ 122 → u_tt0 σ p i = σ i := by
  have q := f_dg2 p
  have h0 : k_LB sh (u_set0 σ 121) 0 := ⟨k_SB_set0 h, Int.le_of_eq (u_set0_3 σ 121)⟩
  have h1 := k_LB_I (x := p) h0 (by omega) ⟨by omega, by omega⟩
  exact ⟨k_LB_le (k_LB_C h1 (by omega) (by decide)) (by omega), fun i hi => (u_C_ne _ _ hi).trans ((u_I_ne _ _ hi).trans (u_s0_ne σ hi))⟩
theorem g_tt_ok {p : Int} (h : k_SB sh σ 121 122 16) (hp : 0 ≤ p ∧ p < 12) (hl : ∀ b : Int, -1 ≤ f_lesson σ p b ∧ f_lesson σ p b < 10) : ∀ n : Nat, n ≤ 4 → k_LB sh (g_tt σ p n) (3 + 3 * n) ∧ ∀ i, i ≠ 121 ∧ i ≠ 122 → g_tt σ p n i = σ i
  | 0, _ => u_tt0_ok h hp
  | n + 1, hn => by
    obtain ⟨h1, h2⟩ := g_tt_ok h hp hl n (by omega)
    exact ⟨k_LB_le (k_LB_wl (k_LB_C h1 (by omega) (by decide)) (by omega) (hl _)) (by omega), fun i hi => (u_wl_ne _ _ _ hi).trans ((u_C_ne _ _ hi).trans (h2 i hi))⟩
theorem g_tt_s (σ : Nat → Nat → Int) (p : Int) (n : Nat) : g_tt σ p (n + 1) = u_wl (u_C (g_tt σ p n) 32) p (f_lesson σ p (n : Int)) := rfl
theorem k_far_pl (h : ∀ i, i ≠ 121 ∧ i ≠ 122 → τ i = σ i) : k_PlEq τ σ := fun i hi => h i ⟨by omega, by omega⟩
set_option maxHeartbeats 4000000 in
theorem c7_lineAt (hsh : k_Main sh) (hL : k_LB sh σ 16) {i : Int} (hi : -2147483648 ≤ i ∧ i < 2147483648) : k_C E mX7_lineAt 7 [.ref 0, .int (iI (i))] sh σ 1 6 (k_rx (if 0 ≤ i ∧ i < σ 121 3 then .inl (some (.int (iI (σ 122 i.toNat)))) else .inr x_io) sh (σ)) := by
  refine k_C_of (ls0 := [(0, .ref 0), (1, .int (iI (i)))]) rfl pnX7 (fun v hv => k_cat1 rfl hv) (Nat.le_of_ble_eq_true rfl) rfl ?_
  obtain ⟨b0, b1, ⟨b2, b3, b4⟩, ⟨b5, b6, b7, b8⟩, b9⟩ := id hL.1
  refine k_iload_n dX7_lineAt_0 1 rfl rfl ?_
  refine k_if_lt (tgt := 19) dX7_lineAt_1 rfl ⟨by omega, by omega⟩ (fun h_1 => ?_) (fun h_1 => ?_)
  · refine k_iconst (v := 0) dX7_lineAt_19 rfl ?_
    refine k_eqst (congrArg (fun z : Int => Value.int (iI z) :: []) (show zb (0 ≤ i ∧ i < σ 121 3) = 0 from zb_f (by omega))) ?_
    refine k_needIz (k := 0) (n := 0) (st := []) dX7_lineAt_20 w_944 w_945 rfl (by omega) (Nat.le_of_ble_eq_true rfl) (fun h_2 => ?_) (fun h_2 => ⟨(by exact (if_neg (by assumption)).symm), rfl, (rfl)⟩)
    have q1 := b9 i.toNat
    refine k_aload_n dX7_lineAt_23 0 rfl rfl (by decide) ?_
    refine k_get (kf := 9) (v := .ref 121) dX7_lineAt_24 kcX7 w_367 (by decide) (by decide) (s_0 hsh) rfl rfl ?_
    refine k_iload_n dX7_lineAt_27 1 rfl rfl ?_
    refine k_callVCr (Cn := "java/lang/StringBuilder") (st := []) (as := [.int (iI (i))]) dX7_lineAt_28 oJ4_charAt_5068e w_1586 w_1587 w_1588 rfl (by omega) rfl (Nat.le_of_ble_eq_true rfl) (by decide) b0 rfl (c_sbChar (i := i) hL.1 ⟨by omega, by omega⟩ ⟨by omega, by omega⟩) ?_
    exact k_ret_z dX7_lineAt_31 rfl (k_narC (by omega)) ⟨(by exact (if_pos (by omega)).symm), rfl, (rfl)⟩
  · refine k_iload_n dX7_lineAt_4 1 rfl rfl ?_
    refine k_aload_n dX7_lineAt_5 0 rfl rfl (by decide) ?_
    refine k_get (kf := 9) (v := .ref 121) dX7_lineAt_6 kcX7 w_367 (by decide) (by decide) (s_0 hsh) rfl rfl ?_
    refine k_callVCr (Cn := "java/lang/StringBuilder") (st := [.int (iI (i))]) (as := []) dX7_lineAt_9 oJ4_length_8abf5 w_1578 w_1475 w_2295 rfl (by omega) rfl (Nat.le_of_ble_eq_true rfl) (by decide) b0 rfl (c_sbLen hL.1) ?_
    refine k_icmp_ge (tgt := 19) dX7_lineAt_12 rfl ⟨by omega, by omega⟩ ⟨by omega, by omega⟩ (fun h_3 => ?_) (fun h_3 => ?_)
    · refine k_iconst (v := 0) dX7_lineAt_19 rfl ?_
      refine k_eqst (congrArg (fun z : Int => Value.int (iI z) :: []) (show zb (0 ≤ i ∧ i < σ 121 3) = 0 from zb_f (by omega))) ?_
      refine k_needIz (k := 0) (n := 0) (st := []) dX7_lineAt_20 w_944 w_945 rfl (by omega) (Nat.le_of_ble_eq_true rfl) (fun h_4 => ?_) (fun h_4 => ⟨(by exact (if_neg (by assumption)).symm), rfl, (rfl)⟩)
      have q1 := b9 i.toNat
      refine k_aload_n dX7_lineAt_23 0 rfl rfl (by decide) ?_
      refine k_get (kf := 9) (v := .ref 121) dX7_lineAt_24 kcX7 w_367 (by decide) (by decide) (s_0 hsh) rfl rfl ?_
      refine k_iload_n dX7_lineAt_27 1 rfl rfl ?_
      refine k_callVCr (Cn := "java/lang/StringBuilder") (st := []) (as := [.int (iI (i))]) dX7_lineAt_28 oJ4_charAt_5068e w_1586 w_1587 w_1588 rfl (by omega) rfl (Nat.le_of_ble_eq_true rfl) (by decide) b0 rfl (c_sbChar (i := i) hL.1 ⟨by omega, by omega⟩ ⟨by omega, by omega⟩) ?_
      exact k_ret_z dX7_lineAt_31 rfl (k_narC (by omega)) ⟨(by exact (if_pos (by omega)).symm), rfl, (rfl)⟩
    · refine k_iconst (v := 1) dX7_lineAt_15 rfl ?_
      refine k_goto (tgt := 20) dX7_lineAt_16 rfl ?_
      refine k_eqst (congrArg (fun z : Int => Value.int (iI z) :: []) (show zb (0 ≤ i ∧ i < σ 121 3) = 1 from zb_t ⟨by omega, by omega⟩)) ?_
      refine k_needIz (k := 0) (n := 0) (st := []) dX7_lineAt_20 w_944 w_945 rfl (by omega) (Nat.le_of_ble_eq_true rfl) (fun h_5 => ?_) (fun h_5 => ⟨(by exact (if_neg (by assumption)).symm), rfl, (rfl)⟩)
      have q1 := b9 i.toNat
      refine k_aload_n dX7_lineAt_23 0 rfl rfl (by decide) ?_
      refine k_get (kf := 9) (v := .ref 121) dX7_lineAt_24 kcX7 w_367 (by decide) (by decide) (s_0 hsh) rfl rfl ?_
      refine k_iload_n dX7_lineAt_27 1 rfl rfl ?_
      refine k_callVCr (Cn := "java/lang/StringBuilder") (st := []) (as := [.int (iI (i))]) dX7_lineAt_28 oJ4_charAt_5068e w_1586 w_1587 w_1588 rfl (by omega) rfl (Nat.le_of_ble_eq_true rfl) (by decide) b0 rfl (c_sbChar (i := i) hL.1 ⟨by omega, by omega⟩ ⟨by omega, by omega⟩) ?_
      exact k_ret_z dX7_lineAt_31 rfl (k_narC (by omega)) ⟨(by exact (if_pos (by omega)).symm), rfl, (rfl)⟩
set_option maxHeartbeats 4000000 in
theorem c_writeLesson (hsh : k_Main sh) {m : Int} (hL : k_LB sh σ m) (hm : m ≤ 14) {p s : Int} (hr : σ 7 p.toNat < 10 ∧ -1 ≤ σ 7 p.toNat) (hp : -2147483648 ≤ p ∧ p < 2147483648) (hs : -2147483648 ≤ s ∧ s < 2147483648) (hs0 : -1 ≤ s ∧ s < 10) (hp0 : 0 ≤ p ∧ p < 12) : k_C E mX7_writeLesson 5 [.ref 0, .int (iI (p)), .int (iI (s))] sh σ 0 0 (k_ret none sh (u_wl σ p s)) := by
  refine k_C_of (ls0 := [(0, .ref 0), (1, .int (iI (p))), (2, .int (iI (s)))]) rfl pnX7 (fun v hv => k_cat1 rfl hv) (Nat.le_of_ble_eq_true rfl) rfl ?_
  obtain ⟨b0, b1, ⟨b2, b3, b4⟩, ⟨b5, b6, b7, b8⟩, b9⟩ := id hL.1
  refine k_iload_n dX7_writeLesson_0 2 rfl rfl ?_
  refine k_iconst (v := (-1)) dX7_writeLesson_1 rfl ?_
  refine k_icmp_ne (tgt := 16) dX7_writeLesson_2 rfl ⟨by omega, by omega⟩ ⟨by decide, by decide⟩ (fun h_1 => ?_) (fun h_1 => ?_)
  · have e1 : f_dg s = 1 := f_dg1 (by omega)
    refine k_aload_n dX7_writeLesson_16 0 rfl rfl (by decide) ?_
    refine k_get (kf := 9) (v := .ref 121) dX7_writeLesson_17 kcX7 w_367 (by decide) (by decide) (s_0 hsh) rfl rfl ?_
    refine k_iload_n dX7_writeLesson_20 2 rfl rfl ?_
    refine k_callVCr (Cn := "java/lang/StringBuilder") (st := []) (as := [.int (iI (s))]) dX7_writeLesson_21 oJ4_append_bf812 w_1551 w_1430 w_1431 rfl (by omega) rfl (Nat.le_of_ble_eq_true rfl) (by decide) b0 rfl (c_sbAppI (x := s) hL.1 ⟨by omega, by omega⟩ (by omega) (by have := hL.2; show _ ≤ (16 : Int); omega)) ?_
    have hL_2 := k_LB_I (x := s) hL (by omega) ⟨by omega, by omega⟩
    refine k_pop dX7_writeLesson_24 rfl ?_
    refine k_iload_n dX7_writeLesson_25 2 rfl rfl ?_
    refine k_aload_n dX7_writeLesson_26 0 rfl rfl (by decide) ?_
    refine k_get (kf := 0) (v := .ref 1) dX7_writeLesson_27 kcX7 w_358 (by decide) (by decide) (s_0 hsh) rfl rfl ?_
    refine k_getN (kf := 8) (v := .ref 7) dX7_writeLesson_30 kcX5 w_154 (by decide) (by decide) (s_1 hsh) rfl rfl ?_
    refine k_iload_n dX7_writeLesson_33 1 rfl rfl ?_
    refine k_callSr (st := [.int (iI (s))]) (as := [.ref 7, .int (iI (p))]) dX7_writeLesson_34 oX7_read w_947 w_460 rfl (by omega) rfl (Nat.le_of_ble_eq_true rfl) (c_readIn (by decide) (s_7 hsh) (by decide) (by omega) (by omega)) ?_
    refine k_eqst (congrArg (fun z : Int => Value.int (iI z) :: [.int (iI (s))]) (show σ 7 p.toNat = (u_I σ s) 7 (p).toNat from (congrFun (u_I_ne σ s ⟨by decide, by decide⟩) p.toNat).symm)) ?_
    refine k_icmp_ne (tgt := 50) dX7_writeLesson_37 rfl ⟨by omega, by omega⟩ ⟨by omega, by omega⟩ (fun h_3 => ?_) (fun h_3 => ?_)
    · exact k_retv dX7_writeLesson_50 rfl (by unfold u_wl; rw [if_neg h_1, if_neg h_3] <;> rfl)
    · refine k_aload_n dX7_writeLesson_40 0 rfl rfl (by decide) ?_
      refine k_get (kf := 9) (v := .ref 121) dX7_writeLesson_41 kcX7 w_367 (by decide) (by decide) (s_0 hsh) rfl rfl ?_
      refine k_bipush (v := 33) dX7_writeLesson_44 (by decide) ?_
      refine k_callVCr (Cn := "java/lang/StringBuilder") (st := []) (as := [.int (iI (33))]) dX7_writeLesson_46 oJ4_append_cf468 w_1552 w_1553 w_1554 rfl (by omega) rfl (Nat.le_of_ble_eq_true rfl) (by decide) b0 rfl (c_sbApp (c := 33) hL_2.1 ⟨by omega, by omega⟩ (by omega) (by have := hL_2.2; show _ < (16 : Int); omega)) ?_
      have hL_4 := k_LB_C (c := 33) hL_2 (by omega) (by decide)
      refine k_pop dX7_writeLesson_49 rfl ?_
      exact k_retv dX7_writeLesson_50 rfl (by unfold u_wl; rw [if_neg h_1, if_pos h_3] <;> rfl)
  · refine k_aload_n dX7_writeLesson_5 0 rfl rfl (by decide) ?_
    refine k_get (kf := 9) (v := .ref 121) dX7_writeLesson_6 kcX7 w_367 (by decide) (by decide) (s_0 hsh) rfl rfl ?_
    refine k_bipush (v := 45) dX7_writeLesson_9 (by decide) ?_
    refine k_callVCr (Cn := "java/lang/StringBuilder") (st := []) (as := [.int (iI (45))]) dX7_writeLesson_11 oJ4_append_cf468 w_1552 w_1553 w_1554 rfl (by omega) rfl (Nat.le_of_ble_eq_true rfl) (by decide) b0 rfl (c_sbApp (c := 45) hL.1 ⟨by omega, by omega⟩ (by omega) (by have := hL.2; show _ < (16 : Int); omega)) ?_
    have hL_5 := k_LB_C (c := 45) hL (by omega) (by decide)
    refine k_pop dX7_writeLesson_14 rfl ?_
    exact k_retv dX7_writeLesson_15 rfl (by unfold u_wl; rw [if_pos h_1] <;> rfl)
set_option maxHeartbeats 4000000 in
theorem c7_writeTimetable (hsh : k_Main sh) (hI : k_Ty σ) (hL : k_SB sh σ 121 122 16){p : Int} (hp : -2147483648 ≤ p ∧ p < 2147483648) : k_C E mX7_writeTimetable 7 [.ref 0, .int (iI (p))] sh σ 1 6 (k_rx (if 0 ≤ p ∧ p < σ 1 2 then .inl (some (.int (iI (g_tt σ p (σ 1 1).toNat 121 3)))) else .inr x_io) sh (if 0 ≤ p ∧ p < σ 1 2 then g_tt σ p (σ 1 1).toNat else σ)) := by
  refine k_C_of (ls0 := [(0, .ref 0), (1, .int (iI (p)))]) rfl pnX7 (fun v hv => k_cat1 rfl hv) (Nat.le_of_ble_eq_true rfl) rfl ?_
  obtain ⟨t0, t1, t2, t3, t4, t5, t6, t7, t8, t9, t10, t11⟩ := id hI
  obtain ⟨b0, b1, ⟨b2, b3, b4⟩, ⟨b5, b6, b7, b8⟩, b9⟩ := id hL
  have hL16 : k_LB sh σ 16 := ⟨hL, b8⟩
  refine k_aload_n dX7_writeTimetable_0 0 rfl rfl (by decide) ?_
  refine k_get (kf := 0) (v := .ref 1) dX7_writeTimetable_1 kcX7 w_358 (by decide) (by decide) (s_0 hsh) rfl rfl ?_
  refine k_iload_n dX7_writeTimetable_4 1 rfl rfl ?_
  refine k_callVr (st := []) (as := [.int (iI (p))]) dX7_writeTimetable_5 oX5_hasPupil w_1043 w_444 w_445 rfl (by omega) rfl (Nat.le_of_ble_eq_true rfl) (by decide) (s_1 hsh) rfl (c_hasPupil hsh hI ⟨by omega, by omega⟩) ?_
  refine k_needIz (k := 0) (n := 0) (st := []) dX7_writeTimetable_8 w_944 w_945 rfl (by omega) (Nat.le_of_ble_eq_true rfl) (fun h_1 => ?_) (fun h_1 => ⟨((if_neg (by assumption)).symm), rfl, ((if_neg (by assumption)).symm)⟩)
  have hp00 : 0 ≤ p ∧ p < σ 1 2 := h_1
  have hp1 : 0 ≤ p ∧ p < 12 := by omega
  have hl : ∀ b : Int, -1 ≤ f_lesson σ p b ∧ f_lesson σ p b < 10 := fun b => by have := f_lesson_r hI p b; omega
  have hpd := f_dg2 p
  refine k_aload_n dX7_writeTimetable_11 0 rfl rfl (by decide) ?_
  refine k_get (kf := 9) (v := .ref 121) dX7_writeTimetable_12 kcX7 w_367 (by decide) (by decide) (s_0 hsh) rfl rfl ?_
  refine k_iconst (v := 0) dX7_writeTimetable_15 rfl ?_
  refine k_callVCr (Cn := "java/lang/StringBuilder") (st := []) (as := [.int (iI (0))]) dX7_writeTimetable_16 oJ4_setLength_d00df w_1300 w_1301 w_1302 rfl (by omega) rfl (Nat.le_of_ble_eq_true rfl) (by decide) b0 rfl (c_sbSet hL16.1) ?_
  have hL0 : k_LB sh (u_set0 σ 121) 0 := ⟨k_SB_set0 hL16.1, Int.le_of_eq (u_set0_3 _ 121)⟩
  refine k_aload_n dX7_writeTimetable_19 0 rfl rfl (by decide) ?_
  refine k_get (kf := 9) (v := .ref 121) dX7_writeTimetable_20 kcX7 w_367 (by decide) (by decide) (s_0 hsh) rfl rfl ?_
  refine k_iload_n dX7_writeTimetable_23 1 rfl rfl ?_
  refine k_callVCr (Cn := "java/lang/StringBuilder") (st := []) (as := [.int (iI (p))]) dX7_writeTimetable_24 oJ4_append_bf812 w_1551 w_1430 w_1431 rfl (by omega) rfl (Nat.le_of_ble_eq_true rfl) (by decide) b0 rfl (c_sbAppI (x := p) hL0.1 ⟨by omega, by omega⟩ (by omega) (by have := hL0.2; show _ ≤ (16 : Int); omega)) ?_
  have hL_2 := k_LB_I (x := p) hL0 (by omega) ⟨by omega, by omega⟩
  refine k_pop dX7_writeTimetable_27 rfl ?_
  refine k_aload_n dX7_writeTimetable_28 0 rfl rfl (by decide) ?_
  refine k_get (kf := 9) (v := .ref 121) dX7_writeTimetable_29 kcX7 w_367 (by decide) (by decide) (s_0 hsh) rfl rfl ?_
  refine k_bipush (v := 58) dX7_writeTimetable_32 (by decide) ?_
  refine k_callVCr (Cn := "java/lang/StringBuilder") (st := []) (as := [.int (iI (58))]) dX7_writeTimetable_34 oJ4_append_cf468 w_1552 w_1553 w_1554 rfl (by omega) rfl (Nat.le_of_ble_eq_true rfl) (by decide) b0 rfl (c_sbApp (c := 58) hL_2.1 ⟨by omega, by omega⟩ (by omega) (by have := hL_2.2; show _ < (16 : Int); omega)) ?_
  have hL_3 := k_LB_C (c := 58) hL_2 (by omega) (by decide)
  refine k_pop dX7_writeTimetable_37 rfl ?_
  refine k_iconst (v := 0) dX7_writeTimetable_38 rfl ?_
  refine k_istore_n (ls' := [(0, .ref 0), (1, .int (iI (p))), (2, .int (iI (0)))]) dX7_writeTimetable_39 rfl (by decide) rfl rfl ?_
  refine k_eqσ (σ' := (g_tt σ p 0)) (rfl) ?_
  show k_V E mX7_writeTimetable 7 40 [(0, .ref 0), (1, .int (iI (p))), (2, .int (iI (0)))] [] sh (g_tt σ p 0) 1 6 _
  refine k_down (P := fun i40 : Nat => k_V E mX7_writeTimetable _ 40 [(0, .ref 0), (1, .int (iI (p))), (2, .int (iI ((i40 : Int))))] [] sh (g_tt σ p i40) _ _ _) ((σ 1 1).toNat) ?_ ?_
  · skip
    have hT := g_tt_ok hL hp1 hl ((σ 1 1).toNat) (by omega)
    have hT1 : (g_tt σ p ((σ 1 1).toNat)) 1 = σ 1 := hT.2 1 ⟨by decide, by decide⟩
    skip
    have hT3 : (g_tt σ p ((σ 1 1).toNat)) 121 3 ≤ 3 + 3 * (((σ 1 1).toNat) : Int) := hT.1.2
    have hT4 : 0 ≤ (g_tt σ p ((σ 1 1).toNat)) 121 3 := hT.1.1.2.2.2.1.2.2.1
    refine k_iload_n dX7_writeTimetable_40 2 rfl rfl ?_
    refine k_aload_n dX7_writeTimetable_41 0 rfl rfl (by decide) ?_
    refine k_get (kf := 0) (v := .ref 1) dX7_writeTimetable_42 kcX7 w_358 (by decide) (by decide) (s_0 hsh) rfl rfl ?_
    refine k_getN (kf := 1) (v := .int (iI ((g_tt σ p ((σ 1 1).toNat)) 1 1))) dX7_writeTimetable_45 kcX5 w_136 (by decide) (by decide) (s_1 hsh) rfl rfl ?_
    refine k_eqst (congrArg (fun z : Int => Value.int (iI z) :: [.int (iI ((((σ 1 1).toNat : Nat) : Int)))]) (show σ 1 1 = (g_tt σ p ((σ 1 1).toNat)) 1 1 from by rw [hT1])) ?_
    refine k_icmp_ge (tgt := 81) dX7_writeTimetable_48 rfl ⟨by omega, by omega⟩ ⟨by omega, by omega⟩ (fun h_4 => ?_) (fun h_4 => absurd h_4 (by omega))
    refine k_aload_n dX7_writeTimetable_81 0 rfl rfl (by decide) ?_
    refine k_get (kf := 9) (v := .ref 121) dX7_writeTimetable_82 kcX7 w_367 (by decide) (by decide) (s_0 hsh) rfl rfl ?_
    refine k_callVCr (Cn := "java/lang/StringBuilder") (st := []) (as := []) dX7_writeTimetable_85 oJ4_length_8abf5 w_1578 w_1475 w_2295 rfl (by omega) rfl (Nat.le_of_ble_eq_true rfl) (by decide) b0 rfl (c_sbLen hT.1.1) ?_
    exact k_ret_i dX7_writeTimetable_88 rfl ⟨((if_pos hp00).symm), rfl, ((if_pos hp00).symm)⟩
  · intro i40 hi40 ih40
    have hT := g_tt_ok hL hp1 hl i40 (by omega)
    have hT1 : (g_tt σ p i40) 1 = σ 1 := hT.2 1 ⟨by decide, by decide⟩
    skip
    have hT3 : (g_tt σ p i40) 121 3 ≤ 3 + 3 * (i40 : Int) := hT.1.2
    have hT4 : 0 ≤ (g_tt σ p i40) 121 3 := hT.1.1.2.2.2.1.2.2.1
    refine k_iload_n dX7_writeTimetable_40 2 rfl rfl ?_
    refine k_aload_n dX7_writeTimetable_41 0 rfl rfl (by decide) ?_
    refine k_get (kf := 0) (v := .ref 1) dX7_writeTimetable_42 kcX7 w_358 (by decide) (by decide) (s_0 hsh) rfl rfl ?_
    refine k_getN (kf := 1) (v := .int (iI ((g_tt σ p i40) 1 1))) dX7_writeTimetable_45 kcX5 w_136 (by decide) (by decide) (s_1 hsh) rfl rfl ?_
    refine k_eqst (congrArg (fun z : Int => Value.int (iI z) :: [.int (iI ((i40 : Int)))]) (show σ 1 1 = (g_tt σ p i40) 1 1 from by rw [hT1])) ?_
    refine k_icmp_ge (tgt := 81) dX7_writeTimetable_48 rfl ⟨by omega, by omega⟩ ⟨by omega, by omega⟩ (fun h_5 => absurd h_5 (by omega)) (fun h_5 => ?_)
    refine k_aload_n dX7_writeTimetable_51 0 rfl rfl (by decide) ?_
    refine k_get (kf := 9) (v := .ref 121) dX7_writeTimetable_52 kcX7 w_367 (by decide) (by decide) (s_0 hsh) rfl rfl ?_
    refine k_bipush (v := 32) dX7_writeTimetable_55 (by decide) ?_
    refine k_callVCr (Cn := "java/lang/StringBuilder") (st := []) (as := [.int (iI (32))]) dX7_writeTimetable_57 oJ4_append_cf468 w_1552 w_1553 w_1554 rfl (by omega) rfl (Nat.le_of_ble_eq_true rfl) (by decide) b0 rfl (c_sbApp (c := 32) hT.1.1 ⟨by omega, by omega⟩ (by omega) (by have := hT.1.2; show _ < (16 : Int); omega)) ?_
    have hL_6 := k_LB_C (c := 32) hT.1 (by omega) (by decide)
    refine k_pop dX7_writeTimetable_60 rfl ?_
    have hfar : ∀ i, i ≠ 121 ∧ i ≠ 122 → u_C (g_tt σ p i40) 32 i = σ i := fun i hi => (u_C_ne _ _ hi).trans (hT.2 i hi)
    have hr7 : u_C (g_tt σ p i40) 32 7 p.toNat < 10 ∧ -1 ≤ u_C (g_tt σ p i40) 32 7 p.toNat := by rw [hfar 7 ⟨by decide, by decide⟩]; have := t8 p.toNat; omega
    have hlb := hl (i40 : Int)
    refine k_aload_n dX7_writeTimetable_61 0 rfl rfl (by decide) ?_
    refine k_iload_n dX7_writeTimetable_62 1 rfl rfl ?_
    refine k_aload_n dX7_writeTimetable_63 0 rfl rfl (by decide) ?_
    refine k_get (kf := 0) (v := .ref 1) dX7_writeTimetable_64 kcX7 w_358 (by decide) (by decide) (s_0 hsh) rfl rfl ?_
    refine k_iload_n dX7_writeTimetable_67 1 rfl rfl ?_
    refine k_iload_n dX7_writeTimetable_68 2 rfl rfl ?_
    refine k_callVr (st := [.int (iI (p)), .ref 0]) (as := [.int (iI (p)), .int (iI ((i40 : Int)))]) dX7_writeTimetable_69 oX5_lesson w_1067 w_1068 w_1069 rfl (by omega) rfl (Nat.le_of_ble_eq_true rfl) (by decide) (s_1 hsh) rfl (c_lesson hsh ((k_far_pl hfar).ty hI) ⟨by omega, by omega⟩ ⟨by omega, by omega⟩ (by omega)) ?_
    refine k_eqst (congrArg (fun z : Int => Value.int (iI z) :: [.int (iI (p)), .ref 0]) (show f_lesson σ p (i40 : Int) = f_lesson (u_C (g_tt σ p i40) 32) p ((i40 : Int)) from ((k_far_pl hfar).lesson p (i40 : Int)).symm)) ?_
    refine k_callVr (st := []) (as := [.int (iI (p)), .int (iI (f_lesson σ p (i40 : Int)))]) dX7_writeTimetable_72 oX7_writeLesson w_1574 w_1576 w_25 rfl (by omega) rfl (Nat.le_of_ble_eq_true rfl) (by decide) (s_0 hsh) rfl (c_writeLesson (m := 3 + 3 * (i40 : Int) + 1) (p := p) (s := f_lesson σ p (i40 : Int)) hsh hL_6 (by omega) hr7 ⟨by omega, by omega⟩ ⟨by omega, by omega⟩ ⟨by omega, by omega⟩ ⟨by omega, by omega⟩) ?_
    refine k_iinc (ls' := [(0, .ref 0), (1, .int (iI (p))), (2, .int (iI ((i40 : Int) + 1)))]) dX7_writeTimetable_75 2 rfl (by decide) rfl rfl ?_
    refine k_goto (tgt := 40) dX7_writeTimetable_78 rfl ?_
    refine k_eqσ (σ' := (g_tt σ p (i40 + 1))) (rfl) ?_
    exact ih40
end K_LN
