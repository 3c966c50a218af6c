/-! ===== StringBuilder ===== -/
section K_AB
variable {E : k_E} {sh : List k_Sh} {σ : Nat → Nat → Int}
/-- a StringBuilder at a: its bytes at v, w of them; Latin1, all below 128 -/
def k_SB (sh : List k_Sh) (σ : Nat → Nat → Int) (a v w : Nat) : Prop := sh[a]? = some (.inr (0, [1, 0, 0, 0])) ∧ sh[v]? = some (.inl (2, w)) ∧ (a < 1000 ∧ v < 1000000 ∧ w ≤ 200) ∧ (σ a 0 = (v : Int) ∧ σ a 1 = 0 ∧ 0 ≤ σ a 3 ∧ σ a 3 ≤ w) ∧ (∀ j, 0 ≤ σ v j ∧ σ v j < 128)
def u_set0 (σ : Nat → Nat → Int) (a : Nat) : Nat → Nat → Int := k_up σ a (k_u1 (if 0 < σ a 3 then k_u1 (σ a) 2 1 else σ a) 3 0)
def u_appC (σ : Nat → Nat → Int) (a v : Nat) (c : Int) : Nat → Nat → Int := k_up (k_up σ a (k_u1 (σ a) 3 (σ a 3 + 1))) v (k_u1 (σ v) (σ a 3).toNat c)
def f_dg (x : Int) : Int := if x < 10 then 1 else 2
def g_digits (f : Nat → Int) (x idx : Int) : Nat → Int := if x < 10 then k_u1 f (idx - 1).toNat (48 + x) else k_u1 (k_u1 f (idx - 1).toNat (48 + x % 10)) (idx - 2).toNat (48 + x / 10)
def u_appI (σ : Nat → Nat → Int) (a v : Nat) (x : Int) : Nat → Nat → Int := k_up (k_up σ v (g_digits (σ v) x (σ a 3 + f_dg x))) a (k_u1 (σ a) 3 (σ a 3 + f_dg x))
set_option maxHeartbeats 4000000 in
theorem c_sbLatin {a v w : Nat} (hB : k_SB sh σ a v w)  : k_C E mJ5_isLatin1_aae02 1 [.ref a] sh σ 0 0 (k_ret (some (.int (iI (1)))) sh σ) := by
  refine k_C_of (ls0 := [(0, .ref a)]) rfl pnJ5 (fun v hv => k_cat1 rfl hv) (Nat.le_of_ble_eq_true rfl) rfl ?_
  obtain ⟨b0, b1, ⟨b2, b3, b4⟩, ⟨b5, b6, b7, b8⟩, b9⟩ := id hB
  have b10 : ¬ v = a := fun e => by rw [e, b0] at b1; cases b1
  refine k_getCS dJ5_isLatin1_aae02_0 w_314 ?_
  refine k_if_eq (tgt := 17) dJ5_isLatin1_aae02_3 rfl ⟨by decide, by decide⟩ (fun h_1 => absurd h_1 (by decide)) (fun h_1 => ?_)
  refine k_aload_n dJ5_isLatin1_aae02_6 0 rfl rfl (by omega) ?_
  refine k_get (kf := 1) (v := .int (iI (σ a 1))) dJ5_isLatin1_aae02_7 kcJ4 w_324 (by decide) (by omega) b0 rfl rfl ?_
  refine k_eqst (congrArg (fun z : Int => Value.int (iI z) :: []) (show 0 = σ a 1 from b6.symm)) ?_
  refine k_if_ne (tgt := 17) dJ5_isLatin1_aae02_10 rfl ⟨by decide, by decide⟩ (fun h_2 => absurd h_2 (by decide)) (fun h_2 => ?_)
  refine k_iconst (v := 1) dJ5_isLatin1_aae02_13 rfl ?_
  refine k_goto (tgt := 18) dJ5_isLatin1_aae02_14 rfl ?_
  exact k_retz dJ5_isLatin1_aae02_18 rfl (Or.inr rfl) rfl (by rfl)
set_option maxHeartbeats 4000000 in
theorem c_sbLen5 {a v w : Nat} (hB : k_SB sh σ a v w)  : k_C E mJ5_length_8abf5 1 [.ref a] sh σ 0 0 (k_ret (some (.int (iI (σ a 3)))) sh σ) := by
  refine k_C_of (ls0 := [(0, .ref a)]) rfl pnJ5 (fun v hv => k_cat1 rfl hv) (Nat.le_of_ble_eq_true rfl) rfl ?_
  obtain ⟨b0, b1, ⟨b2, b3, b4⟩, ⟨b5, b6, b7, b8⟩, b9⟩ := id hB
  have b10 : ¬ v = a := fun e => by rw [e, b0] at b1; cases b1
  refine k_aload_n dJ5_length_8abf5_0 0 rfl rfl (by omega) ?_
  refine k_get (kf := 3) (v := .int (iI (σ a 3))) dJ5_length_8abf5_1 kcJ4 w_327 (by decide) (by omega) b0 rfl rfl ?_
  exact k_reti dJ5_length_8abf5_4 rfl rfl (by rfl)
set_option maxHeartbeats 4000000 in
theorem c_sbLen {a v w : Nat} (hB : k_SB sh σ a v w)  : k_C E mJ4_length_8abf5 2 [.ref a] sh σ 0 0 (k_ret (some (.int (iI (σ a 3)))) sh σ) := by
  refine k_C_of (ls0 := [(0, .ref a)]) rfl pnJ4 (fun v hv => k_cat1 rfl hv) (Nat.le_of_ble_eq_true rfl) rfl ?_
  obtain ⟨b0, b1, ⟨b2, b3, b4⟩, ⟨b5, b6, b7, b8⟩, b9⟩ := id hB
  have b10 : ¬ v = a := fun e => by rw [e, b0] at b1; cases b1
  refine k_aload_n dJ4_length_8abf5_0 0 rfl rfl (by omega) ?_
  refine k_callSUr (Cn := "java/lang/StringBuilder") (st := []) (as := []) dJ4_length_8abf5_1 oJ5_length_8abf5 w_1477 w_1473 w_336 w_1472 (by decide) rfl (by omega) rfl (Nat.le_of_ble_eq_true rfl) (by omega) b0 rfl (c_sbLen5 hB) ?_
  exact k_reti dJ4_length_8abf5_4 rfl rfl (by rfl)
set_option maxHeartbeats 4000000 in
theorem c_sbChar5 {a v w : Nat} (hB : k_SB sh σ a v w) {i : Int} (hi : -2147483648 ≤ i ∧ i < 2147483648) (hi0 : 0 ≤ i ∧ i < σ a 3) : k_C E mJ5_charAt_5068e 3 [.ref a, .int (iI (i))] sh σ 0 0 (k_ret (some (.int (iI (σ v i.toNat)))) sh σ) := by
  refine k_C_of (ls0 := [(0, .ref a), (1, .int (iI (i)))]) rfl pnJ5 (fun v hv => k_cat1 rfl hv) (Nat.le_of_ble_eq_true rfl) rfl ?_
  obtain ⟨b0, b1, ⟨b2, b3, b4⟩, ⟨b5, b6, b7, b8⟩, b9⟩ := id hB
  have b10 : ¬ v = a := fun e => by rw [e, b0] at b1; cases b1
  have q1 := b9 i.toNat
  refine k_aload_n dJ5_charAt_5068e_0 0 rfl rfl (by omega) ?_
  refine k_get (kf := 1) (v := .int (iI (σ a 1))) dJ5_charAt_5068e_1 kcJ4 w_324 (by decide) (by omega) b0 rfl rfl ?_
  refine k_eqst (congrArg (fun z : Int => Value.int (iI z) :: []) (show 0 = σ a 1 from b6.symm)) ?_
  refine k_istore_n (ls' := [(0, .ref a), (1, .int (iI (i))), (2, .int (iI (0)))]) dJ5_charAt_5068e_4 rfl (by decide) rfl rfl ?_
  refine k_aload_n dJ5_charAt_5068e_5 0 rfl rfl (by omega) ?_
  refine k_get (kf := 0) (v := .ref (σ a 0).toNat) dJ5_charAt_5068e_6 kcJ4 w_323 (by decide) (by omega) b0 rfl rfl ?_
  refine k_eqst (st' := [.ref v]) (by have e : (σ a 0).toNat = v := (by rw [b5]; rfl); rw [e]; first | done | rfl) ?_
  refine k_astore_n (ls' := [(0, .ref a), (1, .int (iI (i))), (2, .int (iI (0))), (3, .ref v)]) dJ5_charAt_5068e_9 rfl (by omega) (by decide) rfl rfl ?_
  refine k_aload_n dJ5_charAt_5068e_10 0 rfl rfl (by omega) ?_
  refine k_get (kf := 3) (v := .int (iI (σ a 3))) dJ5_charAt_5068e_11 kcJ4 w_327 (by decide) (by omega) b0 rfl rfl ?_
  refine k_aload_n dJ5_charAt_5068e_14 3 rfl rfl (by omega) ?_
  refine k_alen dJ5_charAt_5068e_15 (by omega) b1 (by decide) ?_
  refine k_iload_n dJ5_charAt_5068e_16 2 rfl rfl ?_
  refine k_ishr (v := (iI ((w : Int)))) dJ5_charAt_5068e_17 (z_shr0 ⟨by omega, by omega⟩) ?_
  refine k_mmin (st := []) dJ5_charAt_5068e_18 w_1593 w_433 (by omega) (Nat.le_of_ble_eq_true rfl) ⟨by omega, by omega⟩ ⟨by omega, by omega⟩ ?_
  refine k_eqst (congrArg (fun z : Int => Value.int (iI z) :: []) (show σ a 3 = z_min (σ a 3) ((w : Int)) from by unfold z_min; rw [if_pos (by omega)])) ?_
  refine k_istore (ls' := [(0, .ref a), (1, .int (iI (i))), (2, .int (iI (0))), (3, .ref v), (4, .int (iI (σ a 3)))]) dJ5_charAt_5068e_21 (by decide) rfl rfl ?_
  refine k_iload_n dJ5_charAt_5068e_23 1 rfl rfl ?_
  refine k_iload dJ5_charAt_5068e_24 4 rfl ?_
  refine k_callSr (st := []) (as := [.int (iI (i)), .int (iI (σ a 3))]) dJ5_charAt_5068e_26 oJ0_checkIndex_df160 w_1594 w_1569 rfl (by omega) rfl (Nat.le_of_ble_eq_true rfl) (c_strCheck (by omega) (by omega)) ?_
  refine k_iload_n dJ5_charAt_5068e_29 2 rfl rfl ?_
  refine k_if_ne (tgt := 42) dJ5_charAt_5068e_30 rfl ⟨by decide, by decide⟩ (fun h_1 => absurd h_1 (by decide)) (fun h_1 => ?_)
  refine k_aload_n dJ5_charAt_5068e_33 3 rfl rfl (by omega) ?_
  refine k_iload_n dJ5_charAt_5068e_34 1 rfl rfl ?_
  have b11 := b9 (i).toNat
  refine k_bald dJ5_charAt_5068e_35 (by omega) b1 (by omega) (by omega) (by omega) ?_
  refine k_sipush (v := 255) dJ5_charAt_5068e_36 (by decide) ?_
  refine k_iand (v := (iI (σ v (i).toNat))) dJ5_charAt_5068e_39 (k_nB (by omega)).2.1 ?_
  refine k_i2c (v := (iI (σ v (i).toNat))) dJ5_charAt_5068e_40 (k_nB (by omega)).2.2.1 ?_
  exact k_retZ dJ5_charAt_5068e_41 rfl (k_narC (by omega)) rfl (by rfl)
set_option maxHeartbeats 4000000 in
theorem c_sbChar {a v w : Nat} (hB : k_SB sh σ a v w) {i : Int} (hi : -2147483648 ≤ i ∧ i < 2147483648) (hi0 : 0 ≤ i ∧ i < σ a 3) : k_C E mJ4_charAt_5068e 4 [.ref a, .int (iI (i))] sh σ 0 0 (k_ret (some (.int (iI (σ v i.toNat)))) sh σ) := by
  refine k_C_of (ls0 := [(0, .ref a), (1, .int (iI (i)))]) rfl pnJ4 (fun v hv => k_cat1 rfl hv) (Nat.le_of_ble_eq_true rfl) rfl ?_
  obtain ⟨b0, b1, ⟨b2, b3, b4⟩, ⟨b5, b6, b7, b8⟩, b9⟩ := id hB
  have b10 : ¬ v = a := fun e => by rw [e, b0] at b1; cases b1
  have q1 := b9 i.toNat
  refine k_aload_n dJ4_charAt_5068e_0 0 rfl rfl (by omega) ?_
  refine k_iload_n dJ4_charAt_5068e_1 1 rfl rfl ?_
  refine k_callSUr (Cn := "java/lang/StringBuilder") (st := []) (as := [.int (iI (i))]) dJ4_charAt_5068e_2 oJ5_charAt_5068e w_1590 w_2296 w_336 w_1591 (by decide) rfl (by omega) rfl (Nat.le_of_ble_eq_true rfl) (by omega) b0 rfl (c_sbChar5 hB ⟨by omega, by omega⟩ (by omega)) ?_
  exact k_retZ dJ4_charAt_5068e_5 rfl (k_narC (by omega)) rfl (by rfl)
set_option maxHeartbeats 4000000 in
theorem c_sbEns {a v w : Nat} (hB : k_SB sh σ a v w) {m : Int} (hm : -2147483648 ≤ m ∧ m < 2147483648) (hm0 : 0 ≤ m ∧ m ≤ w) : k_C E mJ5_ensureCapacityInternal_d00df 1 [.ref a, .int (iI (m))] sh σ 0 0 (k_ret none sh σ) := by
  refine k_C_of (ls0 := [(0, .ref a), (1, .int (iI (m)))]) rfl pnJ5 (fun v hv => k_cat1 rfl hv) (Nat.le_of_ble_eq_true rfl) rfl ?_
  obtain ⟨b0, b1, ⟨b2, b3, b4⟩, ⟨b5, b6, b7, b8⟩, b9⟩ := id hB
  have b10 : ¬ v = a := fun e => by rw [e, b0] at b1; cases b1
  refine k_aload_n dJ5_ensureCapacityInternal_d00df_0 0 rfl rfl (by omega) ?_
  refine k_get (kf := 0) (v := .ref (σ a 0).toNat) dJ5_ensureCapacityInternal_d00df_1 kcJ4 w_323 (by decide) (by omega) b0 rfl rfl ?_
  refine k_eqst (st' := [.ref v]) (by have e : (σ a 0).toNat = v := (by rw [b5]; rfl); rw [e]; first | done | rfl) ?_
  refine k_alen dJ5_ensureCapacityInternal_d00df_4 (by omega) b1 (by decide) ?_
  refine k_aload_n dJ5_ensureCapacityInternal_d00df_5 0 rfl rfl (by omega) ?_
  refine k_get (kf := 1) (v := .int (iI (σ a 1))) dJ5_ensureCapacityInternal_d00df_6 kcJ4 w_324 (by decide) (by omega) b0 rfl rfl ?_
  refine k_eqst (congrArg (fun z : Int => Value.int (iI z) :: [.int (iI ((w : Int)))]) (show 0 = σ a 1 from b6.symm)) ?_
  refine k_ishr (v := (iI ((w : Int)))) dJ5_ensureCapacityInternal_d00df_9 (z_shr0 ⟨by omega, by omega⟩) ?_
  refine k_istore_n (ls' := [(0, .ref a), (1, .int (iI (m))), (2, .int (iI ((w : Int))))]) dJ5_ensureCapacityInternal_d00df_10 rfl (by decide) rfl rfl ?_
  refine k_iload_n dJ5_ensureCapacityInternal_d00df_11 1 rfl rfl ?_
  refine k_iload_n dJ5_ensureCapacityInternal_d00df_12 2 rfl rfl ?_
  refine k_isub dJ5_ensureCapacityInternal_d00df_13 ?_
  refine k_if_le (tgt := 38) dJ5_ensureCapacityInternal_d00df_14 rfl ⟨by omega, by omega⟩ (fun h_1 => ?_) (fun h_1 => absurd h_1 (by omega))
  exact k_retv dJ5_ensureCapacityInternal_d00df_38 rfl rfl
set_option maxHeartbeats 4000000 in
theorem c_sbSet5 {a v w : Nat} (hB : k_SB sh σ a v w)  : k_C E mJ5_setLength_d00df 2 [.ref a, .int (iI (0))] sh σ 0 0 (k_ret none sh (u_set0 σ a)) := by
  refine k_C_of (ls0 := [(0, .ref a), (1, .int (iI (0)))]) rfl pnJ5 (fun v hv => k_cat1 rfl hv) (Nat.le_of_ble_eq_true rfl) rfl ?_
  obtain ⟨b0, b1, ⟨b2, b3, b4⟩, ⟨b5, b6, b7, b8⟩, b9⟩ := id hB
  have b10 : ¬ v = a := fun e => by rw [e, b0] at b1; cases b1
  refine k_iload_n dJ5_setLength_d00df_0 1 rfl rfl ?_
  refine k_if_ge (tgt := 13) dJ5_setLength_d00df_1 rfl ⟨by decide, by decide⟩ (fun h_1 => ?_) (fun h_1 => absurd h_1 (by decide))
  refine k_aload_n dJ5_setLength_d00df_13 0 rfl rfl (by omega) ?_
  refine k_iload_n dJ5_setLength_d00df_14 1 rfl rfl ?_
  refine k_callVPr (st := []) (as := [.int (iI (0))]) dJ5_setLength_d00df_15 oJ5_ensureCapacityInternal_d00df w_1326 w_1328 (by decide) rfl (by omega) rfl (Nat.le_of_ble_eq_true rfl) (by omega) b0 rfl (c_sbEns hB ⟨by omega, by omega⟩ (by omega)) ?_
  refine k_aload_n dJ5_setLength_d00df_18 0 rfl rfl (by omega) ?_
  refine k_get (kf := 3) (v := .int (iI (σ a 3))) dJ5_setLength_d00df_19 kcJ4 w_327 (by decide) (by omega) b0 rfl rfl ?_
  refine k_iload_n dJ5_setLength_d00df_22 1 rfl rfl ?_
  refine k_icmp_ge (tgt := 63) dJ5_setLength_d00df_23 rfl ⟨by omega, by omega⟩ ⟨by decide, by decide⟩ (fun h_2 => ?_) (fun h_2 => absurd h_2 (by omega))
  refine k_aload_n dJ5_setLength_d00df_63 0 rfl rfl (by omega) ?_
  refine k_get (kf := 3) (v := .int (iI (σ a 3))) dJ5_setLength_d00df_64 kcJ4 w_327 (by decide) (by omega) b0 rfl rfl ?_
  refine k_iload_n dJ5_setLength_d00df_67 1 rfl rfl ?_
  refine k_icmp_le (tgt := 76) dJ5_setLength_d00df_68 rfl ⟨by omega, by omega⟩ ⟨by decide, by decide⟩ (fun h_3 => ?_) (fun h_3 => ?_)
  · refine k_aload_n dJ5_setLength_d00df_76 0 rfl rfl (by omega) ?_
    refine k_iload_n dJ5_setLength_d00df_77 1 rfl rfl ?_
    refine k_putf (kf := 3) dJ5_setLength_d00df_78 kcJ4 w_327 (by decide) (by omega) b0 rfl rfl rfl rfl ?_
    exact k_retv dJ5_setLength_d00df_81 rfl (by unfold u_set0; first | rw [if_neg (show ¬ 0 < σ a 3 by omega)] | (rw [if_pos (show 0 < σ a 3 by omega)]; funext i; by_cases e : i = a; (· subst e; simp [k_up]); simp [k_up, e]))
  · refine k_aload_n dJ5_setLength_d00df_71 0 rfl rfl (by omega) ?_
    refine k_iconst (v := 1) dJ5_setLength_d00df_72 rfl ?_
    refine k_putf (kf := 2) dJ5_setLength_d00df_73 kcJ4 w_325 (by decide) (by omega) b0 rfl rfl (by decide) (by decide) ?_
    refine k_aload_n dJ5_setLength_d00df_76 0 rfl rfl (by omega) ?_
    refine k_iload_n dJ5_setLength_d00df_77 1 rfl rfl ?_
    refine k_putf (kf := 3) dJ5_setLength_d00df_78 kcJ4 w_327 (by decide) (by omega) b0 rfl rfl rfl rfl ?_
    exact k_retv dJ5_setLength_d00df_81 rfl (by unfold u_set0; first | rw [if_neg (show ¬ 0 < σ a 3 by omega)] | (rw [if_pos (show 0 < σ a 3 by omega)]; funext i; by_cases e : i = a; (· subst e; simp [k_up]); simp [k_up, e]))
set_option maxHeartbeats 4000000 in
theorem c_sbSet {a v w : Nat} (hB : k_SB sh σ a v w)  : k_C E mJ4_setLength_d00df 3 [.ref a, .int (iI (0))] sh σ 0 0 (k_ret none sh (u_set0 σ a)) := by
  refine k_C_of (ls0 := [(0, .ref a), (1, .int (iI (0)))]) rfl pnJ4 (fun v hv => k_cat1 rfl hv) (Nat.le_of_ble_eq_true rfl) rfl ?_
  obtain ⟨b0, b1, ⟨b2, b3, b4⟩, ⟨b5, b6, b7, b8⟩, b9⟩ := id hB
  have b10 : ¬ v = a := fun e => by rw [e, b0] at b1; cases b1
  refine k_aload_n dJ4_setLength_d00df_0 0 rfl rfl (by omega) ?_
  refine k_iload_n dJ4_setLength_d00df_1 1 rfl rfl ?_
  refine k_callSUr (Cn := "java/lang/StringBuilder") (st := []) (as := [.int (iI (0))]) dJ4_setLength_d00df_2 oJ5_setLength_d00df w_1304 w_2285 w_336 w_1305 (by decide) rfl (by omega) rfl (Nat.le_of_ble_eq_true rfl) (by omega) b0 rfl (c_sbSet5 hB) ?_
  exact k_retv dJ4_setLength_d00df_5 rfl rfl
set_option maxHeartbeats 4000000 in
theorem c_canEnc {c : Int} (hc : -2147483648 ≤ c ∧ c < 2147483648) (hc0 : 0 ≤ c ∧ c < 128) : k_C E mJ1_canEncode_fc78d 1 [.int (iI (c))] sh σ 0 0 (k_ret (some (.int (iI (1)))) sh σ) := by
  refine k_C_of (ls0 := [(0, .int (iI (c)))]) rfl pnJ1 (fun v hv => k_cat1 rfl hv) (Nat.le_of_ble_eq_true rfl) rfl ?_
  refine k_iload_n dJ1_canEncode_fc78d_0 0 rfl rfl ?_
  refine k_sipush (v := 255) dJ1_canEncode_fc78d_1 (by decide) ?_
  refine k_icmp_gt (tgt := 11) dJ1_canEncode_fc78d_4 rfl ⟨by omega, by omega⟩ ⟨by decide, by decide⟩ (fun h_1 => absurd h_1 (by omega)) (fun h_1 => ?_)
  refine k_iconst (v := 1) dJ1_canEncode_fc78d_7 rfl ?_
  refine k_goto (tgt := 12) dJ1_canEncode_fc78d_8 rfl ?_
  exact k_retz dJ1_canEncode_fc78d_12 rfl (Or.inr rfl) rfl (by rfl)
set_option maxHeartbeats 4000000 in
theorem c_sbApp5 {a v w : Nat} (hB : k_SB sh σ a v w) {c : Int} (hc : -2147483648 ≤ c ∧ c < 2147483648) (hc0 : 0 ≤ c ∧ c < 128) (hr0 : σ a 3 < w) : k_C E mJ5_append_3fe6f 2 [.ref a, .int (iI (c))] sh σ 0 0 (k_ret (some (.ref a)) sh (u_appC σ a v c)) := by
  refine k_C_of (ls0 := [(0, .ref a), (1, .int (iI (c)))]) rfl pnJ5 (fun v hv => k_cat1 rfl hv) (Nat.le_of_ble_eq_true rfl) rfl ?_
  obtain ⟨b0, b1, ⟨b2, b3, b4⟩, ⟨b5, b6, b7, b8⟩, b9⟩ := id hB
  have b10 : ¬ v = a := fun e => by rw [e, b0] at b1; cases b1
  refine k_aload_n dJ5_append_3fe6f_0 0 rfl rfl (by omega) ?_
  refine k_aload_n dJ5_append_3fe6f_1 0 rfl rfl (by omega) ?_
  refine k_get (kf := 3) (v := .int (iI (σ a 3))) dJ5_append_3fe6f_2 kcJ4 w_327 (by decide) (by omega) b0 rfl rfl ?_
  refine k_iconst (v := 1) dJ5_append_3fe6f_5 rfl ?_
  refine k_iadd dJ5_append_3fe6f_6 ?_
  refine k_callVPr (st := []) (as := [.int (iI ((σ a 3) + 1))]) dJ5_append_3fe6f_7 oJ5_ensureCapacityInternal_d00df w_1326 w_1328 (by decide) rfl (by omega) rfl (Nat.le_of_ble_eq_true rfl) (by omega) b0 rfl (c_sbEns hB ⟨by omega, by omega⟩ (by omega)) ?_
  refine k_aload_n dJ5_append_3fe6f_10 0 rfl rfl (by omega) ?_
  refine k_callVCr (Cn := "java/lang/StringBuilder") (st := []) (as := []) dJ5_append_3fe6f_11 oJ5_isLatin1_aae02 w_1355 w_1356 w_1358 rfl (by omega) rfl (Nat.le_of_ble_eq_true rfl) (by omega) b0 rfl (c_sbLatin hB) ?_
  refine k_if_eq (tgt := 45) dJ5_append_3fe6f_14 rfl ⟨by decide, by decide⟩ (fun h_1 => absurd h_1 (by decide)) (fun h_1 => ?_)
  refine k_iload_n dJ5_append_3fe6f_17 1 rfl rfl ?_
  refine k_callSr (st := []) (as := [.int (iI (c))]) dJ5_append_3fe6f_18 oJ1_canEncode_fc78d w_1559 w_1560 rfl (by omega) rfl (Nat.le_of_ble_eq_true rfl) (c_canEnc ⟨by omega, by omega⟩ (by omega)) ?_
  refine k_if_eq (tgt := 45) dJ5_append_3fe6f_21 rfl ⟨by decide, by decide⟩ (fun h_2 => absurd h_2 (by decide)) (fun h_2 => ?_)
  refine k_aload_n dJ5_append_3fe6f_24 0 rfl rfl (by omega) ?_
  refine k_get (kf := 0) (v := .ref (σ a 0).toNat) dJ5_append_3fe6f_25 kcJ4 w_323 (by decide) (by omega) b0 rfl rfl ?_
  refine k_eqst (st' := [.ref v]) (by have e : (σ a 0).toNat = v := (by rw [b5]; rfl); rw [e]; first | done | rfl) ?_
  refine k_aload_n dJ5_append_3fe6f_28 0 rfl rfl (by omega) ?_
  refine k_dup dJ5_append_3fe6f_29 rfl ?_
  refine k_get (kf := 3) (v := .int (iI (σ a 3))) dJ5_append_3fe6f_30 kcJ4 w_327 (by decide) (by omega) b0 rfl rfl ?_
  refine k_dup_x1 dJ5_append_3fe6f_33 rfl rfl ?_
  refine k_iconst (v := 1) dJ5_append_3fe6f_34 rfl ?_
  refine k_iadd dJ5_append_3fe6f_35 ?_
  refine k_putf (kf := 3) dJ5_append_3fe6f_36 kcJ4 w_327 (by decide) (by omega) b0 rfl rfl rfl rfl ?_
  refine k_iload_n dJ5_append_3fe6f_39 1 rfl rfl ?_
  refine k_i2b dJ5_append_3fe6f_40 (by omega) ?_
  refine k_bast dJ5_append_3fe6f_41 (by omega) b1 (by omega) (by omega) (by omega) (k_nB (by omega)).1 ?_
  refine k_goto (tgt := 75) dJ5_append_3fe6f_42 rfl ?_
  refine k_aload_n dJ5_append_3fe6f_75 0 rfl rfl (by omega) ?_
  exact k_retr dJ5_append_3fe6f_76 (rt := _) rfl (by first | exact Or.inl ⟨_, rfl⟩ | exact Or.inr ⟨_, rfl⟩) (by funext i; unfold u_appC; by_cases e : i = v; (· subst e; simp [k_up, b10]); simp [k_up, e]) (by omega) rfl
set_option maxHeartbeats 4000000 in
theorem c_sbApp {a v w : Nat} (hB : k_SB sh σ a v w) {c : Int} (hc : -2147483648 ≤ c ∧ c < 2147483648) (hc0 : 0 ≤ c ∧ c < 128) (hr0 : σ a 3 < w) : k_C E mJ4_append_cf468 3 [.ref a, .int (iI (c))] sh σ 0 0 (k_ret (some (.ref a)) sh (u_appC σ a v c)) := by
  refine k_C_of (ls0 := [(0, .ref a), (1, .int (iI (c)))]) rfl pnJ4 (fun v hv => k_cat1 rfl hv) (Nat.le_of_ble_eq_true rfl) rfl ?_
  obtain ⟨b0, b1, ⟨b2, b3, b4⟩, ⟨b5, b6, b7, b8⟩, b9⟩ := id hB
  have b10 : ¬ v = a := fun e => by rw [e, b0] at b1; cases b1
  refine k_aload_n dJ4_append_cf468_0 0 rfl rfl (by omega) ?_
  refine k_iload_n dJ4_append_cf468_1 1 rfl rfl ?_
  refine k_callSUr (Cn := "java/lang/StringBuilder") (st := []) (as := [.int (iI (c))]) dJ4_append_cf468_2 oJ5_append_3fe6f w_1556 w_2294 w_336 w_1557 (by decide) rfl (by omega) rfl (Nat.le_of_ble_eq_true rfl) (by omega) b0 rfl (c_sbApp5 hB ⟨by omega, by omega⟩ (by omega) (by omega)) ?_
  refine k_pop dJ4_append_cf468_5 rfl ?_
  refine k_aload_n dJ4_append_cf468_6 0 rfl rfl (by omega) ?_
  exact k_retr dJ4_append_cf468_7 (rt := _) rfl (by first | exact Or.inl ⟨_, rfl⟩ | exact Or.inr ⟨_, rfl⟩) rfl (by omega) rfl
set_option maxHeartbeats 4000000 in
theorem c_strSize {x : Int} (hx : -2147483648 ≤ x ∧ x < 2147483648) (hx0 : 0 ≤ x ∧ x < 100) : k_C E mJ6_stringSize_0f7a4 1 [.int (iI (x))] sh σ 0 0 (k_ret (some (.int (iI (f_dg x)))) sh σ) := by
  refine k_C_of (ls0 := [(0, .int (iI (x)))]) rfl pnJ6 (fun v hv => k_cat1 rfl hv) (Nat.le_of_ble_eq_true rfl) rfl ?_
  refine k_iconst (v := 1) dJ6_stringSize_0f7a4_0 rfl ?_
  refine k_istore_n (ls' := [(0, .int (iI (x))), (1, .int (iI (1)))]) dJ6_stringSize_0f7a4_1 rfl (by decide) rfl rfl ?_
  refine k_iload_n dJ6_stringSize_0f7a4_2 0 rfl rfl ?_
  refine k_if_lt (tgt := 11) dJ6_stringSize_0f7a4_3 rfl ⟨by omega, by omega⟩ (fun h_1 => absurd h_1 (by omega)) (fun h_1 => ?_)
  refine k_iconst (v := 0) dJ6_stringSize_0f7a4_6 rfl ?_
  refine k_istore_n (ls' := [(0, .int (iI (x))), (1, .int (iI (0)))]) dJ6_stringSize_0f7a4_7 rfl (by decide) rfl rfl ?_
  refine k_iload_n dJ6_stringSize_0f7a4_8 0 rfl rfl ?_
  refine k_ineg dJ6_stringSize_0f7a4_9 ?_
  refine k_istore_n (ls' := [(0, .int (iI (-(x)))), (1, .int (iI (0)))]) dJ6_stringSize_0f7a4_10 rfl (by decide) rfl rfl ?_
  refine k_bipush (v := (-10)) dJ6_stringSize_0f7a4_11 (by decide) ?_
  refine k_istore_n (ls' := [(0, .int (iI (-(x)))), (1, .int (iI (0))), (2, .int (iI (-10)))]) dJ6_stringSize_0f7a4_13 rfl (by decide) rfl rfl ?_
  refine k_iconst (v := 1) dJ6_stringSize_0f7a4_14 rfl ?_
  refine k_istore_n (ls' := [(0, .int (iI (-(x)))), (1, .int (iI (0))), (2, .int (iI (-10))), (3, .int (iI (1)))]) dJ6_stringSize_0f7a4_15 rfl (by decide) rfl rfl ?_
  refine k_iload_n dJ6_stringSize_0f7a4_16 3 rfl rfl ?_
  refine k_bipush (v := 10) dJ6_stringSize_0f7a4_17 (by decide) ?_
  refine k_icmp_ge (tgt := 42) dJ6_stringSize_0f7a4_19 rfl ⟨by decide, by decide⟩ ⟨by decide, by decide⟩ (fun h_2 => absurd h_2 (by decide)) (fun h_2 => ?_)
  refine k_iload_n dJ6_stringSize_0f7a4_22 0 rfl rfl ?_
  refine k_iload_n dJ6_stringSize_0f7a4_23 2 rfl rfl ?_
  refine k_icmp_le (tgt := 31) dJ6_stringSize_0f7a4_24 rfl ⟨by omega, by omega⟩ ⟨by decide, by decide⟩ (fun h_3 => ?_) (fun h_3 => ?_)
  · refine k_bipush (v := 10) dJ6_stringSize_0f7a4_31 (by decide) ?_
    refine k_iload_n dJ6_stringSize_0f7a4_33 2 rfl rfl ?_
    refine k_imul dJ6_stringSize_0f7a4_34 ?_
    refine k_istore_n (ls' := [(0, .int (iI (-(x)))), (1, .int (iI (0))), (2, .int (iI (10 * (-10)))), (3, .int (iI (1)))]) dJ6_stringSize_0f7a4_35 rfl (by decide) rfl rfl ?_
    refine k_iinc (ls' := [(0, .int (iI (-(x)))), (1, .int (iI (0))), (2, .int (iI (10 * (-10)))), (3, .int (iI (1 + 1)))]) dJ6_stringSize_0f7a4_36 3 rfl (by decide) rfl rfl ?_
    refine k_goto (tgt := 16) dJ6_stringSize_0f7a4_39 rfl ?_
    refine k_iload_n dJ6_stringSize_0f7a4_16 3 rfl rfl ?_
    refine k_bipush (v := 10) dJ6_stringSize_0f7a4_17 (by decide) ?_
    refine k_icmp_ge (tgt := 42) dJ6_stringSize_0f7a4_19 rfl ⟨by omega, by omega⟩ ⟨by decide, by decide⟩ (fun h_4 => absurd h_4 (by decide)) (fun h_4 => ?_)
    refine k_iload_n dJ6_stringSize_0f7a4_22 0 rfl rfl ?_
    refine k_iload_n dJ6_stringSize_0f7a4_23 2 rfl rfl ?_
    refine k_icmp_le (tgt := 31) dJ6_stringSize_0f7a4_24 rfl ⟨by omega, by omega⟩ ⟨by omega, by omega⟩ (fun h_5 => absurd h_5 (by omega)) (fun h_5 => ?_)
    refine k_iload_n dJ6_stringSize_0f7a4_27 3 rfl rfl ?_
    refine k_iload_n dJ6_stringSize_0f7a4_28 1 rfl rfl ?_
    refine k_iadd dJ6_stringSize_0f7a4_29 ?_
    exact k_reti dJ6_stringSize_0f7a4_30 rfl rfl (by unfold f_dg; first | exact (if_pos (by omega)).symm | exact (if_neg (by omega)).symm | (rw [if_pos (by omega)]) | (rw [if_neg (show ¬ x < 10 by omega)]; rfl) | (rw [if_pos (show x < 10 by omega)]; rfl))
  · refine k_iload_n dJ6_stringSize_0f7a4_27 3 rfl rfl ?_
    refine k_iload_n dJ6_stringSize_0f7a4_28 1 rfl rfl ?_
    refine k_iadd dJ6_stringSize_0f7a4_29 ?_
    exact k_reti dJ6_stringSize_0f7a4_30 rfl rfl (by unfold f_dg; first | exact (if_pos (by omega)).symm | exact (if_neg (by omega)).symm | (rw [if_pos (by omega)]) | (rw [if_neg (show ¬ x < 10 by omega)]; rfl) | (rw [if_pos (show x < 10 by omega)]; rfl))
set_option maxHeartbeats 4000000 in
theorem c_getChars {a v w : Nat} (hB : k_SB sh σ a v w) {x y : Int} (hx : -2147483648 ≤ x ∧ x < 2147483648) (hy : -2147483648 ≤ y ∧ y < 2147483648) (hx0 : 0 ≤ x ∧ x < 100) (hy0 : f_dg x ≤ y ∧ y ≤ w) : k_C E mJ6_getChars_ba4f3 1 [.int (iI (x)), .int (iI (y)), .ref v] sh σ 0 0 (k_ret (some (.int (iI (y - f_dg x)))) sh (k_up σ v (g_digits (σ v) x y))) := by
  refine k_C_of (ls0 := [(0, .int (iI (x))), (1, .int (iI (y))), (2, .ref v)]) rfl pnJ6 (fun v hv => k_cat1 rfl hv) (Nat.le_of_ble_eq_true rfl) rfl ?_
  obtain ⟨b0, b1, ⟨b2, b3, b4⟩, ⟨b5, b6, b7, b8⟩, b9⟩ := id hB
  have b10 : ¬ v = a := fun e => by rw [e, b0] at b1; cases b1
  have q1 : f_dg x = if x < 10 then 1 else 2 := rfl
  refine k_iload_n dJ6_getChars_ba4f3_0 1 rfl rfl ?_
  refine k_istore (ls' := [(0, .int (iI (x))), (1, .int (iI (y))), (2, .ref v), (5, .int (iI (y)))]) dJ6_getChars_ba4f3_1 (by decide) rfl rfl ?_
  refine k_iload_n dJ6_getChars_ba4f3_3 0 rfl rfl ?_
  refine k_if_ge (tgt := 11) dJ6_getChars_ba4f3_4 rfl ⟨by omega, by omega⟩ (fun h_1 => ?_) (fun h_1 => absurd h_1 (by omega))
  refine k_iconst (v := 0) dJ6_getChars_ba4f3_11 rfl ?_
  refine k_istore (ls' := [(0, .int (iI (x))), (1, .int (iI (y))), (2, .ref v), (5, .int (iI (y))), (6, .int (iI (0)))]) dJ6_getChars_ba4f3_12 (by decide) rfl rfl ?_
  refine k_iload dJ6_getChars_ba4f3_14 4 rfl ?_
  refine k_if_ne (tgt := 22) dJ6_getChars_ba4f3_16 rfl ⟨by decide, by decide⟩ (fun h_2 => absurd h_2 (by decide)) (fun h_2 => ?_)
  refine k_iload_n dJ6_getChars_ba4f3_19 0 rfl rfl ?_
  refine k_ineg dJ6_getChars_ba4f3_20 ?_
  refine k_istore_n (ls' := [(0, .int (iI (-(x)))), (1, .int (iI (y))), (2, .ref v), (5, .int (iI (y))), (6, .int (iI (0)))]) dJ6_getChars_ba4f3_21 rfl (by decide) rfl rfl ?_
  refine k_iload_n dJ6_getChars_ba4f3_22 0 rfl rfl ?_
  refine k_bipush (v := (-100)) dJ6_getChars_ba4f3_23 (by decide) ?_
  refine k_icmp_gt (tgt := 72) dJ6_getChars_ba4f3_25 rfl ⟨by omega, by omega⟩ ⟨by decide, by decide⟩ (fun h_3 => ?_) (fun h_3 => absurd h_3 (by omega))
  refine k_aload_n dJ6_getChars_ba4f3_72 2 rfl rfl (by omega) ?_
  refine k_iinc (ls' := [(0, .int (iI (-(x)))), (1, .int (iI (y))), (2, .ref v), (5, .int (iI (y + (-1)))), (6, .int (iI (0)))]) dJ6_getChars_ba4f3_73 3 rfl (by decide) rfl rfl ?_
  refine k_iload dJ6_getChars_ba4f3_76 3 rfl ?_
  refine k_getD1 dJ6_getChars_ba4f3_78 w_1442 ?_
  refine k_iload_n dJ6_getChars_ba4f3_81 0 rfl rfl ?_
  refine k_ineg dJ6_getChars_ba4f3_82 ?_
  refine k_baldD1 dJ6_getChars_ba4f3_83 (by omega) (by omega) ?_
  refine k_bast dJ6_getChars_ba4f3_84 (by omega) b1 (by omega) (by omega) (by omega) (k_nB (by omega)).1 ?_
  refine k_iload_n dJ6_getChars_ba4f3_85 0 rfl rfl ?_
  refine k_bipush (v := (-9)) dJ6_getChars_ba4f3_86 (by decide) ?_
  refine k_icmp_ge (tgt := 104) dJ6_getChars_ba4f3_88 rfl ⟨by omega, by omega⟩ ⟨by decide, by decide⟩ (fun h_4 => ?_) (fun h_4 => ?_)
  · refine k_iload dJ6_getChars_ba4f3_104 4 rfl ?_
    refine k_if_eq (tgt := 118) dJ6_getChars_ba4f3_106 rfl ⟨by decide, by decide⟩ (fun h_5 => ?_) (fun h_5 => absurd h_5 (by decide))
    refine k_iload dJ6_getChars_ba4f3_118 3 rfl ?_
    exact k_reti dJ6_getChars_ba4f3_120 rfl (by unfold g_digits; first | (rw [if_neg (show ¬ x < 10 by omega)]; funext i; by_cases e : i = v; (· subst e; simp only [k_up, if_true]; rw [show - -x = x by omega, show y + -1 + -1 = y - 2 by omega, show y + -1 = y - 1 by omega]); simp [k_up, e]) | (rw [if_pos (show x < 10 by omega)]; funext i; by_cases e : i = v; (· subst e; simp only [k_up, if_true]; rw [show (- -x) % 10 = x by omega, show y + -1 = y - 1 by omega]); simp [k_up, e])) (by unfold f_dg; first | (rw [if_neg (show ¬ x < 10 by omega)]; omega) | (rw [if_pos (show x < 10 by omega)]; omega))
  · refine k_aload_n dJ6_getChars_ba4f3_91 2 rfl rfl (by omega) ?_
    refine k_iinc (ls' := [(0, .int (iI (-(x)))), (1, .int (iI (y))), (2, .ref v), (5, .int (iI (y + (-1) + (-1)))), (6, .int (iI (0)))]) dJ6_getChars_ba4f3_92 3 rfl (by decide) rfl rfl ?_
    refine k_iload dJ6_getChars_ba4f3_95 3 rfl ?_
    refine k_getD10 dJ6_getChars_ba4f3_97 w_1444 ?_
    refine k_iload_n dJ6_getChars_ba4f3_100 0 rfl rfl ?_
    refine k_ineg dJ6_getChars_ba4f3_101 ?_
    refine k_baldD10 dJ6_getChars_ba4f3_102 (by omega) (by omega) ?_
    refine k_bast dJ6_getChars_ba4f3_103 (by omega) b1 (by omega) (by omega) (by omega) (k_nB (by omega)).1 ?_
    refine k_iload dJ6_getChars_ba4f3_104 4 rfl ?_
    refine k_if_eq (tgt := 118) dJ6_getChars_ba4f3_106 rfl ⟨by decide, by decide⟩ (fun h_6 => ?_) (fun h_6 => absurd h_6 (by decide))
    refine k_iload dJ6_getChars_ba4f3_118 3 rfl ?_
    exact k_reti dJ6_getChars_ba4f3_120 rfl (by unfold g_digits; first | (rw [if_neg (show ¬ x < 10 by omega)]; funext i; by_cases e : i = v; (· subst e; simp only [k_up, if_true]; rw [show - -x = x by omega, show y + -1 + -1 = y - 2 by omega, show y + -1 = y - 1 by omega]); simp [k_up, e]) | (rw [if_pos (show x < 10 by omega)]; funext i; by_cases e : i = v; (· subst e; simp only [k_up, if_true]; rw [show (- -x) % 10 = x by omega, show y + -1 = y - 1 by omega]); simp [k_up, e])) (by unfold f_dg; first | (rw [if_neg (show ¬ x < 10 by omega)]; omega) | (rw [if_pos (show x < 10 by omega)]; omega))
set_option maxHeartbeats 4000000 in
theorem c_sbAppI5 {a v w : Nat} (hB : k_SB sh σ a v w) {x : Int} (hx : -2147483648 ≤ x ∧ x < 2147483648) (hx0 : 0 ≤ x ∧ x < 100) (hr0 : σ a 3 + f_dg x ≤ w) : k_C E mJ5_append_c97b9 2 [.ref a, .int (iI (x))] sh σ 0 0 (k_ret (some (.ref a)) sh (u_appI σ a v x)) := by
  refine k_C_of (ls0 := [(0, .ref a), (1, .int (iI (x)))]) rfl pnJ5 (fun v hv => k_cat1 rfl hv) (Nat.le_of_ble_eq_true rfl) rfl ?_
  obtain ⟨b0, b1, ⟨b2, b3, b4⟩, ⟨b5, b6, b7, b8⟩, b9⟩ := id hB
  have b10 : ¬ v = a := fun e => by rw [e, b0] at b1; cases b1
  have q1 : 1 ≤ f_dg x ∧ f_dg x ≤ 2 := by unfold f_dg; split <;> decide
  refine k_aload_n dJ5_append_c97b9_0 0 rfl rfl (by omega) ?_
  refine k_get (kf := 3) (v := .int (iI (σ a 3))) dJ5_append_c97b9_1 kcJ4 w_327 (by decide) (by omega) b0 rfl rfl ?_
  refine k_istore_n (ls' := [(0, .ref a), (1, .int (iI (x))), (2, .int (iI (σ a 3)))]) dJ5_append_c97b9_4 rfl (by decide) rfl rfl ?_
  refine k_iload_n dJ5_append_c97b9_5 2 rfl rfl ?_
  refine k_iload_n dJ5_append_c97b9_6 1 rfl rfl ?_
  refine k_callSr (st := [.int (iI (σ a 3))]) (as := [.int (iI (x))]) dJ5_append_c97b9_7 oJ6_stringSize_0f7a4 w_1436 w_1437 rfl (by omega) rfl (Nat.le_of_ble_eq_true rfl) (c_strSize ⟨by omega, by omega⟩ (by omega)) ?_
  refine k_iadd dJ5_append_c97b9_10 ?_
  refine k_istore_n (ls' := [(0, .ref a), (1, .int (iI (x))), (2, .int (iI (σ a 3))), (3, .int (iI ((σ a 3) + (f_dg x))))]) dJ5_append_c97b9_11 rfl (by decide) rfl rfl ?_
  refine k_aload_n dJ5_append_c97b9_12 0 rfl rfl (by omega) ?_
  refine k_iload_n dJ5_append_c97b9_13 3 rfl rfl ?_
  refine k_callVPr (st := []) (as := [.int (iI ((σ a 3) + (f_dg x)))]) dJ5_append_c97b9_14 oJ5_ensureCapacityInternal_d00df w_1326 w_1328 (by decide) rfl (by omega) rfl (Nat.le_of_ble_eq_true rfl) (by omega) b0 rfl (c_sbEns hB ⟨by omega, by omega⟩ (by omega)) ?_
  refine k_aload_n dJ5_append_c97b9_17 0 rfl rfl (by omega) ?_
  refine k_callVCr (Cn := "java/lang/StringBuilder") (st := []) (as := []) dJ5_append_c97b9_18 oJ5_isLatin1_aae02 w_1355 w_1356 w_1358 rfl (by omega) rfl (Nat.le_of_ble_eq_true rfl) (by omega) b0 rfl (c_sbLatin hB) ?_
  refine k_if_eq (tgt := 37) dJ5_append_c97b9_21 rfl ⟨by decide, by decide⟩ (fun h_1 => absurd h_1 (by decide)) (fun h_1 => ?_)
  refine k_iload_n dJ5_append_c97b9_24 1 rfl rfl ?_
  refine k_iload_n dJ5_append_c97b9_25 3 rfl rfl ?_
  refine k_aload_n dJ5_append_c97b9_26 0 rfl rfl (by omega) ?_
  refine k_get (kf := 0) (v := .ref (σ a 0).toNat) dJ5_append_c97b9_27 kcJ4 w_323 (by decide) (by omega) b0 rfl rfl ?_
  refine k_eqst (st' := [.ref v, .int (iI ((σ a 3) + (f_dg x))), .int (iI (x))]) (by have e : (σ a 0).toNat = v := (by rw [b5]; rfl); rw [e]; first | done | rfl) ?_
  refine k_callSr (st := []) (as := [.int (iI (x)), .int (iI ((σ a 3) + (f_dg x))), .ref v]) dJ5_append_c97b9_30 oJ6_getChars_ba4f3 w_1439 w_1440 rfl (by omega) rfl (Nat.le_of_ble_eq_true rfl) (c_getChars hB ⟨by omega, by omega⟩ ⟨by omega, by omega⟩ (by omega) ⟨by omega, by omega⟩) ?_
  refine k_pop dJ5_append_c97b9_33 rfl ?_
  refine k_goto (tgt := 48) dJ5_append_c97b9_34 rfl ?_
  refine k_aload_n dJ5_append_c97b9_48 0 rfl rfl (by omega) ?_
  refine k_iload_n dJ5_append_c97b9_49 3 rfl rfl ?_
  refine k_putf (kf := 3) dJ5_append_c97b9_50 kcJ4 w_327 (by decide) (by omega) b0 rfl rfl rfl rfl ?_
  refine k_aload_n dJ5_append_c97b9_53 0 rfl rfl (by omega) ?_
  exact k_retr dJ5_append_c97b9_54 (rt := _) rfl (by first | exact Or.inl ⟨_, rfl⟩ | exact Or.inr ⟨_, rfl⟩) (by funext i; unfold u_appI; by_cases e : i = a; (· subst e; simp [k_up, Ne.symm b10]); simp [k_up, e]) (by omega) rfl
set_option maxHeartbeats 4000000 in
theorem c_sbAppI {a v w : Nat} (hB : k_SB sh σ a v w) {x : Int} (hx : -2147483648 ≤ x ∧ x < 2147483648) (hx0 : 0 ≤ x ∧ x < 100) (hr0 : σ a 3 + f_dg x ≤ w) : k_C E mJ4_append_bf812 3 [.ref a, .int (iI (x))] sh σ 0 0 (k_ret (some (.ref a)) sh (u_appI σ a v x)) := by
  refine k_C_of (ls0 := [(0, .ref a), (1, .int (iI (x)))]) rfl pnJ4 (fun v hv => k_cat1 rfl hv) (Nat.le_of_ble_eq_true rfl) rfl ?_
  obtain ⟨b0, b1, ⟨b2, b3, b4⟩, ⟨b5, b6, b7, b8⟩, b9⟩ := id hB
  have b10 : ¬ v = a := fun e => by rw [e, b0] at b1; cases b1
  refine k_aload_n dJ4_append_bf812_0 0 rfl rfl (by omega) ?_
  refine k_iload_n dJ4_append_bf812_1 1 rfl rfl ?_
  refine k_callSUr (Cn := "java/lang/StringBuilder") (st := []) (as := [.int (iI (x))]) dJ4_append_bf812_2 oJ5_append_c97b9 w_1433 w_2293 w_336 w_1434 (by decide) rfl (by omega) rfl (Nat.le_of_ble_eq_true rfl) (by omega) b0 rfl (c_sbAppI5 hB ⟨by omega, by omega⟩ (by omega) (by omega)) ?_
  refine k_pop dJ4_append_bf812_5 rfl ?_
  refine k_aload_n dJ4_append_bf812_6 0 rfl rfl (by omega) ?_
  exact k_retr dJ4_append_bf812_7 (rt := _) rfl (by first | exact Or.inl ⟨_, rfl⟩ | exact Or.inr ⟨_, rfl⟩) rfl (by omega) rfl
end K_AB
