/-! ===== THE FACE: enrolAll, the mean ===== -/
section K_FD
variable {E : k_E} {M M1 : k_M} {dp d1 pc k n k1 n1 na : Nat} {ls : List (Nat × Value)} {st as : List Value} {sh : List k_Sh} {σ σ' : Nat → Nat → Int} {Q Q1 : k_Q} {o : Option Value}
theorem u_give_ty (hI : k_Ty σ) {p : Int} (hp : 0 ≤ p ∧ p < 12) : k_Ty (u_give σ p) := u_enter_ty (u_giveN_ty hI hp _) hp
theorem u_give_ne (p : Int) {i : Nat} (hi : i ≠ 4) : u_give σ p i = u_best (u_roomy σ p) i := (u_enter_ne hi).trans (u_giveN_ne p _ hi)
theorem u_give_far (p : Int) {i : Nat} (hi : i ≠ 4 ∧ i ≠ 10 ∧ i ≠ 11 ∧ i ≠ 12 ∧ i ≠ 13) : u_give σ p i = σ i := by
  rw [u_give_ne p hi.1]
  unfold u_best g_put u_roomy
  simp [k_up, hi]
theorem u_give_sc (hI : k_Ty σ) (hS : k_Sc σ) (p : Int) : k_Sc (u_give σ p) := k_Sc_of (u_best_sc (u_roomy_sc hI hS p)) (u_give_ne p (by decide)) (u_give_ne p (by decide)) (u_give_ne p (by decide))
/-- all who can be enrolled are, in their order; how many attend all their wishes then -/
def g_ea (σ : Nat → Nat → Int) (n : Nat) : (Nat → Nat → Int) × Int := k_fold n (fun p T => if e_enrol T.1 (p : Int) = 0 then (u_give T.1 (p : Int), T.2 + zb (f_attends (u_give T.1 (p : Int)) (p : Int))) else T) (u_kep σ, 0)
theorem g_ea_s (σ : Nat → Nat → Int) (n : Nat) : g_ea σ (n + 1) = if e_enrol (g_ea σ n).1 (n : Int) = 0 then (u_give (g_ea σ n).1 (n : Int), (g_ea σ n).2 + zb (f_attends (u_give (g_ea σ n).1 (n : Int)) (n : Int))) else g_ea σ n := rfl
theorem zb_acc {a b : Int} {n : Nat} (h : 0 ≤ a) (h2 : a ≤ n) (hz : 0 ≤ b ∧ b ≤ 1) : 0 ≤ a + b ∧ a + b ≤ ((n + 1 : Nat) : Int) := by omega
theorem zb_le5 {a : Int} {n : Nat} (h2 : a ≤ n) : a ≤ ((n + 1 : Nat) : Int) := by omega
theorem g_ea_ok (hI : k_Ty σ) (hS : k_Sc σ) (hH : k_Hi σ) : ∀ n : Nat, n ≤ 12 → k_Ty (g_ea σ n).1 ∧ k_Sc (g_ea σ n).1 ∧ (g_ea σ n).1 1 = σ 1 ∧ 0 ≤ (g_ea σ n).2 ∧ (g_ea σ n).2 ≤ n
  | 0, _ => by
    have hn := hH.2.1
    have e : ∀ i, i < 24 → u_kep σ i = σ i := fun i hi => u_keepB_ne hn (Or.inl hi)
    exact ⟨(k_kep_pl hH).ty hI, k_Sc_of hS (e 11 (by decide)) (e 12 (by decide)) (e 13 (by decide)), e 1 (by decide), Int.le_refl 0, Int.le_refl 0⟩
  | n + 1, h => by
    have hp : 0 ≤ (n : Int) ∧ (n : Int) < 12 := by omega
    have hn : n ≤ 12 := by omega
    obtain ⟨h1, h2, h3, h4, h5⟩ := g_ea_ok hI hS hH n hn
    rw [g_ea_s]
    split
    · have hz := zb_r (f_attends (u_give (g_ea σ n).1 (n : Int)) (n : Int))
      have hb := zb_acc h4 h5 hz
      exact ⟨u_give_ty h1 hp, u_give_sc h1 h2 _, (u_give_far _ (by decide)).trans h3, hb.1, hb.2⟩
    · exact ⟨h1, h2, h3, h4, zb_le5 h5⟩
set_option maxHeartbeats 4000000 in
theorem c7_enrolAll (hsh : k_Main sh) (hI : k_Ty σ) (hS : k_Sc σ) (hH : k_Hi σ)  : k_C E mX7_enrolAll 14 [.ref 0] sh σ 1 6 (k_rx (.inl (some (.int (iI ((g_ea σ (σ 1 2).toNat).2))))) sh ((g_ea σ (σ 1 2).toNat).1)) := by
  refine k_C_of (ls0 := [(0, .ref 0)]) rfl pnX7 (fun v hv => k_cat1 rfl hv) (Nat.le_of_ble_eq_true rfl) rfl ?_
  obtain ⟨t0, t1, t2, t3, t4, t5, t6, t7, t8, t9, t10, t11⟩ := id hI
  refine k_aload_n dX7_enrolAll_0 0 rfl rfl (by decide) ?_
  refine k_get (kf := 5) (v := .ref 24) dX7_enrolAll_1 kcX7 w_363 (by decide) (by decide) (s_0 hsh) rfl rfl ?_
  refine k_aload_n dX7_enrolAll_4 0 rfl rfl (by decide) ?_
  refine k_get (kf := 0) (v := .ref 1) dX7_enrolAll_5 kcX7 w_358 (by decide) (by decide) (s_0 hsh) rfl rfl ?_
  refine k_callVr (st := []) (as := [.ref 1]) dX7_enrolAll_8 oX3_keep w_417 w_418 w_419 rfl (by omega) rfl (Nat.le_of_ble_eq_true rfl) (by decide) (s_24 hsh) rfl (c_keep hsh hH (k_plat1 hsh) ⟨by decide, by decide⟩) ?_
  refine k_iconst (v := 0) dX7_enrolAll_11 rfl ?_
  refine k_istore_n (ls' := [(0, .ref 0), (1, .int (iI (0)))]) dX7_enrolAll_12 rfl (by decide) rfl rfl ?_
  refine k_iconst (v := 0) dX7_enrolAll_13 rfl ?_
  refine k_istore_n (ls' := [(0, .ref 0), (1, .int (iI (0))), (2, .int (iI (0)))]) dX7_enrolAll_14 rfl (by decide) rfl rfl ?_
  refine k_down (P := fun i15 : Nat => k_V E mX7_enrolAll _ 15 [(0, .ref 0), (1, .int (iI ((g_ea σ i15).2))), (2, .int (iI ((i15 : Int))))] [] sh ((g_ea σ i15).1) _ _ _) ((σ 1 2).toNat) ?_ ?_
  · skip
    obtain ⟨hT, hT2, hT1, hT3, hT4⟩ := g_ea_ok hI hS hH ((σ 1 2).toNat) (by omega)
    have hT5 : 0 ≤ e_enrol (g_ea σ ((σ 1 2).toNat)).1 (((σ 1 2).toNat) : Int) ∧ e_enrol (g_ea σ ((σ 1 2).toNat)).1 (((σ 1 2).toNat) : Int) ≤ 3 := by unfold e_enrol; (repeat' split) <;> decide
    have hT6 : (g_ea σ ((σ 1 2).toNat)).1 1 2 = σ 1 2 := by rw [hT1]
    refine k_iload_n dX7_enrolAll_15 2 rfl rfl ?_
    refine k_aload_n dX7_enrolAll_16 0 rfl rfl (by decide) ?_
    refine k_get (kf := 0) (v := .ref 1) dX7_enrolAll_17 kcX7 w_358 (by decide) (by decide) (s_0 hsh) rfl rfl ?_
    refine k_getN (kf := 2) (v := .int (iI (((g_ea σ ((σ 1 2).toNat)).1) 1 2))) dX7_enrolAll_20 kcX5 w_141 (by decide) (by decide) (s_1 hsh) rfl rfl ?_
    refine k_eqst (congrArg (fun z : Int => Value.int (iI z) :: [.int (iI ((((σ 1 2).toNat : Nat) : Int)))]) (show σ 1 2 = ((g_ea σ ((σ 1 2).toNat)).1) 1 2 from by rw [hT1])) ?_
    refine k_icmp_ge (tgt := 71) dX7_enrolAll_23 rfl ⟨by omega, by omega⟩ ⟨by omega, by omega⟩ (fun h_1 => ?_) (fun h_1 => absurd h_1 (by omega))
    refine k_iload_n dX7_enrolAll_71 1 rfl rfl ?_
    exact k_ret_i dX7_enrolAll_72 rfl ⟨(rfl), rfl, (rfl)⟩
  · intro i15 hi15 ih15
    obtain ⟨hT, hT2, hT1, hT3, hT4⟩ := g_ea_ok hI hS hH i15 (by omega)
    have hT5 : 0 ≤ e_enrol (g_ea σ i15).1 (i15 : Int) ∧ e_enrol (g_ea σ i15).1 (i15 : Int) ≤ 3 := by unfold e_enrol; (repeat' split) <;> decide
    have hT6 : (g_ea σ i15).1 1 2 = σ 1 2 := by rw [hT1]
    refine k_iload_n dX7_enrolAll_15 2 rfl rfl ?_
    refine k_aload_n dX7_enrolAll_16 0 rfl rfl (by decide) ?_
    refine k_get (kf := 0) (v := .ref 1) dX7_enrolAll_17 kcX7 w_358 (by decide) (by decide) (s_0 hsh) rfl rfl ?_
    refine k_getN (kf := 2) (v := .int (iI (((g_ea σ i15).1) 1 2))) dX7_enrolAll_20 kcX5 w_141 (by decide) (by decide) (s_1 hsh) rfl rfl ?_
    refine k_eqst (congrArg (fun z : Int => Value.int (iI z) :: [.int (iI ((i15 : Int)))]) (show σ 1 2 = ((g_ea σ i15).1) 1 2 from by rw [hT1])) ?_
    refine k_icmp_ge (tgt := 71) dX7_enrolAll_23 rfl ⟨by omega, by omega⟩ ⟨by omega, by omega⟩ (fun h_2 => absurd h_2 (by omega)) (fun h_2 => ?_)
    refine k_aload_n dX7_enrolAll_26 0 rfl rfl (by decide) ?_
    refine k_get (kf := 4) (v := .ref 23) dX7_enrolAll_27 kcX7 w_362 (by decide) (by decide) (s_0 hsh) rfl rfl ?_
    refine k_iload_n dX7_enrolAll_30 2 rfl rfl ?_
    refine k_callVr (st := []) (as := [.int (iI ((i15 : Int)))]) dX7_enrolAll_31 oX2_faultOfEnrolling w_439 w_440 w_441 rfl (by omega) rfl (Nat.le_of_ble_eq_true rfl) (by decide) (s_23 hsh) rfl (c_faultOfEnrolling hsh hT  ⟨by omega, by omega⟩) ?_
    refine k_if_ne (tgt := 65) dX7_enrolAll_34 rfl ⟨by omega, by omega⟩ (fun h_3 => ?_) (fun h_3 => ?_)
    · refine k_iinc (ls' := [(0, .ref 0), (1, .int (iI ((g_ea σ i15).2))), (2, .int (iI ((i15 : Int) + 1)))]) dX7_enrolAll_65 2 rfl (by decide) rfl rfl ?_
      refine k_goto (tgt := 15) dX7_enrolAll_68 rfl ?_
      refine k_eqσ (σ' := (g_ea σ (i15 + 1)).1) (by rw [g_ea_s, if_neg h_3]) ?_
      refine k_lrw (q := 1) (j := 1) (a' := (g_ea σ (i15 + 1)).2) (ls' := [(0, .ref 0), (1, .int (iI ((g_ea σ (i15 + 1)).2))), (2, .int (iI ((i15 : Int) + 1)))]) rfl (by rw [g_ea_s, if_neg h_3]) rfl ?_
      exact ih15
    · refine k_aload_n dX7_enrolAll_37 0 rfl rfl (by decide) ?_
      refine k_get (kf := 1) (v := .ref 10) dX7_enrolAll_38 kcX7 w_359 (by decide) (by decide) (s_0 hsh) rfl rfl ?_
      refine k_iload_n dX7_enrolAll_41 2 rfl rfl ?_
      refine k_callVr (st := []) (as := [.int (iI ((i15 : Int)))]) dX7_enrolAll_42 oX4_giveBest w_466 w_467 w_468 rfl (by omega) rfl (Nat.le_of_ble_eq_true rfl) (by decide) (s_10 hsh) rfl (c_giveBest hsh hT hT2 ⟨by omega, by omega⟩ (by omega)) ?_
      refine k_pop dX7_enrolAll_45 rfl ?_
      refine k_iload_n dX7_enrolAll_46 1 rfl rfl ?_
      refine k_aload_n dX7_enrolAll_47 0 rfl rfl (by decide) ?_
      refine k_get (kf := 0) (v := .ref 1) dX7_enrolAll_48 kcX7 w_358 (by decide) (by decide) (s_0 hsh) rfl rfl ?_
      refine k_iload_n dX7_enrolAll_51 2 rfl rfl ?_
      refine k_callVr (st := [.int (iI ((g_ea σ i15).2))]) (as := [.int (iI ((i15 : Int)))]) dX7_enrolAll_52 oX5_attendsWishes w_529 w_530 w_531 rfl (by omega) rfl (Nat.le_of_ble_eq_true rfl) (by decide) (s_1 hsh) rfl (c_attendsWishes hsh (u_give_ty hT ⟨by omega, by omega⟩) ⟨by omega, by omega⟩ (by omega)) ?_
      refine k_if_eq (tgt := 62) dX7_enrolAll_55 rfl (zb_kr _) (fun h_4 => ?_) (fun h_4 => ?_)
      · have h_4 := zb_0.mp h_4
        refine k_iconst (v := 0) dX7_enrolAll_62 rfl ?_
        refine k_iadd dX7_enrolAll_63 ?_
        refine k_istore_n (ls' := [(0, .ref 0), (1, .int (iI (((g_ea σ i15).2) + 0))), (2, .int (iI ((i15 : Int))))]) dX7_enrolAll_64 rfl (by decide) rfl rfl ?_
        refine k_iinc (ls' := [(0, .ref 0), (1, .int (iI (((g_ea σ i15).2) + 0))), (2, .int (iI ((i15 : Int) + 1)))]) dX7_enrolAll_65 2 rfl (by decide) rfl rfl ?_
        refine k_goto (tgt := 15) dX7_enrolAll_68 rfl ?_
        refine k_eqσ (σ' := (g_ea σ (i15 + 1)).1) (by rw [g_ea_s, if_pos h_3]) ?_
        refine k_lrw (q := 1) (j := 1) (a' := (g_ea σ (i15 + 1)).2) (ls' := [(0, .ref 0), (1, .int (iI ((g_ea σ (i15 + 1)).2))), (2, .int (iI ((i15 : Int) + 1)))]) rfl (by rw [g_ea_s, if_pos h_3]; show _ = (g_ea σ i15).2 + zb _; first | rw [zb_t h_4] | rw [zb_f h_4]) rfl ?_
        exact ih15
      · have h_4 := zb_n0.mp h_4
        refine k_iconst (v := 1) dX7_enrolAll_58 rfl ?_
        refine k_goto (tgt := 63) dX7_enrolAll_59 rfl ?_
        refine k_iadd dX7_enrolAll_63 ?_
        refine k_istore_n (ls' := [(0, .ref 0), (1, .int (iI (((g_ea σ i15).2) + 1))), (2, .int (iI ((i15 : Int))))]) dX7_enrolAll_64 rfl (by decide) rfl rfl ?_
        refine k_iinc (ls' := [(0, .ref 0), (1, .int (iI (((g_ea σ i15).2) + 1))), (2, .int (iI ((i15 : Int) + 1)))]) dX7_enrolAll_65 2 rfl (by decide) rfl rfl ?_
        refine k_goto (tgt := 15) dX7_enrolAll_68 rfl ?_
        refine k_eqσ (σ' := (g_ea σ (i15 + 1)).1) (by rw [g_ea_s, if_pos h_3]) ?_
        refine k_lrw (q := 1) (j := 1) (a' := (g_ea σ (i15 + 1)).2) (ls' := [(0, .ref 0), (1, .int (iI ((g_ea σ (i15 + 1)).2))), (2, .int (iI ((i15 : Int) + 1)))]) rfl (by rw [g_ea_s, if_pos h_3]; show _ = (g_ea σ i15).2 + zb _; first | rw [zb_t h_4] | rw [zb_f h_4]) rfl ?_
        exact ih15
theorem k_ddiv {x y : UInt64} (hd : decode M.2.1 pc = .ok (.ddiv, 1)) (hne : vf_n64 (FP.ddiv x y)) (kk : k_V E M dp (pc + 1) ls (.double (FP.ddiv x y) :: st) sh σ k n Q) : k_V E M dp pc ls (.double y :: .double x :: st) sh σ k n Q := by
  intro N0 ad0 p e R s m args below meth c H locs cells slots lsC ad mc ms C X hl
  exact lv_ddiv C.1 C.2.1 hd hne (kk N0 ad0 p e R s m args below meth c H locs cells slots lsC ad mc ms C X hl)
def f_mean (p c : Int) : UInt64 := FP.ddiv (FP.i2d (iI p)) (FP.i2d (iI c))
theorem f_meanOk : (List.range 65).all (fun p => (List.range 113).all (fun c => c == 0 || decide (f_mean (p : Int) (c : Int) &&& 0x7fffffffffffffff ≤ 0x7ff0000000000000))) = true := by decide +kernel
theorem f_openClN_r (σ : Nat → Nat → Int) : ∀ n : Nat, 0 ≤ f_openClN σ n ∧ f_openClN σ n ≤ 16 * n
  | 0 => ⟨Int.le_refl 0, Int.le_refl 0⟩
  | n + 1 => by
    have ih := f_openClN_r σ n
    have h2 := z_cnt_r (f_open σ (n : Int))
    show 0 ≤ f_openClN σ n + z_cnt _ ∧ f_openClN σ n + z_cnt _ ≤ 16 * ((n + 1 : Nat) : Int)
    omega
theorem f_meanN {p c : Int} (hp : 0 ≤ p ∧ p ≤ 64) (hc : 0 < c ∧ c ≤ 112) : vf_n64 (FP.ddiv (FP.i2d (iI p)) (FP.i2d (iI c))) := by
  have h := List.all_eq_true.mp (List.all_eq_true.mp f_meanOk p.toNat (List.mem_range.mpr (by omega))) c.toNat (List.mem_range.mpr (by omega))
  rw [Int.toNat_of_nonneg hp.1, Int.toNat_of_nonneg (Int.le_of_lt hc.1)] at h
  rcases Bool.or_eq_true _ _ |>.mp h with h | h
  · have : c.toNat = 0 := eq_of_beq h
    omega
  · exact (of_decide_eq_true h : f_mean p c &&& 0x7fffffffffffffff ≤ 0x7ff0000000000000)
set_option maxHeartbeats 4000000 in
theorem c7_meanClassSize (hsh : k_Main sh) (hI : k_Ty σ)  : k_C E mX7_meanClassSize 7 [.ref 0] sh σ 1 6 (k_rx (if f_openCl σ ≤ 0 then .inr x_ar else .inl (some (.double (f_mean (f_lessAll σ) (f_openCl σ))))) sh (σ)) := by
  refine k_C_of (ls0 := [(0, .ref 0)]) rfl pnX7 (fun v hv => k_cat1 rfl hv) (Nat.le_of_ble_eq_true rfl) rfl ?_
  obtain ⟨t0, t1, t2, t3, t4, t5, t6, t7, t8, t9, t10, t11⟩ := id hI
  have m1 := f_lessAllN_r σ (σ 1 1).toNat
  have m2 := f_openClN_r σ (σ 1 0).toNat
  have m3 : (σ 1 1).toNat ≤ 4 := by omega
  have m4 : (σ 1 0).toNat ≤ 7 := by omega
  change 0 ≤ f_lessAll σ ∧ f_lessAll σ ≤ _ at m1
  change 0 ≤ f_openCl σ ∧ f_openCl σ ≤ _ at m2
  refine k_aload_n dX7_meanClassSize_0 0 rfl rfl (by decide) ?_
  refine k_get (kf := 0) (v := .ref 1) dX7_meanClassSize_1 kcX7 w_358 (by decide) (by decide) (s_0 hsh) rfl rfl ?_
  refine k_callVr (st := []) (as := []) dX7_meanClassSize_4 oX5_openClasses w_1185 w_1186 w_1187 rfl (by omega) rfl (Nat.le_of_ble_eq_true rfl) (by decide) (s_1 hsh) rfl (c_openClasses hsh hI) ?_
  refine k_istore_n (ls' := [(0, .ref 0), (1, .int (iI (f_openCl σ)))]) dX7_meanClassSize_7 rfl (by decide) rfl rfl ?_
  refine k_iload_n dX7_meanClassSize_8 1 rfl rfl ?_
  refine k_if_gt (tgt := 22) dX7_meanClassSize_9 rfl ⟨by omega, by omega⟩ (fun h_1 => ?_) (fun h_1 => ?_)
  · refine k_aload_n dX7_meanClassSize_22 0 rfl rfl (by decide) ?_
    refine k_get (kf := 0) (v := .ref 1) dX7_meanClassSize_23 kcX7 w_358 (by decide) (by decide) (s_0 hsh) rfl rfl ?_
    refine k_callVr (st := []) (as := []) dX7_meanClassSize_26 oX5_lessonsOfAll w_1192 w_704 w_705 rfl (by omega) rfl (Nat.le_of_ble_eq_true rfl) (by decide) (s_1 hsh) rfl (c_lessonsOfAll hsh hI) ?_
    refine k_i2d (v := FP.i2d (iI (f_lessAll σ))) dX7_meanClassSize_29 rfl ?_
    refine k_iload_n dX7_meanClassSize_30 1 rfl rfl ?_
    refine k_i2d (v := FP.i2d (iI (f_openCl σ))) dX7_meanClassSize_31 rfl ?_
    refine k_ddiv dX7_meanClassSize_32 (f_meanN ⟨m1.1, by omega⟩ ⟨by omega, by omega⟩) ?_
    exact k_ret_d dX7_meanClassSize_33 rfl ⟨by rw [if_neg (by omega)]; rfl, rfl, rfl⟩
  · exact k_throw dX7_meanClassSize_12 dX7_meanClassSize_15 dX7_meanClassSize_16 dX7_meanClassSize_18 dX7_meanClassSize_21 rfl th_ar w_1190 (by decide) (Nat.le_of_ble_eq_true rfl) ⟨(by exact (if_pos (by omega)).symm), rfl, (rfl)⟩
end K_FD
