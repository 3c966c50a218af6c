/-! ===== THE LAW: classes and searches ===== -/
section P_I
variable {E : k_E} {sh : List k_Sh} {σ τ : Nat → Nat → Int} {r : Nat → Int} {p s : Int}
/-! who can be served, on plans alike -/
theorem p_ser_pl (hτ : p_J τ) (hσ : p_J σ) (h : k_PlEq τ σ) : g_srv (u_open τ p 3 11) (τ 5 p.toNat) 3 0 = true ↔ g_srv (u_open σ p 3 11) (σ 5 p.toNat) 3 0 = true := by
  have h5 := hσ.1.1.1.2.2.2.2.2.2.1 p.toNat
  have e5 : τ 5 p.toNat = σ 5 p.toNat := by rw [h 5 (by decide)]
  have hu : ∀ i, i < 3 → u_open τ p 3 11 i = u_open σ p 3 11 i := fun i hi => by
    rw [u_open11 τ p hi, u_open11 σ p hi, e5, h.wish, h.opn]
  rw [h_srv (fun j => u_open_11 hτ.1.1.1 hτ.1.1.2.1 p 3 j) (by rw [e5]; exact h5), h_srv (fun j => u_open_11 hσ.1.1.1 hσ.1.1.2.1 p 3 j) h5, e5, hu 0 (by decide), hu 1 (by decide), hu 2 (by decide)]
theorem p_hall_pl (hτ : p_J τ) (hσ : p_J σ) (h : k_PlEq τ σ) : f_hall (u_open τ p 3 11) (τ 5 p.toNat) ↔ g_srv (u_open σ p 3 11) (σ 5 p.toNat) 3 0 = true := by
  have h5 := hτ.1.1.1.2.2.2.2.2.2.1 p.toNat
  exact (p_served (fun j => u_open_11 hτ.1.1.1 hτ.1.1.2.1 p 3 j) h5).symm.trans (p_ser_pl hτ hσ h)
theorem zb_iff {a b : Prop} [Decidable a] [Decidable b] (h : a ↔ b) : zb a = zb b := by
  by_cases q : a
  · rw [zb_t q, zb_t (h.mp q)]
  · rw [zb_f q, zb_f (fun y => q (h.mpr y))]
theorem p_Q_in (hQ : p_Q τ σ) (hp : 0 ≤ p ∧ p < σ 1 2) : 0 ≤ p ∧ p < τ 1 2 := by
  rw [hQ.1 1 (by omega)]
  exact hp
theorem p_Q_ins (hQ : p_Q τ σ) (hs : 0 ≤ s ∧ s < σ 1 0) : 0 ≤ s ∧ s < τ 1 0 := by
  rw [hQ.1 1 (by omega)]
  exact hs
/-! the askers that search, over any state whose plan is σ's -/
theorem q_bestValue (hsh : k_Main sh) (hQ : p_Q τ σ) (hp : 0 ≤ p ∧ p < σ 1 2) : ∃ τ', p_Q τ' σ ∧ k_C E mL_bestValue 14 [.ref 0, .int (iI p)] sh τ 1 6 (k_ret (some (.int (iI (f_vbs (u_roomy σ p 11))))) sh τ') := by
  refine ⟨u_best (u_roomy τ p), p_Q_tr (p_Q_best hQ.2 p) hQ, ?_⟩
  have h := v_bestValue (E := E) hsh hQ.2 (p_Q_in hQ hp)
  rwa [p_val_pl hQ.pl] at h
theorem q_bestValueBySets (hsh : k_Main sh) (hQ : p_Q τ σ) (hp : 0 ≤ p ∧ p < σ 1 2) : ∃ τ', p_Q τ' σ ∧ k_C E mL_bestValueBySets 14 [.ref 0, .int (iI p)] sh τ 1 6 (k_ret (some (.int (iI (f_vbs (u_roomy σ p 11))))) sh τ') := by
  refine ⟨u_roomy τ p, p_Q_tr (p_Q_roomy hQ.2 p) hQ, ?_⟩
  have h := v_bestValueBySets (E := E) hsh hQ.2 (p_Q_in hQ hp)
  rwa [p_val_pl hQ.pl] at h
theorem q_canServe (hsh : k_Main sh) (hσ : p_J σ) (hQ : p_Q τ σ) (hp : 0 ≤ p ∧ p < σ 1 2) : ∃ τ', p_Q τ' σ ∧ k_C E mL_canServe 14 [.ref 0, .int (iI p)] sh τ 1 6 (k_ret (some (.int (iI (zb (g_srv (u_open σ p 3 11) (σ 5 p.toNat) 3 0 = true))))) sh τ') := by
  refine ⟨u_open τ p 3, p_Q_tr (p_Q_open hQ.2 p 3) hQ, ?_⟩
  have h := v_canServe (E := E) hsh hQ.2 (p_Q_in hQ hp)
  rwa [zb_iff (p_ser_pl hQ.2 hσ hQ.pl)] at h
theorem q_canServeByCounting (hsh : k_Main sh) (hσ : p_J σ) (hQ : p_Q τ σ) (hp : 0 ≤ p ∧ p < σ 1 2) : ∃ τ', p_Q τ' σ ∧ k_C E mL_canServeByCounting 14 [.ref 0, .int (iI p)] sh τ 1 6 (k_ret (some (.int (iI (zb (g_srv (u_open σ p 3 11) (σ 5 p.toNat) 3 0 = true))))) sh τ') := by
  refine ⟨u_open τ p 3, p_Q_tr (p_Q_open hQ.2 p 3) hQ, ?_⟩
  have h := v_canServeByCounting (E := E) hsh hQ.2 (p_Q_in hQ hp)
  rwa [zb_iff (p_hall_pl hQ.2 hσ hQ.pl)] at h
theorem q_movesFor (hsh : k_Main sh) (hQ : p_Q τ σ) (hp : 0 ≤ p ∧ p < σ 1 2) (hs : 0 ≤ s ∧ s < σ 1 0) : ∃ τ', p_Q τ' σ ∧ k_C E mL_movesFor 13 [.ref 0, .int (iI p), .int (iI s)] sh τ 1 6 (k_ret (some (.int (iI (p_mv σ p s)))) sh τ') := by
  refine ⟨u_mv τ p s, ?_, ?_⟩
  · unfold u_mv
    split
    · exact p_Q_tr (p_Q_few hQ.2 s) hQ
    · exact hQ
  have h := v_movesFor (E := E) hsh hQ.2 (p_Q_in hQ hp) (p_Q_ins hQ hs)
  rwa [p_mv_pl hQ.pl] at h
theorem q_movesByTrial (hsh : k_Main sh) (hQ : p_Q τ σ) (hp : 0 ≤ p ∧ p < σ 1 2) (hs : 0 ≤ s ∧ s < σ 1 0) : k_C E mL_movesByTrial 13 [.ref 0, .int (iI p), .int (iI s)] sh τ 1 6 (k_ret (some (.int (iI (p_mv σ p s)))) sh τ) := by
  have h := v_movesByTrial (E := E) hsh hQ.2 (p_Q_in hQ hp) (p_Q_ins hQ hs)
  rwa [p_mv_pl hQ.pl] at h
theorem q_blockOf (hsh : k_Main sh) (hQ : p_Q τ σ) (hp : 0 ≤ p ∧ p < σ 1 2) (hs : 0 ≤ s ∧ s < σ 1 0) : k_C E mL_blockOf 9 [.ref 0, .int (iI p), .int (iI s)] sh τ 1 6 (k_ret (some (.int (iI (f_taken σ p s)))) sh τ) := by
  have h := v_blockOf (E := E) hsh hQ.2 (p_Q_in hQ hp) (p_Q_ins hQ hs)
  rwa [hQ.pl.taken] at h
theorem q_pupilCount (hsh : k_Main sh) (hQ : p_Q τ σ) : k_C E mX7_pupilCount 8 [.ref 0] sh τ 1 6 (k_ret (some (.int (iI (σ 1 2)))) sh τ) := by
  have h := d_pupilCount (E := E) hsh hQ.2
  rwa [hQ.1 1 (by omega)] at h
theorem q_subjectCount (hsh : k_Main sh) (hQ : p_Q τ σ) : k_C E mX7_subjectCount 8 [.ref 0] sh τ 1 6 (k_ret (some (.int (iI (σ 1 0)))) sh τ) := by
  have h := d_subjectCount (E := E) hsh hQ.2
  rwa [hQ.1 1 (by omega)] at h
theorem q_blockCount (hsh : k_Main sh) (hQ : p_Q τ σ) : k_C E mX7_blockCount 8 [.ref 0] sh τ 1 6 (k_ret (some (.int (iI (σ 1 1)))) sh τ) := by
  have h := d_blockCount (E := E) hsh hQ.2
  rwa [hQ.1 1 (by omega)] at h
set_option maxHeartbeats 8000000 in
theorem c_classes (hsh : k_Main sh) (hJ : p_J σ) : k_C E mL_classes 17 [.ref 0] sh σ 2200 13000 (k_ret (some (.int (iI 1))) sh σ) := by
  refine k_C_of (ls0 := [(0, .ref 0)]) rfl pnL (fun v hv => k_cat1 rfl hv) (Nat.le_of_ble_eq_true rfl) rfl ?_
  have hI := hJ.1.1.1
  obtain ⟨r, hR⟩ := hJ.2.1
  obtain ⟨j0, j1, j2⟩ := p_J_rg hJ
  refine k_iconst (v := 0) dL_classes_0 rfl ?_
  refine k_istore_n (ls' := [(0, .ref 0), (1, .int (iI (0)))]) dL_classes_1 rfl (by decide) rfl rfl ?_
  refine k_less (k' := 300 * ((σ 1 0).toNat - 0) + 1) (n' := 1800 * ((σ 1 0).toNat - 0) + 6) (by omega) (by omega) ?_
  refine k_down (P := fun i2 : Nat => k_V E mL_classes _ 2 [(0, .ref 0), (1, .int (iI ((i2 : Int))))] [] sh σ (300 * ((σ 1 0).toNat - i2) + 1) (1800 * ((σ 1 0).toNat - i2) + 6) _) ((σ 1 0).toNat) ?_ ?_
  · refine k_less (k' := 1) (n' := 6) (by omega) (by omega) ?_
    refine k_iload_n dL_classes_2 1 rfl rfl ?_
    refine k_aload_n dL_classes_3 0 rfl rfl (by decide) ?_
    refine k_less (k' := 1 + (0)) (n' := 6 + (0)) (by omega) (by omega) ?_
    refine p_callV (k1 := 1) (n1 := 6) (k := 0) (n := 0) (st := [.int (iI ((((σ 1 0).toNat : Nat) : Int)))]) (as := []) dL_classes_4 oX7_subjectCount rfl w_p910 w_402 w_403 (by decide) rfl (Nat.le_of_ble_eq_true rfl) (by decide) (s_0 hsh) rfl (d_subjectCount hsh hJ) ?_
    refine k_icmp_ge (tgt := 142) dL_classes_7 rfl ⟨by omega, by omega⟩ ⟨by omega, by omega⟩ (fun h_1 => ?_) (fun h_1 => absurd h_1 (by omega))
    refine k_iconst (v := 1) dL_classes_142 rfl ?_
    exact k_retz dL_classes_143 rfl (Or.inr rfl) rfl rfl
  · intro i2 hi2 ih2
    refine k_less (k' := 300 + (300 * ((σ 1 0).toNat - (i2 + 1)) + 1)) (n' := 1800 + (1800 * ((σ 1 0).toNat - (i2 + 1)) + 6)) (by omega) (by omega) ?_
    refine k_iload_n dL_classes_2 1 rfl rfl ?_
    refine k_aload_n dL_classes_3 0 rfl rfl (by decide) ?_
    refine k_less (k' := 1 + (299 + (300 * ((σ 1 0).toNat - (i2 + 1)) + 1))) (n' := 6 + (1794 + (1800 * ((σ 1 0).toNat - (i2 + 1)) + 6))) (by omega) (by omega) ?_
    refine p_callV (k1 := 1) (n1 := 6) (k := 299 + (300 * ((σ 1 0).toNat - (i2 + 1)) + 1)) (n := 1794 + (1800 * ((σ 1 0).toNat - (i2 + 1)) + 6)) (st := [.int (iI ((i2 : Int)))]) (as := []) dL_classes_4 oX7_subjectCount rfl w_p910 w_402 w_403 (by decide) rfl (Nat.le_of_ble_eq_true rfl) (by decide) (s_0 hsh) rfl (d_subjectCount hsh hJ) ?_
    refine k_icmp_ge (tgt := 142) dL_classes_7 rfl ⟨by omega, by omega⟩ ⟨by omega, by omega⟩ (fun h_2 => absurd h_2 (by omega)) (fun h_2 => ?_)
    refine k_iconst (v := 0) dL_classes_10 rfl ?_
    refine k_istore_n (ls' := [(0, .ref 0), (1, .int (iI ((i2 : Int)))), (2, .int (iI (0)))]) dL_classes_11 rfl (by decide) rfl rfl ?_
    refine k_less (k' := 60 * ((σ 1 1).toNat - 0) + (1 + (300 * ((σ 1 0).toNat - (i2 + 1)) + 1))) (n' := 360 * ((σ 1 1).toNat - 0) + (6 + (1800 * ((σ 1 0).toNat - (i2 + 1)) + 6))) (by omega) (by omega) ?_
    refine k_down (P := fun i12 : Nat => k_V E mL_classes _ 12 [(0, .ref 0), (1, .int (iI ((i2 : Int)))), (2, .int (iI ((i12 : Int))))] [] sh σ (60 * ((σ 1 1).toNat - i12) + (1 + (300 * ((σ 1 0).toNat - (i2 + 1)) + 1))) (360 * ((σ 1 1).toNat - i12) + (6 + (1800 * ((σ 1 0).toNat - (i2 + 1)) + 6))) _) ((σ 1 1).toNat) ?_ ?_
    · refine k_less (k' := 1 + (300 * ((σ 1 0).toNat - (i2 + 1)) + 1)) (n' := 6 + (1800 * ((σ 1 0).toNat - (i2 + 1)) + 6)) (by omega) (by omega) ?_
      refine k_iload_n dL_classes_12 2 rfl rfl ?_
      refine k_aload_n dL_classes_13 0 rfl rfl (by decide) ?_
      refine k_less (k' := 1 + (300 * ((σ 1 0).toNat - (i2 + 1)) + 1)) (n' := 6 + (1800 * ((σ 1 0).toNat - (i2 + 1)) + 6)) (by omega) (by omega) ?_
      refine p_callV (k1 := 1) (n1 := 6) (k := 300 * ((σ 1 0).toNat - (i2 + 1)) + 1) (n := 1800 * ((σ 1 0).toNat - (i2 + 1)) + 6) (st := [.int (iI ((((σ 1 1).toNat : Nat) : Int)))]) (as := []) dL_classes_14 oX7_blockCount rfl w_p914 w_406 w_407 (by decide) rfl (Nat.le_of_ble_eq_true rfl) (by decide) (s_0 hsh) rfl (d_blockCount hsh hJ) ?_
      refine k_icmp_ge (tgt := 136) dL_classes_17 rfl ⟨by omega, by omega⟩ ⟨by omega, by omega⟩ (fun h_3 => ?_) (fun h_3 => absurd h_3 (by omega))
      refine k_iinc (ls' := [(0, .ref 0), (1, .int (iI ((i2 : Int) + 1))), (2, .int (iI ((((σ 1 1).toNat : Nat) : Int))))]) dL_classes_136 1 rfl (by decide) rfl rfl ?_
      refine k_goto (tgt := 2) dL_classes_139 rfl ?_
      refine k_dropr (ls' := [(0, .ref 0), (1, .int (iI ((i2 : Int) + 1)))]) (ex := [(2, .int (iI ((((σ 1 1).toNat : Nat) : Int))))]) rfl ?_
      refine k_lrw (q := 1) (j := 1) (a' := ((i2 + 1 : Nat) : Int)) (ls' := [(0, .ref 0), (1, .int (iI (((i2 + 1 : Nat) : Int))))]) rfl (by omega) rfl ?_
      refine k_less (k' := 300 * ((σ 1 0).toNat - (i2 + 1)) + 1) (n' := 1800 * ((σ 1 0).toNat - (i2 + 1)) + 6) (by omega) (by omega) ?_
      exact ih2
    · intro i12 hi12 ih12
      refine k_less (k' := 60 + (60 * ((σ 1 1).toNat - (i12 + 1)) + (1 + (300 * ((σ 1 0).toNat - (i2 + 1)) + 1)))) (n' := 360 + (360 * ((σ 1 1).toNat - (i12 + 1)) + (6 + (1800 * ((σ 1 0).toNat - (i2 + 1)) + 6)))) (by omega) (by omega) ?_
      refine k_iload_n dL_classes_12 2 rfl rfl ?_
      refine k_aload_n dL_classes_13 0 rfl rfl (by decide) ?_
      refine k_less (k' := 1 + (59 + (60 * ((σ 1 1).toNat - (i12 + 1)) + (1 + (300 * ((σ 1 0).toNat - (i2 + 1)) + 1))))) (n' := 6 + (354 + (360 * ((σ 1 1).toNat - (i12 + 1)) + (6 + (1800 * ((σ 1 0).toNat - (i2 + 1)) + 6))))) (by omega) (by omega) ?_
      refine p_callV (k1 := 1) (n1 := 6) (k := 59 + (60 * ((σ 1 1).toNat - (i12 + 1)) + (1 + (300 * ((σ 1 0).toNat - (i2 + 1)) + 1)))) (n := 354 + (360 * ((σ 1 1).toNat - (i12 + 1)) + (6 + (1800 * ((σ 1 0).toNat - (i2 + 1)) + 6)))) (st := [.int (iI ((i12 : Int)))]) (as := []) dL_classes_14 oX7_blockCount rfl w_p914 w_406 w_407 (by decide) rfl (Nat.le_of_ble_eq_true rfl) (by decide) (s_0 hsh) rfl (d_blockCount hsh hJ) ?_
      refine k_icmp_ge (tgt := 136) dL_classes_17 rfl ⟨by omega, by omega⟩ ⟨by omega, by omega⟩ (fun h_4 => absurd h_4 (by omega)) (fun h_4 => ?_)
      refine k_iconst (v := 0) dL_classes_20 rfl ?_
      refine k_istore_n (ls' := [(0, .ref 0), (1, .int (iI ((i2 : Int)))), (2, .int (iI ((i12 : Int)))), (3, .int (iI (0)))]) dL_classes_21 rfl (by decide) rfl rfl ?_
      refine k_iconst (v := 0) dL_classes_22 rfl ?_
      refine k_istore (ls' := [(0, .ref 0), (1, .int (iI ((i2 : Int)))), (2, .int (iI ((i12 : Int)))), (3, .int (iI (0))), (4, .int (iI (0)))]) dL_classes_23 (by decide) rfl rfl ?_
      refine k_less (k' := 4 * ((σ 1 2).toNat - 0) + (5 + (60 * ((σ 1 1).toNat - (i12 + 1)) + (1 + (300 * ((σ 1 0).toNat - (i2 + 1)) + 1))))) (n' := 24 * ((σ 1 2).toNat - 0) + (30 + (360 * ((σ 1 1).toNat - (i12 + 1)) + (6 + (1800 * ((σ 1 0).toNat - (i2 + 1)) + 6))))) (by omega) (by omega) ?_
      refine k_down (P := fun i25 : Nat => k_V E mL_classes _ 25 [(0, .ref 0), (1, .int (iI ((i2 : Int)))), (2, .int (iI ((i12 : Int)))), (3, .int (iI (z_cntn (f_roster σ (i2 : Int) (i12 : Int)) i25))), (4, .int (iI ((i25 : Int))))] [] sh σ (4 * ((σ 1 2).toNat - i25) + (5 + (60 * ((σ 1 1).toNat - (i12 + 1)) + (1 + (300 * ((σ 1 0).toNat - (i2 + 1)) + 1))))) (24 * ((σ 1 2).toNat - i25) + (30 + (360 * ((σ 1 1).toNat - (i12 + 1)) + (6 + (1800 * ((σ 1 0).toNat - (i2 + 1)) + 6))))) _) ((σ 1 2).toNat) ?_ ?_
      · refine k_less (k' := 5 + (60 * ((σ 1 1).toNat - (i12 + 1)) + (1 + (300 * ((σ 1 0).toNat - (i2 + 1)) + 1)))) (n' := 30 + (360 * ((σ 1 1).toNat - (i12 + 1)) + (6 + (1800 * ((σ 1 0).toNat - (i2 + 1)) + 6)))) (by omega) (by omega) ?_
        have q1 := f_lesson_r hI (((σ 1 2).toNat) : Int) (i12 : Int)
        have q2 := z_cntn_r (f_roster σ (i2 : Int) (i12 : Int)) ((σ 1 2).toNat)
        refine k_iload dL_classes_25 4 rfl ?_
        refine k_aload_n dL_classes_27 0 rfl rfl (by decide) ?_
        refine k_less (k' := 1 + (4 + (60 * ((σ 1 1).toNat - (i12 + 1)) + (1 + (300 * ((σ 1 0).toNat - (i2 + 1)) + 1))))) (n' := 6 + (24 + (360 * ((σ 1 1).toNat - (i12 + 1)) + (6 + (1800 * ((σ 1 0).toNat - (i2 + 1)) + 6))))) (by omega) (by omega) ?_
        refine p_callV (k1 := 1) (n1 := 6) (k := 4 + (60 * ((σ 1 1).toNat - (i12 + 1)) + (1 + (300 * ((σ 1 0).toNat - (i2 + 1)) + 1)))) (n := 24 + (360 * ((σ 1 1).toNat - (i12 + 1)) + (6 + (1800 * ((σ 1 0).toNat - (i2 + 1)) + 6)))) (st := [.int (iI ((((σ 1 2).toNat : Nat) : Int)))]) (as := []) dL_classes_28 oX7_pupilCount rfl w_p918 w_410 w_411 (by decide) rfl (Nat.le_of_ble_eq_true rfl) (by decide) (s_0 hsh) rfl (d_pupilCount hsh hJ) ?_
        refine k_icmp_ge (tgt := 82) dL_classes_31 rfl ⟨by omega, by omega⟩ ⟨by omega, by omega⟩ (fun h_5 => ?_) (fun h_5 => absurd h_5 (by omega))
        have hn := p_cls_n hR hI (s := (i2 : Int)) (b := (i12 : Int))
        have hz := hJ.2.2 (i2 : Int) (i12 : Int) (by omega) (by omega) (by omega) (by omega)
        have hzr := z_cnt_r (f_roster σ (i2 : Int) (i12 : Int))
        have hs2 := hI.2.2.2.1 ((i2 : Int)).toNat
        refine k_lrw (q := 3) (j := 3) (a' := z_cnt (f_roster σ (i2 : Int) (i12 : Int))) (ls' := [(0, .ref 0), (1, .int (iI ((i2 : Int)))), (2, .int (iI ((i12 : Int)))), (3, .int (iI (z_cnt (f_roster σ (i2 : Int) (i12 : Int))))), (4, .int (iI ((((σ 1 2).toNat : Nat) : Int))))]) rfl (hn) rfl ?_
        refine k_aload_n dL_classes_82 0 rfl rfl (by decide) ?_
        refine k_iload_n dL_classes_83 1 rfl rfl ?_
        refine k_iload_n dL_classes_84 2 rfl rfl ?_
        refine k_less (k' := 1 + (3 + (60 * ((σ 1 1).toNat - (i12 + 1)) + (1 + (300 * ((σ 1 0).toNat - (i2 + 1)) + 1))))) (n' := 6 + (18 + (360 * ((σ 1 1).toNat - (i12 + 1)) + (6 + (1800 * ((σ 1 0).toNat - (i2 + 1)) + 6))))) (by omega) (by omega) ?_
        refine p_callW (k1 := 1) (n1 := 6) (k := 3 + (60 * ((σ 1 1).toNat - (i12 + 1)) + (1 + (300 * ((σ 1 0).toNat - (i2 + 1)) + 1)))) (n := 18 + (360 * ((σ 1 1).toNat - (i12 + 1)) + (6 + (1800 * ((σ 1 0).toNat - (i2 + 1)) + 6)))) (st := []) (as := [.ref 0, .int (iI ((i2 : Int))), .int (iI ((i12 : Int)))]) dL_classes_85 oL_pupilsInClass rfl w_p953 w_979 (by decide) rfl (Nat.le_of_ble_eq_true rfl) (v_pupilsInClass hsh hJ ⟨by omega, by omega⟩ ⟨by omega, by omega⟩) ?_
        refine k_iload_n dL_classes_88 3 rfl rfl ?_
        refine k_icmp_ne (tgt := 128) dL_classes_89 rfl ⟨by omega, by omega⟩ ⟨by omega, by omega⟩ (fun h_6 => absurd h_6 (by omega)) (fun h_6 => ?_)
        refine k_iload_n dL_classes_92 3 rfl rfl ?_
        refine k_aload_n dL_classes_93 0 rfl rfl (by decide) ?_
        refine k_iload_n dL_classes_94 1 rfl rfl ?_
        refine k_less (k' := 1 + (2 + (60 * ((σ 1 1).toNat - (i12 + 1)) + (1 + (300 * ((σ 1 0).toNat - (i2 + 1)) + 1))))) (n' := 6 + (12 + (360 * ((σ 1 1).toNat - (i12 + 1)) + (6 + (1800 * ((σ 1 0).toNat - (i2 + 1)) + 6))))) (by omega) (by omega) ?_
        refine p_callW (k1 := 1) (n1 := 6) (k := 2 + (60 * ((σ 1 1).toNat - (i12 + 1)) + (1 + (300 * ((σ 1 0).toNat - (i2 + 1)) + 1)))) (n := 12 + (360 * ((σ 1 1).toNat - (i12 + 1)) + (6 + (1800 * ((σ 1 0).toNat - (i2 + 1)) + 6)))) (st := [.int (iI (z_cnt (f_roster σ (i2 : Int) (i12 : Int))))]) (as := [.ref 0, .int (iI ((i2 : Int)))]) dL_classes_95 oL_sizeOf rfl w_p960 w_937 (by decide) rfl (Nat.le_of_ble_eq_true rfl) (v_sizeOf hsh hJ ⟨by omega, by omega⟩) ?_
        refine k_icmp_gt (tgt := 128) dL_classes_98 rfl ⟨by omega, by omega⟩ ⟨by omega, by omega⟩ (fun h_7 => absurd h_7 (by omega)) (fun h_7 => ?_)
        refine k_iload_n dL_classes_101 3 rfl rfl ?_
        refine k_if_le (tgt := 115) dL_classes_102 rfl ⟨by omega, by omega⟩ (fun h_8 => ?_) (fun h_8 => ?_)
        · refine k_aload_n dL_classes_115 0 rfl rfl (by decide) ?_
          refine k_iload_n dL_classes_116 1 rfl rfl ?_
          refine k_iload_n dL_classes_117 2 rfl rfl ?_
          refine k_iload_n dL_classes_118 3 rfl rfl ?_
          refine k_less (k' := 1 + (1 + (60 * ((σ 1 1).toNat - (i12 + 1)) + (1 + (300 * ((σ 1 0).toNat - (i2 + 1)) + 1))))) (n' := 6 + (6 + (360 * ((σ 1 1).toNat - (i12 + 1)) + (6 + (1800 * ((σ 1 0).toNat - (i2 + 1)) + 6))))) (by omega) (by omega) ?_
          refine p_callW (k1 := 1) (n1 := 6) (k := 1 + (60 * ((σ 1 1).toNat - (i12 + 1)) + (1 + (300 * ((σ 1 0).toNat - (i2 + 1)) + 1)))) (n := 6 + (360 * ((σ 1 1).toNat - (i12 + 1)) + (6 + (1800 * ((σ 1 0).toNat - (i2 + 1)) + 6)))) (st := []) (as := [.ref 0, .int (iI ((i2 : Int))), .int (iI ((i12 : Int))), .int (iI (z_cnt (f_roster σ (i2 : Int) (i12 : Int))))]) dL_classes_119 oL_pupilInClass rfl w_p922 w_988 (by decide) rfl (Nat.le_of_ble_eq_true rfl) (v_pupilInClassX hsh hJ ⟨by omega, by omega⟩ ⟨by omega, by omega⟩ rfl) ?_
          refine k_sipush (v := (-1002)) dL_classes_122 (by decide) ?_
          refine k_icmp_eq (tgt := 130) dL_classes_125 rfl ⟨by decide, by decide⟩ ⟨by decide, by decide⟩ (fun h_9 => ?_) (fun h_9 => absurd h_9 (by decide))
          refine k_iinc (ls' := [(0, .ref 0), (1, .int (iI ((i2 : Int)))), (2, .int (iI ((i12 : Int) + 1))), (3, .int (iI (z_cnt (f_roster σ (i2 : Int) (i12 : Int))))), (4, .int (iI ((((σ 1 2).toNat : Nat) : Int))))]) dL_classes_130 2 rfl (by decide) rfl rfl ?_
          refine k_goto (tgt := 12) dL_classes_133 rfl ?_
          refine k_dropr (ls' := [(0, .ref 0), (1, .int (iI ((i2 : Int)))), (2, .int (iI ((i12 : Int) + 1)))]) (ex := [(3, .int (iI (z_cnt (f_roster σ (i2 : Int) (i12 : Int))))), (4, .int (iI ((((σ 1 2).toNat : Nat) : Int))))]) rfl ?_
          refine k_lrw (q := 2) (j := 2) (a' := ((i12 + 1 : Nat) : Int)) (ls' := [(0, .ref 0), (1, .int (iI ((i2 : Int)))), (2, .int (iI (((i12 + 1 : Nat) : Int))))]) rfl (by omega) rfl ?_
          refine k_less (k' := 60 * ((σ 1 1).toNat - (i12 + 1)) + (1 + (300 * ((σ 1 0).toNat - (i2 + 1)) + 1))) (n' := 360 * ((σ 1 1).toNat - (i12 + 1)) + (6 + (1800 * ((σ 1 0).toNat - (i2 + 1)) + 6))) (by omega) (by omega) ?_
          exact ih12
        · refine k_aload_n dL_classes_105 0 rfl rfl (by decide) ?_
          refine k_iload_n dL_classes_106 1 rfl rfl ?_
          refine k_iload_n dL_classes_107 2 rfl rfl ?_
          refine k_less (k' := 1 + (1 + (60 * ((σ 1 1).toNat - (i12 + 1)) + (1 + (300 * ((σ 1 0).toNat - (i2 + 1)) + 1))))) (n' := 6 + (6 + (360 * ((σ 1 1).toNat - (i12 + 1)) + (6 + (1800 * ((σ 1 0).toNat - (i2 + 1)) + 6))))) (by omega) (by omega) ?_
          refine p_callW (k1 := 1) (n1 := 6) (k := 1 + (60 * ((σ 1 1).toNat - (i12 + 1)) + (1 + (300 * ((σ 1 0).toNat - (i2 + 1)) + 1)))) (n := 6 + (360 * ((σ 1 1).toNat - (i12 + 1)) + (6 + (1800 * ((σ 1 0).toNat - (i2 + 1)) + 6)))) (st := []) (as := [.ref 0, .int (iI ((i2 : Int))), .int (iI ((i12 : Int)))]) dL_classes_108 oL_isOpen rfl w_p968 w_970 (by decide) rfl (Nat.le_of_ble_eq_true rfl) (v_isOpen hsh hJ ⟨by omega, by omega⟩ ⟨by omega, by omega⟩) ?_
          refine k_iconst (v := 1) dL_classes_111 rfl ?_
          refine k_icmp_ne (tgt := 128) dL_classes_112 rfl (zb_kr _) ⟨by decide, by decide⟩ (fun h_10 => absurd h_10 (fun y => y (zb_t (p_cls_o hR (by omega))))) (fun h_10 => ?_)
          refine k_aload_n dL_classes_115 0 rfl rfl (by decide) ?_
          refine k_iload_n dL_classes_116 1 rfl rfl ?_
          refine k_iload_n dL_classes_117 2 rfl rfl ?_
          refine k_iload_n dL_classes_118 3 rfl rfl ?_
          refine k_less (k' := 1 + (60 * ((σ 1 1).toNat - (i12 + 1)) + (1 + (300 * ((σ 1 0).toNat - (i2 + 1)) + 1)))) (n' := 6 + (360 * ((σ 1 1).toNat - (i12 + 1)) + (6 + (1800 * ((σ 1 0).toNat - (i2 + 1)) + 6)))) (by omega) (by omega) ?_
          refine p_callW (k1 := 1) (n1 := 6) (k := 60 * ((σ 1 1).toNat - (i12 + 1)) + (1 + (300 * ((σ 1 0).toNat - (i2 + 1)) + 1))) (n := 360 * ((σ 1 1).toNat - (i12 + 1)) + (6 + (1800 * ((σ 1 0).toNat - (i2 + 1)) + 6))) (st := []) (as := [.ref 0, .int (iI ((i2 : Int))), .int (iI ((i12 : Int))), .int (iI (z_cnt (f_roster σ (i2 : Int) (i12 : Int))))]) dL_classes_119 oL_pupilInClass rfl w_p922 w_988 (by decide) rfl (Nat.le_of_ble_eq_true rfl) (v_pupilInClassX hsh hJ ⟨by omega, by omega⟩ ⟨by omega, by omega⟩ rfl) ?_
          refine k_sipush (v := (-1002)) dL_classes_122 (by decide) ?_
          refine k_icmp_eq (tgt := 130) dL_classes_125 rfl ⟨by decide, by decide⟩ ⟨by decide, by decide⟩ (fun h_11 => ?_) (fun h_11 => absurd h_11 (by decide))
          refine k_iinc (ls' := [(0, .ref 0), (1, .int (iI ((i2 : Int)))), (2, .int (iI ((i12 : Int) + 1))), (3, .int (iI (z_cnt (f_roster σ (i2 : Int) (i12 : Int))))), (4, .int (iI ((((σ 1 2).toNat : Nat) : Int))))]) dL_classes_130 2 rfl (by decide) rfl rfl ?_
          refine k_goto (tgt := 12) dL_classes_133 rfl ?_
          refine k_dropr (ls' := [(0, .ref 0), (1, .int (iI ((i2 : Int)))), (2, .int (iI ((i12 : Int) + 1)))]) (ex := [(3, .int (iI (z_cnt (f_roster σ (i2 : Int) (i12 : Int))))), (4, .int (iI ((((σ 1 2).toNat : Nat) : Int))))]) rfl ?_
          refine k_lrw (q := 2) (j := 2) (a' := ((i12 + 1 : Nat) : Int)) (ls' := [(0, .ref 0), (1, .int (iI ((i2 : Int)))), (2, .int (iI (((i12 + 1 : Nat) : Int))))]) rfl (by omega) rfl ?_
          refine k_less (k' := 60 * ((σ 1 1).toNat - (i12 + 1)) + (1 + (300 * ((σ 1 0).toNat - (i2 + 1)) + 1))) (n' := 360 * ((σ 1 1).toNat - (i12 + 1)) + (6 + (1800 * ((σ 1 0).toNat - (i2 + 1)) + 6))) (by omega) (by omega) ?_
          exact ih12
      · intro i25 hi25 ih25
        refine k_less (k' := 4 + (4 * ((σ 1 2).toNat - (i25 + 1)) + (5 + (60 * ((σ 1 1).toNat - (i12 + 1)) + (1 + (300 * ((σ 1 0).toNat - (i2 + 1)) + 1)))))) (n' := 24 + (24 * ((σ 1 2).toNat - (i25 + 1)) + (30 + (360 * ((σ 1 1).toNat - (i12 + 1)) + (6 + (1800 * ((σ 1 0).toNat - (i2 + 1)) + 6)))))) (by omega) (by omega) ?_
        have q1 := f_lesson_r hI (i25 : Int) (i12 : Int)
        have q2 := z_cntn_r (f_roster σ (i2 : Int) (i12 : Int)) i25
        refine k_iload dL_classes_25 4 rfl ?_
        refine k_aload_n dL_classes_27 0 rfl rfl (by decide) ?_
        refine k_less (k' := 1 + (3 + (4 * ((σ 1 2).toNat - (i25 + 1)) + (5 + (60 * ((σ 1 1).toNat - (i12 + 1)) + (1 + (300 * ((σ 1 0).toNat - (i2 + 1)) + 1))))))) (n' := 6 + (18 + (24 * ((σ 1 2).toNat - (i25 + 1)) + (30 + (360 * ((σ 1 1).toNat - (i12 + 1)) + (6 + (1800 * ((σ 1 0).toNat - (i2 + 1)) + 6))))))) (by omega) (by omega) ?_
        refine p_callV (k1 := 1) (n1 := 6) (k := 3 + (4 * ((σ 1 2).toNat - (i25 + 1)) + (5 + (60 * ((σ 1 1).toNat - (i12 + 1)) + (1 + (300 * ((σ 1 0).toNat - (i2 + 1)) + 1)))))) (n := 18 + (24 * ((σ 1 2).toNat - (i25 + 1)) + (30 + (360 * ((σ 1 1).toNat - (i12 + 1)) + (6 + (1800 * ((σ 1 0).toNat - (i2 + 1)) + 6)))))) (st := [.int (iI ((i25 : Int)))]) (as := []) dL_classes_28 oX7_pupilCount rfl w_p918 w_410 w_411 (by decide) rfl (Nat.le_of_ble_eq_true rfl) (by decide) (s_0 hsh) rfl (d_pupilCount hsh hJ) ?_
        refine k_icmp_ge (tgt := 82) dL_classes_31 rfl ⟨by omega, by omega⟩ ⟨by omega, by omega⟩ (fun h_12 => absurd h_12 (by omega)) (fun h_12 => ?_)
        refine k_aload_n dL_classes_34 0 rfl rfl (by decide) ?_
        refine k_iload dL_classes_35 4 rfl ?_
        refine k_iload_n dL_classes_37 2 rfl rfl ?_
        refine k_less (k' := 1 + (2 + (4 * ((σ 1 2).toNat - (i25 + 1)) + (5 + (60 * ((σ 1 1).toNat - (i12 + 1)) + (1 + (300 * ((σ 1 0).toNat - (i2 + 1)) + 1))))))) (n' := 6 + (12 + (24 * ((σ 1 2).toNat - (i25 + 1)) + (30 + (360 * ((σ 1 1).toNat - (i12 + 1)) + (6 + (1800 * ((σ 1 0).toNat - (i2 + 1)) + 6))))))) (by omega) (by omega) ?_
        refine p_callW (k1 := 1) (n1 := 6) (k := 2 + (4 * ((σ 1 2).toNat - (i25 + 1)) + (5 + (60 * ((σ 1 1).toNat - (i12 + 1)) + (1 + (300 * ((σ 1 0).toNat - (i2 + 1)) + 1)))))) (n := 12 + (24 * ((σ 1 2).toNat - (i25 + 1)) + (30 + (360 * ((σ 1 1).toNat - (i12 + 1)) + (6 + (1800 * ((σ 1 0).toNat - (i2 + 1)) + 6)))))) (st := []) (as := [.ref 0, .int (iI ((i25 : Int))), .int (iI ((i12 : Int)))]) dL_classes_38 oL_subjectIn rfl w_p840 w_1060 (by decide) rfl (Nat.le_of_ble_eq_true rfl) (v_subjectIn hsh hJ ⟨by omega, by omega⟩ ⟨by omega, by omega⟩) ?_
        refine k_iload_n dL_classes_41 1 rfl rfl ?_
        refine k_icmp_eq (tgt := 48) dL_classes_42 rfl ⟨by omega, by omega⟩ ⟨by omega, by omega⟩ (fun h_13 => ?_) (fun h_13 => ?_)
        · have hc := (p_cls hR hI (s := (i2 : Int)) (b := (i12 : Int)) ⟨by omega, by omega⟩ ⟨by omega, by omega⟩ (p := i25) (by omega)).2 (by omega)
          have q3 := f_taken_r hI (i25 : Int) (i2 : Int)
          have q4 := g_memb_r (f_roster σ (i2 : Int) (i12 : Int)) (z_cntn (f_roster σ (i2 : Int) (i12 : Int)) i25)
          have hbit := (p_cls hR hI (s := (i2 : Int)) (b := (i12 : Int)) ⟨by omega, by omega⟩ ⟨by omega, by omega⟩ (p := i25) (by omega)).1.mp (by omega)
          refine k_aload_n dL_classes_48 0 rfl rfl (by decide) ?_
          refine k_iload dL_classes_49 4 rfl ?_
          refine k_iload_n dL_classes_51 1 rfl rfl ?_
          refine k_less (k' := 1 + (1 + (4 * ((σ 1 2).toNat - (i25 + 1)) + (5 + (60 * ((σ 1 1).toNat - (i12 + 1)) + (1 + (300 * ((σ 1 0).toNat - (i2 + 1)) + 1))))))) (n' := 6 + (6 + (24 * ((σ 1 2).toNat - (i25 + 1)) + (30 + (360 * ((σ 1 1).toNat - (i12 + 1)) + (6 + (1800 * ((σ 1 0).toNat - (i2 + 1)) + 6))))))) (by omega) (by omega) ?_
          refine p_callW (k1 := 1) (n1 := 6) (k := 1 + (4 * ((σ 1 2).toNat - (i25 + 1)) + (5 + (60 * ((σ 1 1).toNat - (i12 + 1)) + (1 + (300 * ((σ 1 0).toNat - (i2 + 1)) + 1)))))) (n := 6 + (24 * ((σ 1 2).toNat - (i25 + 1)) + (30 + (360 * ((σ 1 1).toNat - (i12 + 1)) + (6 + (1800 * ((σ 1 0).toNat - (i2 + 1)) + 6)))))) (st := []) (as := [.ref 0, .int (iI ((i25 : Int))), .int (iI ((i2 : Int)))]) dL_classes_52 oL_blockOf rfl w_p856 w_1072 (by decide) rfl (Nat.le_of_ble_eq_true rfl) (v_blockOf hsh hJ ⟨by omega, by omega⟩ ⟨by omega, by omega⟩) ?_
          refine k_iload_n dL_classes_55 2 rfl rfl ?_
          refine k_icmp_ne (tgt := 71) dL_classes_56 rfl ⟨by omega, by omega⟩ ⟨by omega, by omega⟩ (fun h_14 => absurd h_14 (by omega)) (fun h_14 => ?_)
          refine k_aload_n dL_classes_59 0 rfl rfl (by decide) ?_
          refine k_iload_n dL_classes_60 1 rfl rfl ?_
          refine k_iload_n dL_classes_61 2 rfl rfl ?_
          refine k_iload_n dL_classes_62 3 rfl rfl ?_
          refine k_less (k' := 1 + (4 * ((σ 1 2).toNat - (i25 + 1)) + (5 + (60 * ((σ 1 1).toNat - (i12 + 1)) + (1 + (300 * ((σ 1 0).toNat - (i2 + 1)) + 1)))))) (n' := 6 + (24 * ((σ 1 2).toNat - (i25 + 1)) + (30 + (360 * ((σ 1 1).toNat - (i12 + 1)) + (6 + (1800 * ((σ 1 0).toNat - (i2 + 1)) + 6)))))) (by omega) (by omega) ?_
          refine p_callW (k1 := 1) (n1 := 6) (k := 4 * ((σ 1 2).toNat - (i25 + 1)) + (5 + (60 * ((σ 1 1).toNat - (i12 + 1)) + (1 + (300 * ((σ 1 0).toNat - (i2 + 1)) + 1))))) (n := 24 * ((σ 1 2).toNat - (i25 + 1)) + (30 + (360 * ((σ 1 1).toNat - (i12 + 1)) + (6 + (1800 * ((σ 1 0).toNat - (i2 + 1)) + 6))))) (st := []) (as := [.ref 0, .int (iI ((i2 : Int))), .int (iI ((i12 : Int))), .int (iI (z_cntn (f_roster σ (i2 : Int) (i12 : Int)) i25))]) dL_classes_63 oL_pupilInClass rfl w_p922 w_988 (by decide) rfl (Nat.le_of_ble_eq_true rfl) (v_pupilInClass hsh hJ ⟨by omega, by omega⟩ ⟨by omega, by omega⟩ hc.2.1) ?_
          refine k_iload dL_classes_66 4 rfl ?_
          refine k_icmp_eq (tgt := 73) dL_classes_68 rfl ⟨by omega, by omega⟩ ⟨by omega, by omega⟩ (fun h_15 => ?_) (fun h_15 => absurd h_15 (by omega))
          refine k_iinc (ls' := [(0, .ref 0), (1, .int (iI ((i2 : Int)))), (2, .int (iI ((i12 : Int)))), (3, .int (iI (z_cntn (f_roster σ (i2 : Int) (i12 : Int)) i25 + 1))), (4, .int (iI ((i25 : Int))))]) dL_classes_73 3 rfl (by decide) rfl rfl ?_
          refine k_iinc (ls' := [(0, .ref 0), (1, .int (iI ((i2 : Int)))), (2, .int (iI ((i12 : Int)))), (3, .int (iI (z_cntn (f_roster σ (i2 : Int) (i12 : Int)) i25 + 1))), (4, .int (iI ((i25 : Int) + 1)))]) dL_classes_76 4 rfl (by decide) rfl rfl ?_
          refine k_goto (tgt := 25) dL_classes_79 rfl ?_
          refine k_lrw (q := 3) (j := 3) (a' := z_cntn (f_roster σ (i2 : Int) (i12 : Int)) (i25 + 1)) (ls' := [(0, .ref 0), (1, .int (iI ((i2 : Int)))), (2, .int (iI ((i12 : Int)))), (3, .int (iI (z_cntn (f_roster σ (i2 : Int) (i12 : Int)) (i25 + 1)))), (4, .int (iI ((i25 : Int) + 1)))]) rfl (by rw [z_cntn_s, zb_t hbit]) rfl ?_
          refine k_lrw (q := 4) (j := 4) (a' := ((i25 + 1 : Nat) : Int)) (ls' := [(0, .ref 0), (1, .int (iI ((i2 : Int)))), (2, .int (iI ((i12 : Int)))), (3, .int (iI (z_cntn (f_roster σ (i2 : Int) (i12 : Int)) (i25 + 1)))), (4, .int (iI (((i25 + 1 : Nat) : Int))))]) rfl (by omega) rfl ?_
          refine k_less (k' := 4 * ((σ 1 2).toNat - (i25 + 1)) + (5 + (60 * ((σ 1 1).toNat - (i12 + 1)) + (1 + (300 * ((σ 1 0).toNat - (i2 + 1)) + 1))))) (n' := 24 * ((σ 1 2).toNat - (i25 + 1)) + (30 + (360 * ((σ 1 1).toNat - (i12 + 1)) + (6 + (1800 * ((σ 1 0).toNat - (i2 + 1)) + 6))))) (by omega) (by omega) ?_
          exact ih25
        · have hbit : ¬ z_bit (f_roster σ (i2 : Int) (i12 : Int)) (i25 : Int) = true := fun y => absurd ((p_cls hR hI (s := (i2 : Int)) (b := (i12 : Int)) ⟨by omega, by omega⟩ ⟨by omega, by omega⟩ (p := i25) (by omega)).1.mpr y) (by omega)
          refine k_goto (tgt := 76) dL_classes_45 rfl ?_
          refine k_iinc (ls' := [(0, .ref 0), (1, .int (iI ((i2 : Int)))), (2, .int (iI ((i12 : Int)))), (3, .int (iI (z_cntn (f_roster σ (i2 : Int) (i12 : Int)) i25))), (4, .int (iI ((i25 : Int) + 1)))]) dL_classes_76 4 rfl (by decide) rfl rfl ?_
          refine k_goto (tgt := 25) dL_classes_79 rfl ?_
          refine k_lrw (q := 3) (j := 3) (a' := z_cntn (f_roster σ (i2 : Int) (i12 : Int)) (i25 + 1)) (ls' := [(0, .ref 0), (1, .int (iI ((i2 : Int)))), (2, .int (iI ((i12 : Int)))), (3, .int (iI (z_cntn (f_roster σ (i2 : Int) (i12 : Int)) (i25 + 1)))), (4, .int (iI ((i25 : Int) + 1)))]) rfl (by rw [z_cntn_s, zb_f hbit]; omega) rfl ?_
          refine k_lrw (q := 4) (j := 4) (a' := ((i25 + 1 : Nat) : Int)) (ls' := [(0, .ref 0), (1, .int (iI ((i2 : Int)))), (2, .int (iI ((i12 : Int)))), (3, .int (iI (z_cntn (f_roster σ (i2 : Int) (i12 : Int)) (i25 + 1)))), (4, .int (iI (((i25 + 1 : Nat) : Int))))]) rfl (by omega) rfl ?_
          refine k_less (k' := 4 * ((σ 1 2).toNat - (i25 + 1)) + (5 + (60 * ((σ 1 1).toNat - (i12 + 1)) + (1 + (300 * ((σ 1 0).toNat - (i2 + 1)) + 1))))) (n' := 24 * ((σ 1 2).toNat - (i25 + 1)) + (30 + (360 * ((σ 1 1).toNat - (i12 + 1)) + (6 + (1800 * ((σ 1 0).toNat - (i2 + 1)) + 6))))) (by omega) (by omega) ?_
          exact ih25
set_option maxHeartbeats 8000000 in
theorem c_searches (hsh : k_Main sh) (hJ : p_J σ) : k_C E mL_searches 17 [.ref 0] sh σ 900 5400 (k_rj (some (.int (iI 1))) (fun sh' σ' => sh' = sh ∧ p_Q σ' σ)) := by
  refine k_C_of (ls0 := [(0, .ref 0)]) rfl pnL (fun v hv => k_cat1 rfl hv) (Nat.le_of_ble_eq_true rfl) rfl ?_
  have hI := hJ.1.1.1
  obtain ⟨r, hR⟩ := hJ.2.1
  obtain ⟨j0, j1, j2⟩ := p_J_rg hJ
  refine k_iconst (v := 0) dL_searches_0 rfl ?_
  refine k_istore_n (ls' := [(0, .ref 0), (1, .int (iI (0)))]) dL_searches_1 rfl (by decide) rfl rfl ?_
  refine k_less (k' := 60 * ((σ 1 2).toNat - 0) + 1) (n' := 360 * ((σ 1 2).toNat - 0) + 6) (by omega) (by omega) ?_
  refine k_down (P := fun i2 : Nat => ∀ τA, p_Q τA σ → k_V E mL_searches _ 2 [(0, .ref 0), (1, .int (iI ((i2 : Int))))] [] sh τA (60 * ((σ 1 2).toNat - i2) + 1) (360 * ((σ 1 2).toNat - i2) + 6) _) ((σ 1 2).toNat) ?_ ?_ σ (p_Q_rf hJ)
  · intro τA hQA
    refine k_less (k' := 1) (n' := 6) (by omega) (by omega) ?_
    have qv := (p_vbs (u_roomy σ (((σ 1 2).toNat) : Int) 11)).1
    refine k_iload_n dL_searches_2 1 rfl rfl ?_
    refine k_aload_n dL_searches_3 0 rfl rfl (by decide) ?_
    refine k_less (k' := 1 + (0)) (n' := 6 + (0)) (by omega) (by omega) ?_
    refine p_callV (k1 := 1) (n1 := 6) (k := 0) (n := 0) (st := [.int (iI ((((σ 1 2).toNat : Nat) : Int)))]) (as := []) dL_searches_4 oX7_pupilCount rfl w_p918 w_410 w_411 (by decide) rfl (Nat.le_of_ble_eq_true rfl) (by decide) (s_0 hsh) rfl (q_pupilCount hsh hQA) ?_
    refine k_icmp_ge (tgt := 143) dL_searches_7 rfl ⟨by omega, by omega⟩ ⟨by omega, by omega⟩ (fun h_1 => ?_) (fun h_1 => absurd h_1 (by omega))
    refine k_iconst (v := 1) dL_searches_143 rfl ?_
    exact k_ret_z dL_searches_144 rfl (k_nar_z (Or.inr rfl)) ⟨rfl, rfl, hQA⟩
  · intro i2 hi2 ih2
    intro τA hQA
    refine k_less (k' := 60 + (60 * ((σ 1 2).toNat - (i2 + 1)) + 1)) (n' := 360 + (360 * ((σ 1 2).toNat - (i2 + 1)) + 6)) (by omega) (by omega) ?_
    have qv := (p_vbs (u_roomy σ (i2 : Int) 11)).1
    refine k_iload_n dL_searches_2 1 rfl rfl ?_
    refine k_aload_n dL_searches_3 0 rfl rfl (by decide) ?_
    refine k_less (k' := 1 + (59 + (60 * ((σ 1 2).toNat - (i2 + 1)) + 1))) (n' := 6 + (354 + (360 * ((σ 1 2).toNat - (i2 + 1)) + 6))) (by omega) (by omega) ?_
    refine p_callV (k1 := 1) (n1 := 6) (k := 59 + (60 * ((σ 1 2).toNat - (i2 + 1)) + 1)) (n := 354 + (360 * ((σ 1 2).toNat - (i2 + 1)) + 6)) (st := [.int (iI ((i2 : Int)))]) (as := []) dL_searches_4 oX7_pupilCount rfl w_p918 w_410 w_411 (by decide) rfl (Nat.le_of_ble_eq_true rfl) (by decide) (s_0 hsh) rfl (q_pupilCount hsh hQA) ?_
    refine k_icmp_ge (tgt := 143) dL_searches_7 rfl ⟨by omega, by omega⟩ ⟨by omega, by omega⟩ (fun h_2 => absurd h_2 (by omega)) (fun h_2 => ?_)
    refine k_aload_n dL_searches_10 0 rfl rfl (by decide) ?_
    refine k_iload_n dL_searches_11 1 rfl rfl ?_
    obtain ⟨τ_3, hQ_4, hC_5⟩ := q_bestValue (E := E) hsh hQA (p := (i2 : Int)) ⟨by omega, by omega⟩
    refine k_less (k' := 1 + (58 + (60 * ((σ 1 2).toNat - (i2 + 1)) + 1))) (n' := 6 + (348 + (360 * ((σ 1 2).toNat - (i2 + 1)) + 6))) (by omega) (by omega) ?_
    refine p_callW (k1 := 1) (n1 := 6) (k := 58 + (60 * ((σ 1 2).toNat - (i2 + 1)) + 1)) (n := 348 + (360 * ((σ 1 2).toNat - (i2 + 1)) + 6)) (st := []) (as := [.ref 0, .int (iI ((i2 : Int)))]) dL_searches_12 oL_bestValue rfl w_p889 w_1104 (by decide) rfl (Nat.le_of_ble_eq_true rfl) (hC_5) ?_
    refine k_istore_n (ls' := [(0, .ref 0), (1, .int (iI ((i2 : Int)))), (2, .int (iI (f_vbs (u_roomy σ (i2 : Int) 11))))]) dL_searches_15 rfl (by decide) rfl rfl ?_
    refine k_iload_n dL_searches_16 2 rfl rfl ?_
    refine k_if_lt (tgt := 62) dL_searches_17 rfl ⟨by omega, by omega⟩ (fun h_6 => absurd h_6 (by omega)) (fun h_6 => ?_)
    refine k_iload_n dL_searches_20 2 rfl rfl ?_
    refine k_bipush (v := 7) dL_searches_21 (by decide) ?_
    refine k_icmp_gt (tgt := 62) dL_searches_23 rfl ⟨by omega, by omega⟩ ⟨by decide, by decide⟩ (fun h_7 => absurd h_7 (by omega)) (fun h_7 => ?_)
    refine k_iload_n dL_searches_26 2 rfl rfl ?_
    refine k_aload_n dL_searches_27 0 rfl rfl (by decide) ?_
    refine k_iload_n dL_searches_28 1 rfl rfl ?_
    obtain ⟨τ_8, hQ_9, hC_10⟩ := q_bestValueBySets (E := E) hsh hQ_4 (p := (i2 : Int)) ⟨by omega, by omega⟩
    refine k_less (k' := 1 + (57 + (60 * ((σ 1 2).toNat - (i2 + 1)) + 1))) (n' := 6 + (342 + (360 * ((σ 1 2).toNat - (i2 + 1)) + 6))) (by omega) (by omega) ?_
    refine p_callW (k1 := 1) (n1 := 6) (k := 57 + (60 * ((σ 1 2).toNat - (i2 + 1)) + 1)) (n := 342 + (360 * ((σ 1 2).toNat - (i2 + 1)) + 6)) (st := [.int (iI (f_vbs (u_roomy σ (i2 : Int) 11)))]) (as := [.ref 0, .int (iI ((i2 : Int)))]) dL_searches_29 oL_bestValueBySets rfl w_p979 w_1115 (by decide) rfl (Nat.le_of_ble_eq_true rfl) (hC_10) ?_
    refine k_icmp_ne (tgt := 62) dL_searches_32 rfl ⟨by omega, by omega⟩ ⟨by omega, by omega⟩ (fun h_11 => absurd h_11 (by omega)) (fun h_11 => ?_)
    refine k_aload_n dL_searches_35 0 rfl rfl (by decide) ?_
    refine k_iload_n dL_searches_36 1 rfl rfl ?_
    obtain ⟨τ_12, hQ_13, hC_14⟩ := q_canServe (E := E) hsh hJ hQ_9 (p := (i2 : Int)) ⟨by omega, by omega⟩
    refine k_less (k' := 1 + (56 + (60 * ((σ 1 2).toNat - (i2 + 1)) + 1))) (n' := 6 + (336 + (360 * ((σ 1 2).toNat - (i2 + 1)) + 6))) (by omega) (by omega) ?_
    refine p_callW (k1 := 1) (n1 := 6) (k := 56 + (60 * ((σ 1 2).toNat - (i2 + 1)) + 1)) (n := 336 + (360 * ((σ 1 2).toNat - (i2 + 1)) + 6)) (st := []) (as := [.ref 0, .int (iI ((i2 : Int)))]) dL_searches_37 oL_canServe rfl w_p997 w_1133 (by decide) rfl (Nat.le_of_ble_eq_true rfl) (hC_14) ?_
    refine k_aload_n dL_searches_40 0 rfl rfl (by decide) ?_
    refine k_iload_n dL_searches_41 1 rfl rfl ?_
    obtain ⟨τ_15, hQ_16, hC_17⟩ := q_canServeByCounting (E := E) hsh hJ hQ_13 (p := (i2 : Int)) ⟨by omega, by omega⟩
    refine k_less (k' := 1 + (55 + (60 * ((σ 1 2).toNat - (i2 + 1)) + 1))) (n' := 6 + (330 + (360 * ((σ 1 2).toNat - (i2 + 1)) + 6))) (by omega) (by omega) ?_
    refine p_callW (k1 := 1) (n1 := 6) (k := 55 + (60 * ((σ 1 2).toNat - (i2 + 1)) + 1)) (n := 330 + (360 * ((σ 1 2).toNat - (i2 + 1)) + 6)) (st := [.int (iI (zb (g_srv (u_open σ (i2 : Int) 3 11) (σ 5 ((i2 : Int)).toNat) 3 0 = true)))]) (as := [.ref 0, .int (iI ((i2 : Int)))]) dL_searches_42 oL_canServeByCounting rfl w_p1016 w_1152 (by decide) rfl (Nat.le_of_ble_eq_true rfl) (hC_17) ?_
    refine k_icmp_ne (tgt := 62) dL_searches_45 rfl (zb_kr _) (zb_kr _) (fun h_18 => absurd h_18 (by omega)) (fun h_18 => ?_)
    refine k_aload_n dL_searches_48 0 rfl rfl (by decide) ?_
    refine k_iload_n dL_searches_49 1 rfl rfl ?_
    obtain ⟨τ_19, hQ_20, hC_21⟩ := q_canServe (E := E) hsh hJ hQ_16 (p := (i2 : Int)) ⟨by omega, by omega⟩
    refine k_less (k' := 1 + (54 + (60 * ((σ 1 2).toNat - (i2 + 1)) + 1))) (n' := 6 + (324 + (360 * ((σ 1 2).toNat - (i2 + 1)) + 6))) (by omega) (by omega) ?_
    refine p_callW (k1 := 1) (n1 := 6) (k := 54 + (60 * ((σ 1 2).toNat - (i2 + 1)) + 1)) (n := 324 + (360 * ((σ 1 2).toNat - (i2 + 1)) + 6)) (st := []) (as := [.ref 0, .int (iI ((i2 : Int)))]) dL_searches_50 oL_canServe rfl w_p997 w_1133 (by decide) rfl (Nat.le_of_ble_eq_true rfl) (hC_21) ?_
    refine k_if_ne (tgt := 64) dL_searches_53 rfl (zb_kr _) (fun h_22 => ?_) (fun h_22 => ?_)
    · have h_22 := zb_n0.mp h_22
      refine k_iconst (v := 0) dL_searches_64 rfl ?_
      refine k_istore_n (ls' := [(0, .ref 0), (1, .int (iI ((i2 : Int)))), (2, .int (iI (f_vbs (u_roomy σ (i2 : Int) 11)))), (3, .int (iI (0)))]) dL_searches_65 rfl (by decide) rfl rfl ?_
      refine k_less (k' := 4 * ((σ 1 0).toNat - 0) + (1 + (60 * ((σ 1 2).toNat - (i2 + 1)) + 1))) (n' := 24 * ((σ 1 0).toNat - 0) + (6 + (360 * ((σ 1 2).toNat - (i2 + 1)) + 6))) (by omega) (by omega) ?_
      refine k_down (P := fun i66 : Nat => ∀ τB, p_Q τB σ → k_V E mL_searches _ 66 [(0, .ref 0), (1, .int (iI ((i2 : Int)))), (2, .int (iI (f_vbs (u_roomy σ (i2 : Int) 11)))), (3, .int (iI ((i66 : Int))))] [] sh τB (4 * ((σ 1 0).toNat - i66) + (1 + (60 * ((σ 1 2).toNat - (i2 + 1)) + 1))) (24 * ((σ 1 0).toNat - i66) + (6 + (360 * ((σ 1 2).toNat - (i2 + 1)) + 6))) _) ((σ 1 0).toNat) ?_ ?_ τ_19 hQ_20
      · intro τB hQB
        refine k_less (k' := 1 + (60 * ((σ 1 2).toNat - (i2 + 1)) + 1)) (n' := 6 + (360 * ((σ 1 2).toNat - (i2 + 1)) + 6)) (by omega) (by omega) ?_
        have qm := p_mv_r hJ (i2 : Int) (((σ 1 0).toNat) : Int)
        have qt := f_taken_r hI (i2 : Int) (((σ 1 0).toNat) : Int)
        refine k_iload_n dL_searches_66 3 rfl rfl ?_
        refine k_aload_n dL_searches_67 0 rfl rfl (by decide) ?_
        refine k_less (k' := 1 + (60 * ((σ 1 2).toNat - (i2 + 1)) + 1)) (n' := 6 + (360 * ((σ 1 2).toNat - (i2 + 1)) + 6)) (by omega) (by omega) ?_
        refine p_callV (k1 := 1) (n1 := 6) (k := 60 * ((σ 1 2).toNat - (i2 + 1)) + 1) (n := 360 * ((σ 1 2).toNat - (i2 + 1)) + 6) (st := [.int (iI ((((σ 1 0).toNat : Nat) : Int)))]) (as := []) dL_searches_68 oX7_subjectCount rfl w_p910 w_402 w_403 (by decide) rfl (Nat.le_of_ble_eq_true rfl) (by decide) (s_0 hsh) rfl (q_subjectCount hsh hQB) ?_
        refine k_icmp_ge (tgt := 137) dL_searches_71 rfl ⟨by omega, by omega⟩ ⟨by omega, by omega⟩ (fun h_23 => ?_) (fun h_23 => absurd h_23 (by omega))
        refine k_iinc (ls' := [(0, .ref 0), (1, .int (iI ((i2 : Int) + 1))), (2, .int (iI (f_vbs (u_roomy σ (i2 : Int) 11)))), (3, .int (iI ((((σ 1 0).toNat : Nat) : Int))))]) dL_searches_137 1 rfl (by decide) rfl rfl ?_
        refine k_goto (tgt := 2) dL_searches_140 rfl ?_
        refine k_dropr (ls' := [(0, .ref 0), (1, .int (iI ((i2 : Int) + 1)))]) (ex := [(2, .int (iI (f_vbs (u_roomy σ (i2 : Int) 11)))), (3, .int (iI ((((σ 1 0).toNat : Nat) : Int))))]) rfl ?_
        refine k_lrw (q := 1) (j := 1) (a' := ((i2 + 1 : Nat) : Int)) (ls' := [(0, .ref 0), (1, .int (iI (((i2 + 1 : Nat) : Int))))]) rfl (by omega) rfl ?_
        refine k_less (k' := 60 * ((σ 1 2).toNat - (i2 + 1)) + 1) (n' := 360 * ((σ 1 2).toNat - (i2 + 1)) + 6) (by omega) (by omega) ?_
        exact ih2 τB hQB
      · intro i66 hi66 ih66
        intro τB hQB
        refine k_less (k' := 4 + (4 * ((σ 1 0).toNat - (i66 + 1)) + (1 + (60 * ((σ 1 2).toNat - (i2 + 1)) + 1)))) (n' := 24 + (24 * ((σ 1 0).toNat - (i66 + 1)) + (6 + (360 * ((σ 1 2).toNat - (i2 + 1)) + 6)))) (by omega) (by omega) ?_
        have qm := p_mv_r hJ (i2 : Int) (i66 : Int)
        have qt := f_taken_r hI (i2 : Int) (i66 : Int)
        refine k_iload_n dL_searches_66 3 rfl rfl ?_
        refine k_aload_n dL_searches_67 0 rfl rfl (by decide) ?_
        refine k_less (k' := 1 + (3 + (4 * ((σ 1 0).toNat - (i66 + 1)) + (1 + (60 * ((σ 1 2).toNat - (i2 + 1)) + 1))))) (n' := 6 + (18 + (24 * ((σ 1 0).toNat - (i66 + 1)) + (6 + (360 * ((σ 1 2).toNat - (i2 + 1)) + 6))))) (by omega) (by omega) ?_
        refine p_callV (k1 := 1) (n1 := 6) (k := 3 + (4 * ((σ 1 0).toNat - (i66 + 1)) + (1 + (60 * ((σ 1 2).toNat - (i2 + 1)) + 1)))) (n := 18 + (24 * ((σ 1 0).toNat - (i66 + 1)) + (6 + (360 * ((σ 1 2).toNat - (i2 + 1)) + 6)))) (st := [.int (iI ((i66 : Int)))]) (as := []) dL_searches_68 oX7_subjectCount rfl w_p910 w_402 w_403 (by decide) rfl (Nat.le_of_ble_eq_true rfl) (by decide) (s_0 hsh) rfl (q_subjectCount hsh hQB) ?_
        refine k_icmp_ge (tgt := 137) dL_searches_71 rfl ⟨by omega, by omega⟩ ⟨by omega, by omega⟩ (fun h_24 => absurd h_24 (by omega)) (fun h_24 => ?_)
        refine k_aload_n dL_searches_74 0 rfl rfl (by decide) ?_
        refine k_iload_n dL_searches_75 1 rfl rfl ?_
        refine k_iload_n dL_searches_76 3 rfl rfl ?_
        obtain ⟨τ_25, hQ_26, hC_27⟩ := q_movesFor (E := E) hsh hQB (p := (i2 : Int)) ⟨by omega, by omega⟩ (s := (i66 : Int)) ⟨by omega, by omega⟩
        refine k_less (k' := 1 + (2 + (4 * ((σ 1 0).toNat - (i66 + 1)) + (1 + (60 * ((σ 1 2).toNat - (i2 + 1)) + 1))))) (n' := 6 + (12 + (24 * ((σ 1 0).toNat - (i66 + 1)) + (6 + (360 * ((σ 1 2).toNat - (i2 + 1)) + 6))))) (by omega) (by omega) ?_
        refine p_callW (k1 := 1) (n1 := 6) (k := 2 + (4 * ((σ 1 0).toNat - (i66 + 1)) + (1 + (60 * ((σ 1 2).toNat - (i2 + 1)) + 1)))) (n := 12 + (24 * ((σ 1 0).toNat - (i66 + 1)) + (6 + (360 * ((σ 1 2).toNat - (i2 + 1)) + 6)))) (st := []) (as := [.ref 0, .int (iI ((i2 : Int))), .int (iI ((i66 : Int)))]) dL_searches_77 oL_movesFor rfl w_p1031 w_1194 (by decide) rfl (Nat.le_of_ble_eq_true rfl) (hC_27) ?_
        refine k_istore (ls' := [(0, .ref 0), (1, .int (iI ((i2 : Int)))), (2, .int (iI (f_vbs (u_roomy σ (i2 : Int) 11)))), (3, .int (iI ((i66 : Int)))), (4, .int (iI (p_mv σ (i2 : Int) (i66 : Int))))]) dL_searches_80 (by decide) rfl rfl ?_
        refine k_iload dL_searches_82 4 rfl ?_
        refine k_aload_n dL_searches_84 0 rfl rfl (by decide) ?_
        refine k_iload_n dL_searches_85 1 rfl rfl ?_
        refine k_iload_n dL_searches_86 3 rfl rfl ?_
        refine k_less (k' := 1 + (1 + (4 * ((σ 1 0).toNat - (i66 + 1)) + (1 + (60 * ((σ 1 2).toNat - (i2 + 1)) + 1))))) (n' := 6 + (6 + (24 * ((σ 1 0).toNat - (i66 + 1)) + (6 + (360 * ((σ 1 2).toNat - (i2 + 1)) + 6))))) (by omega) (by omega) ?_
        refine p_callW (k1 := 1) (n1 := 6) (k := 1 + (4 * ((σ 1 0).toNat - (i66 + 1)) + (1 + (60 * ((σ 1 2).toNat - (i2 + 1)) + 1)))) (n := 6 + (24 * ((σ 1 0).toNat - (i66 + 1)) + (6 + (360 * ((σ 1 2).toNat - (i2 + 1)) + 6)))) (st := [.int (iI (p_mv σ (i2 : Int) (i66 : Int)))]) (as := [.ref 0, .int (iI ((i2 : Int))), .int (iI ((i66 : Int)))]) dL_searches_87 oL_movesByTrial rfl w_p1041 w_1204 (by decide) rfl (Nat.le_of_ble_eq_true rfl) (q_movesByTrial hsh hQ_26 (p := (i2 : Int)) ⟨by omega, by omega⟩ (s := (i66 : Int)) ⟨by omega, by omega⟩) ?_
        refine k_icmp_ne (tgt := 129) dL_searches_90 rfl ⟨by omega, by omega⟩ ⟨by omega, by omega⟩ (fun h_28 => absurd h_28 (by omega)) (fun h_28 => ?_)
        refine k_iload dL_searches_93 4 rfl ?_
        refine k_iconst (v := 3) dL_searches_95 rfl ?_
        refine k_icmp_gt (tgt := 129) dL_searches_96 rfl ⟨by omega, by omega⟩ ⟨by decide, by decide⟩ (fun h_29 => absurd h_29 (by omega)) (fun h_29 => ?_)
        refine k_iload dL_searches_99 4 rfl ?_
        refine k_sipush (v := (-1002)) dL_searches_101 (by decide) ?_
        refine k_icmp_ne (tgt := 111) dL_searches_104 rfl ⟨by omega, by omega⟩ ⟨by decide, by decide⟩ (fun h_30 => ?_) (fun h_30 => ?_)
        · refine k_iconst (v := 0) dL_searches_111 rfl ?_
          refine k_aload_n dL_searches_112 0 rfl rfl (by decide) ?_
          refine k_iload_n dL_searches_113 1 rfl rfl ?_
          refine k_iload_n dL_searches_114 3 rfl rfl ?_
          refine k_less (k' := 1 + (4 * ((σ 1 0).toNat - (i66 + 1)) + (1 + (60 * ((σ 1 2).toNat - (i2 + 1)) + 1)))) (n' := 6 + (24 * ((σ 1 0).toNat - (i66 + 1)) + (6 + (360 * ((σ 1 2).toNat - (i2 + 1)) + 6)))) (by omega) (by omega) ?_
          refine p_callW (k1 := 1) (n1 := 6) (k := 4 * ((σ 1 0).toNat - (i66 + 1)) + (1 + (60 * ((σ 1 2).toNat - (i2 + 1)) + 1))) (n := 24 * ((σ 1 0).toNat - (i66 + 1)) + (6 + (360 * ((σ 1 2).toNat - (i2 + 1)) + 6))) (st := [.int (iI (0))]) (as := [.ref 0, .int (iI ((i2 : Int))), .int (iI ((i66 : Int)))]) dL_searches_115 oL_blockOf rfl w_p856 w_1072 (by decide) rfl (Nat.le_of_ble_eq_true rfl) (q_blockOf hsh hQ_26 (p := (i2 : Int)) ⟨by omega, by omega⟩ (s := (i66 : Int)) ⟨by omega, by omega⟩) ?_
          refine k_if_lt (tgt := 125) dL_searches_118 rfl ⟨by omega, by omega⟩ (fun h_31 => ?_) (fun h_31 => absurd h_31 (by omega))
          refine k_iconst (v := 0) dL_searches_125 rfl ?_
          refine k_icmp_eq (tgt := 131) dL_searches_126 rfl ⟨by decide, by decide⟩ ⟨by decide, by decide⟩ (fun h_32 => ?_) (fun h_32 => absurd h_32 (by decide))
          refine k_iinc (ls' := [(0, .ref 0), (1, .int (iI ((i2 : Int)))), (2, .int (iI (f_vbs (u_roomy σ (i2 : Int) 11)))), (3, .int (iI ((i66 : Int) + 1))), (4, .int (iI (p_mv σ (i2 : Int) (i66 : Int))))]) dL_searches_131 3 rfl (by decide) rfl rfl ?_
          refine k_goto (tgt := 66) dL_searches_134 rfl ?_
          refine k_dropr (ls' := [(0, .ref 0), (1, .int (iI ((i2 : Int)))), (2, .int (iI (f_vbs (u_roomy σ (i2 : Int) 11)))), (3, .int (iI ((i66 : Int) + 1)))]) (ex := [(4, .int (iI (p_mv σ (i2 : Int) (i66 : Int))))]) rfl ?_
          refine k_lrw (q := 3) (j := 3) (a' := ((i66 + 1 : Nat) : Int)) (ls' := [(0, .ref 0), (1, .int (iI ((i2 : Int)))), (2, .int (iI (f_vbs (u_roomy σ (i2 : Int) 11)))), (3, .int (iI (((i66 + 1 : Nat) : Int))))]) rfl (by omega) rfl ?_
          refine k_less (k' := 4 * ((σ 1 0).toNat - (i66 + 1)) + (1 + (60 * ((σ 1 2).toNat - (i2 + 1)) + 1))) (n' := 24 * ((σ 1 0).toNat - (i66 + 1)) + (6 + (360 * ((σ 1 2).toNat - (i2 + 1)) + 6))) (by omega) (by omega) ?_
          exact ih66 τ_25 hQ_26
        · refine k_iconst (v := 1) dL_searches_107 rfl ?_
          refine k_goto (tgt := 112) dL_searches_108 rfl ?_
          refine k_aload_n dL_searches_112 0 rfl rfl (by decide) ?_
          refine k_iload_n dL_searches_113 1 rfl rfl ?_
          refine k_iload_n dL_searches_114 3 rfl rfl ?_
          refine k_less (k' := 1 + (4 * ((σ 1 0).toNat - (i66 + 1)) + (1 + (60 * ((σ 1 2).toNat - (i2 + 1)) + 1)))) (n' := 6 + (24 * ((σ 1 0).toNat - (i66 + 1)) + (6 + (360 * ((σ 1 2).toNat - (i2 + 1)) + 6)))) (by omega) (by omega) ?_
          refine p_callW (k1 := 1) (n1 := 6) (k := 4 * ((σ 1 0).toNat - (i66 + 1)) + (1 + (60 * ((σ 1 2).toNat - (i2 + 1)) + 1))) (n := 24 * ((σ 1 0).toNat - (i66 + 1)) + (6 + (360 * ((σ 1 2).toNat - (i2 + 1)) + 6))) (st := [.int (iI (1))]) (as := [.ref 0, .int (iI ((i2 : Int))), .int (iI ((i66 : Int)))]) dL_searches_115 oL_blockOf rfl w_p856 w_1072 (by decide) rfl (Nat.le_of_ble_eq_true rfl) (q_blockOf hsh hQ_26 (p := (i2 : Int)) ⟨by omega, by omega⟩ (s := (i66 : Int)) ⟨by omega, by omega⟩) ?_
          refine k_if_lt (tgt := 125) dL_searches_118 rfl ⟨by omega, by omega⟩ (fun h_33 => absurd h_33 (by omega)) (fun h_33 => ?_)
          refine k_iconst (v := 1) dL_searches_121 rfl ?_
          refine k_goto (tgt := 126) dL_searches_122 rfl ?_
          refine k_icmp_eq (tgt := 131) dL_searches_126 rfl ⟨by decide, by decide⟩ ⟨by decide, by decide⟩ (fun h_34 => ?_) (fun h_34 => absurd h_34 (by decide))
          refine k_iinc (ls' := [(0, .ref 0), (1, .int (iI ((i2 : Int)))), (2, .int (iI (f_vbs (u_roomy σ (i2 : Int) 11)))), (3, .int (iI ((i66 : Int) + 1))), (4, .int (iI (p_mv σ (i2 : Int) (i66 : Int))))]) dL_searches_131 3 rfl (by decide) rfl rfl ?_
          refine k_goto (tgt := 66) dL_searches_134 rfl ?_
          refine k_dropr (ls' := [(0, .ref 0), (1, .int (iI ((i2 : Int)))), (2, .int (iI (f_vbs (u_roomy σ (i2 : Int) 11)))), (3, .int (iI ((i66 : Int) + 1)))]) (ex := [(4, .int (iI (p_mv σ (i2 : Int) (i66 : Int))))]) rfl ?_
          refine k_lrw (q := 3) (j := 3) (a' := ((i66 + 1 : Nat) : Int)) (ls' := [(0, .ref 0), (1, .int (iI ((i2 : Int)))), (2, .int (iI (f_vbs (u_roomy σ (i2 : Int) 11)))), (3, .int (iI (((i66 + 1 : Nat) : Int))))]) rfl (by omega) rfl ?_
          refine k_less (k' := 4 * ((σ 1 0).toNat - (i66 + 1)) + (1 + (60 * ((σ 1 2).toNat - (i2 + 1)) + 1))) (n' := 24 * ((σ 1 0).toNat - (i66 + 1)) + (6 + (360 * ((σ 1 2).toNat - (i2 + 1)) + 6))) (by omega) (by omega) ?_
          exact ih66 τ_25 hQ_26
    · have h_22 := zb_0.mp h_22
      refine k_iload_n dL_searches_56 2 rfl rfl ?_
      refine k_bipush (v := 7) dL_searches_57 (by decide) ?_
      refine k_icmp_ne (tgt := 64) dL_searches_59 rfl ⟨by omega, by omega⟩ ⟨by decide, by decide⟩ (fun h_35 => ?_) (fun h_35 => absurd h_35 (fun y => h_22 (p_seven hR hI hJ.1.1.2.1 ⟨by omega, by omega⟩ y)))
      refine k_iconst (v := 0) dL_searches_64 rfl ?_
      refine k_istore_n (ls' := [(0, .ref 0), (1, .int (iI ((i2 : Int)))), (2, .int (iI (f_vbs (u_roomy σ (i2 : Int) 11)))), (3, .int (iI (0)))]) dL_searches_65 rfl (by decide) rfl rfl ?_
      refine k_less (k' := 4 * ((σ 1 0).toNat - 0) + (1 + (60 * ((σ 1 2).toNat - (i2 + 1)) + 1))) (n' := 24 * ((σ 1 0).toNat - 0) + (6 + (360 * ((σ 1 2).toNat - (i2 + 1)) + 6))) (by omega) (by omega) ?_
      refine k_down (P := fun i66 : Nat => ∀ τB, p_Q τB σ → k_V E mL_searches _ 66 [(0, .ref 0), (1, .int (iI ((i2 : Int)))), (2, .int (iI (f_vbs (u_roomy σ (i2 : Int) 11)))), (3, .int (iI ((i66 : Int))))] [] sh τB (4 * ((σ 1 0).toNat - i66) + (1 + (60 * ((σ 1 2).toNat - (i2 + 1)) + 1))) (24 * ((σ 1 0).toNat - i66) + (6 + (360 * ((σ 1 2).toNat - (i2 + 1)) + 6))) _) ((σ 1 0).toNat) ?_ ?_ τ_19 hQ_20
      · intro τB hQB
        refine k_less (k' := 1 + (60 * ((σ 1 2).toNat - (i2 + 1)) + 1)) (n' := 6 + (360 * ((σ 1 2).toNat - (i2 + 1)) + 6)) (by omega) (by omega) ?_
        have qm := p_mv_r hJ (i2 : Int) (((σ 1 0).toNat) : Int)
        have qt := f_taken_r hI (i2 : Int) (((σ 1 0).toNat) : Int)
        refine k_iload_n dL_searches_66 3 rfl rfl ?_
        refine k_aload_n dL_searches_67 0 rfl rfl (by decide) ?_
        refine k_less (k' := 1 + (60 * ((σ 1 2).toNat - (i2 + 1)) + 1)) (n' := 6 + (360 * ((σ 1 2).toNat - (i2 + 1)) + 6)) (by omega) (by omega) ?_
        refine p_callV (k1 := 1) (n1 := 6) (k := 60 * ((σ 1 2).toNat - (i2 + 1)) + 1) (n := 360 * ((σ 1 2).toNat - (i2 + 1)) + 6) (st := [.int (iI ((((σ 1 0).toNat : Nat) : Int)))]) (as := []) dL_searches_68 oX7_subjectCount rfl w_p910 w_402 w_403 (by decide) rfl (Nat.le_of_ble_eq_true rfl) (by decide) (s_0 hsh) rfl (q_subjectCount hsh hQB) ?_
        refine k_icmp_ge (tgt := 137) dL_searches_71 rfl ⟨by omega, by omega⟩ ⟨by omega, by omega⟩ (fun h_36 => ?_) (fun h_36 => absurd h_36 (by omega))
        refine k_iinc (ls' := [(0, .ref 0), (1, .int (iI ((i2 : Int) + 1))), (2, .int (iI (f_vbs (u_roomy σ (i2 : Int) 11)))), (3, .int (iI ((((σ 1 0).toNat : Nat) : Int))))]) dL_searches_137 1 rfl (by decide) rfl rfl ?_
        refine k_goto (tgt := 2) dL_searches_140 rfl ?_
        refine k_dropr (ls' := [(0, .ref 0), (1, .int (iI ((i2 : Int) + 1)))]) (ex := [(2, .int (iI (f_vbs (u_roomy σ (i2 : Int) 11)))), (3, .int (iI ((((σ 1 0).toNat : Nat) : Int))))]) rfl ?_
        refine k_lrw (q := 1) (j := 1) (a' := ((i2 + 1 : Nat) : Int)) (ls' := [(0, .ref 0), (1, .int (iI (((i2 + 1 : Nat) : Int))))]) rfl (by omega) rfl ?_
        refine k_less (k' := 60 * ((σ 1 2).toNat - (i2 + 1)) + 1) (n' := 360 * ((σ 1 2).toNat - (i2 + 1)) + 6) (by omega) (by omega) ?_
        exact ih2 τB hQB
      · intro i66 hi66 ih66
        intro τB hQB
        refine k_less (k' := 4 + (4 * ((σ 1 0).toNat - (i66 + 1)) + (1 + (60 * ((σ 1 2).toNat - (i2 + 1)) + 1)))) (n' := 24 + (24 * ((σ 1 0).toNat - (i66 + 1)) + (6 + (360 * ((σ 1 2).toNat - (i2 + 1)) + 6)))) (by omega) (by omega) ?_
        have qm := p_mv_r hJ (i2 : Int) (i66 : Int)
        have qt := f_taken_r hI (i2 : Int) (i66 : Int)
        refine k_iload_n dL_searches_66 3 rfl rfl ?_
        refine k_aload_n dL_searches_67 0 rfl rfl (by decide) ?_
        refine k_less (k' := 1 + (3 + (4 * ((σ 1 0).toNat - (i66 + 1)) + (1 + (60 * ((σ 1 2).toNat - (i2 + 1)) + 1))))) (n' := 6 + (18 + (24 * ((σ 1 0).toNat - (i66 + 1)) + (6 + (360 * ((σ 1 2).toNat - (i2 + 1)) + 6))))) (by omega) (by omega) ?_
        refine p_callV (k1 := 1) (n1 := 6) (k := 3 + (4 * ((σ 1 0).toNat - (i66 + 1)) + (1 + (60 * ((σ 1 2).toNat - (i2 + 1)) + 1)))) (n := 18 + (24 * ((σ 1 0).toNat - (i66 + 1)) + (6 + (360 * ((σ 1 2).toNat - (i2 + 1)) + 6)))) (st := [.int (iI ((i66 : Int)))]) (as := []) dL_searches_68 oX7_subjectCount rfl w_p910 w_402 w_403 (by decide) rfl (Nat.le_of_ble_eq_true rfl) (by decide) (s_0 hsh) rfl (q_subjectCount hsh hQB) ?_
        refine k_icmp_ge (tgt := 137) dL_searches_71 rfl ⟨by omega, by omega⟩ ⟨by omega, by omega⟩ (fun h_37 => absurd h_37 (by omega)) (fun h_37 => ?_)
        refine k_aload_n dL_searches_74 0 rfl rfl (by decide) ?_
        refine k_iload_n dL_searches_75 1 rfl rfl ?_
        refine k_iload_n dL_searches_76 3 rfl rfl ?_
        obtain ⟨τ_38, hQ_39, hC_40⟩ := q_movesFor (E := E) hsh hQB (p := (i2 : Int)) ⟨by omega, by omega⟩ (s := (i66 : Int)) ⟨by omega, by omega⟩
        refine k_less (k' := 1 + (2 + (4 * ((σ 1 0).toNat - (i66 + 1)) + (1 + (60 * ((σ 1 2).toNat - (i2 + 1)) + 1))))) (n' := 6 + (12 + (24 * ((σ 1 0).toNat - (i66 + 1)) + (6 + (360 * ((σ 1 2).toNat - (i2 + 1)) + 6))))) (by omega) (by omega) ?_
        refine p_callW (k1 := 1) (n1 := 6) (k := 2 + (4 * ((σ 1 0).toNat - (i66 + 1)) + (1 + (60 * ((σ 1 2).toNat - (i2 + 1)) + 1)))) (n := 12 + (24 * ((σ 1 0).toNat - (i66 + 1)) + (6 + (360 * ((σ 1 2).toNat - (i2 + 1)) + 6)))) (st := []) (as := [.ref 0, .int (iI ((i2 : Int))), .int (iI ((i66 : Int)))]) dL_searches_77 oL_movesFor rfl w_p1031 w_1194 (by decide) rfl (Nat.le_of_ble_eq_true rfl) (hC_40) ?_
        refine k_istore (ls' := [(0, .ref 0), (1, .int (iI ((i2 : Int)))), (2, .int (iI (f_vbs (u_roomy σ (i2 : Int) 11)))), (3, .int (iI ((i66 : Int)))), (4, .int (iI (p_mv σ (i2 : Int) (i66 : Int))))]) dL_searches_80 (by decide) rfl rfl ?_
        refine k_iload dL_searches_82 4 rfl ?_
        refine k_aload_n dL_searches_84 0 rfl rfl (by decide) ?_
        refine k_iload_n dL_searches_85 1 rfl rfl ?_
        refine k_iload_n dL_searches_86 3 rfl rfl ?_
        refine k_less (k' := 1 + (1 + (4 * ((σ 1 0).toNat - (i66 + 1)) + (1 + (60 * ((σ 1 2).toNat - (i2 + 1)) + 1))))) (n' := 6 + (6 + (24 * ((σ 1 0).toNat - (i66 + 1)) + (6 + (360 * ((σ 1 2).toNat - (i2 + 1)) + 6))))) (by omega) (by omega) ?_
        refine p_callW (k1 := 1) (n1 := 6) (k := 1 + (4 * ((σ 1 0).toNat - (i66 + 1)) + (1 + (60 * ((σ 1 2).toNat - (i2 + 1)) + 1)))) (n := 6 + (24 * ((σ 1 0).toNat - (i66 + 1)) + (6 + (360 * ((σ 1 2).toNat - (i2 + 1)) + 6)))) (st := [.int (iI (p_mv σ (i2 : Int) (i66 : Int)))]) (as := [.ref 0, .int (iI ((i2 : Int))), .int (iI ((i66 : Int)))]) dL_searches_87 oL_movesByTrial rfl w_p1041 w_1204 (by decide) rfl (Nat.le_of_ble_eq_true rfl) (q_movesByTrial hsh hQ_39 (p := (i2 : Int)) ⟨by omega, by omega⟩ (s := (i66 : Int)) ⟨by omega, by omega⟩) ?_
        refine k_icmp_ne (tgt := 129) dL_searches_90 rfl ⟨by omega, by omega⟩ ⟨by omega, by omega⟩ (fun h_41 => absurd h_41 (by omega)) (fun h_41 => ?_)
        refine k_iload dL_searches_93 4 rfl ?_
        refine k_iconst (v := 3) dL_searches_95 rfl ?_
        refine k_icmp_gt (tgt := 129) dL_searches_96 rfl ⟨by omega, by omega⟩ ⟨by decide, by decide⟩ (fun h_42 => absurd h_42 (by omega)) (fun h_42 => ?_)
        refine k_iload dL_searches_99 4 rfl ?_
        refine k_sipush (v := (-1002)) dL_searches_101 (by decide) ?_
        refine k_icmp_ne (tgt := 111) dL_searches_104 rfl ⟨by omega, by omega⟩ ⟨by decide, by decide⟩ (fun h_43 => ?_) (fun h_43 => ?_)
        · refine k_iconst (v := 0) dL_searches_111 rfl ?_
          refine k_aload_n dL_searches_112 0 rfl rfl (by decide) ?_
          refine k_iload_n dL_searches_113 1 rfl rfl ?_
          refine k_iload_n dL_searches_114 3 rfl rfl ?_
          refine k_less (k' := 1 + (4 * ((σ 1 0).toNat - (i66 + 1)) + (1 + (60 * ((σ 1 2).toNat - (i2 + 1)) + 1)))) (n' := 6 + (24 * ((σ 1 0).toNat - (i66 + 1)) + (6 + (360 * ((σ 1 2).toNat - (i2 + 1)) + 6)))) (by omega) (by omega) ?_
          refine p_callW (k1 := 1) (n1 := 6) (k := 4 * ((σ 1 0).toNat - (i66 + 1)) + (1 + (60 * ((σ 1 2).toNat - (i2 + 1)) + 1))) (n := 24 * ((σ 1 0).toNat - (i66 + 1)) + (6 + (360 * ((σ 1 2).toNat - (i2 + 1)) + 6))) (st := [.int (iI (0))]) (as := [.ref 0, .int (iI ((i2 : Int))), .int (iI ((i66 : Int)))]) dL_searches_115 oL_blockOf rfl w_p856 w_1072 (by decide) rfl (Nat.le_of_ble_eq_true rfl) (q_blockOf hsh hQ_39 (p := (i2 : Int)) ⟨by omega, by omega⟩ (s := (i66 : Int)) ⟨by omega, by omega⟩) ?_
          refine k_if_lt (tgt := 125) dL_searches_118 rfl ⟨by omega, by omega⟩ (fun h_44 => ?_) (fun h_44 => absurd h_44 (by omega))
          refine k_iconst (v := 0) dL_searches_125 rfl ?_
          refine k_icmp_eq (tgt := 131) dL_searches_126 rfl ⟨by decide, by decide⟩ ⟨by decide, by decide⟩ (fun h_45 => ?_) (fun h_45 => absurd h_45 (by decide))
          refine k_iinc (ls' := [(0, .ref 0), (1, .int (iI ((i2 : Int)))), (2, .int (iI (f_vbs (u_roomy σ (i2 : Int) 11)))), (3, .int (iI ((i66 : Int) + 1))), (4, .int (iI (p_mv σ (i2 : Int) (i66 : Int))))]) dL_searches_131 3 rfl (by decide) rfl rfl ?_
          refine k_goto (tgt := 66) dL_searches_134 rfl ?_
          refine k_dropr (ls' := [(0, .ref 0), (1, .int (iI ((i2 : Int)))), (2, .int (iI (f_vbs (u_roomy σ (i2 : Int) 11)))), (3, .int (iI ((i66 : Int) + 1)))]) (ex := [(4, .int (iI (p_mv σ (i2 : Int) (i66 : Int))))]) rfl ?_
          refine k_lrw (q := 3) (j := 3) (a' := ((i66 + 1 : Nat) : Int)) (ls' := [(0, .ref 0), (1, .int (iI ((i2 : Int)))), (2, .int (iI (f_vbs (u_roomy σ (i2 : Int) 11)))), (3, .int (iI (((i66 + 1 : Nat) : Int))))]) rfl (by omega) rfl ?_
          refine k_less (k' := 4 * ((σ 1 0).toNat - (i66 + 1)) + (1 + (60 * ((σ 1 2).toNat - (i2 + 1)) + 1))) (n' := 24 * ((σ 1 0).toNat - (i66 + 1)) + (6 + (360 * ((σ 1 2).toNat - (i2 + 1)) + 6))) (by omega) (by omega) ?_
          exact ih66 τ_38 hQ_39
        · refine k_iconst (v := 1) dL_searches_107 rfl ?_
          refine k_goto (tgt := 112) dL_searches_108 rfl ?_
          refine k_aload_n dL_searches_112 0 rfl rfl (by decide) ?_
          refine k_iload_n dL_searches_113 1 rfl rfl ?_
          refine k_iload_n dL_searches_114 3 rfl rfl ?_
          refine k_less (k' := 1 + (4 * ((σ 1 0).toNat - (i66 + 1)) + (1 + (60 * ((σ 1 2).toNat - (i2 + 1)) + 1)))) (n' := 6 + (24 * ((σ 1 0).toNat - (i66 + 1)) + (6 + (360 * ((σ 1 2).toNat - (i2 + 1)) + 6)))) (by omega) (by omega) ?_
          refine p_callW (k1 := 1) (n1 := 6) (k := 4 * ((σ 1 0).toNat - (i66 + 1)) + (1 + (60 * ((σ 1 2).toNat - (i2 + 1)) + 1))) (n := 24 * ((σ 1 0).toNat - (i66 + 1)) + (6 + (360 * ((σ 1 2).toNat - (i2 + 1)) + 6))) (st := [.int (iI (1))]) (as := [.ref 0, .int (iI ((i2 : Int))), .int (iI ((i66 : Int)))]) dL_searches_115 oL_blockOf rfl w_p856 w_1072 (by decide) rfl (Nat.le_of_ble_eq_true rfl) (q_blockOf hsh hQ_39 (p := (i2 : Int)) ⟨by omega, by omega⟩ (s := (i66 : Int)) ⟨by omega, by omega⟩) ?_
          refine k_if_lt (tgt := 125) dL_searches_118 rfl ⟨by omega, by omega⟩ (fun h_46 => absurd h_46 (by omega)) (fun h_46 => ?_)
          refine k_iconst (v := 1) dL_searches_121 rfl ?_
          refine k_goto (tgt := 126) dL_searches_122 rfl ?_
          refine k_icmp_eq (tgt := 131) dL_searches_126 rfl ⟨by decide, by decide⟩ ⟨by decide, by decide⟩ (fun h_47 => ?_) (fun h_47 => absurd h_47 (by decide))
          refine k_iinc (ls' := [(0, .ref 0), (1, .int (iI ((i2 : Int)))), (2, .int (iI (f_vbs (u_roomy σ (i2 : Int) 11)))), (3, .int (iI ((i66 : Int) + 1))), (4, .int (iI (p_mv σ (i2 : Int) (i66 : Int))))]) dL_searches_131 3 rfl (by decide) rfl rfl ?_
          refine k_goto (tgt := 66) dL_searches_134 rfl ?_
          refine k_dropr (ls' := [(0, .ref 0), (1, .int (iI ((i2 : Int)))), (2, .int (iI (f_vbs (u_roomy σ (i2 : Int) 11)))), (3, .int (iI ((i66 : Int) + 1)))]) (ex := [(4, .int (iI (p_mv σ (i2 : Int) (i66 : Int))))]) rfl ?_
          refine k_lrw (q := 3) (j := 3) (a' := ((i66 + 1 : Nat) : Int)) (ls' := [(0, .ref 0), (1, .int (iI ((i2 : Int)))), (2, .int (iI (f_vbs (u_roomy σ (i2 : Int) 11)))), (3, .int (iI (((i66 + 1 : Nat) : Int))))]) rfl (by omega) rfl ?_
          refine k_less (k' := 4 * ((σ 1 0).toNat - (i66 + 1)) + (1 + (60 * ((σ 1 2).toNat - (i2 + 1)) + 1))) (n' := 24 * ((σ 1 0).toNat - (i66 + 1)) + (6 + (360 * ((σ 1 2).toNat - (i2 + 1)) + 6))) (by omega) (by omega) ?_
          exact ih66 τ_38 hQ_39
end P_I
