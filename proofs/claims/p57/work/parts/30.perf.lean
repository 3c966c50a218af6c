/-! ===== CHANGES: faults and modifications by their numbers ===== -/
section K_Z
variable {E : k_E} {sh : List k_Sh} {σ : Nat → Nat → Int}
def e_fault (σ : Nat → Nat → Int) (m a b c : Int) : Int := match m.toNat with
  | 0 => e_subject σ a
  | 1 => e_blocks σ a
  | 2 => e_open σ a b
  | 3 => e_close σ a b
  | 4 => e_pupil σ
  | 5 => e_wish σ a b
  | 6 => e_reserve σ a b
  | 7 => e_enrol σ a
  | 8 => e_join σ a b
  | 9 => e_quit σ a b
  | 10 => e_change σ a b c
  | _ => e_arrange σ
def u_fault (σ : Nat → Nat → Int) (m a b c : Int) : Nat → Nat → Int := match m.toNat with
  | 8 => u_joinE σ a b
  | 10 => u_changeE σ a b c
  | _ => σ
theorem e_subject_0 {z : Int} (h : e_subject σ z = 0) : (1 ≤ z ∧ z ≤ 9) ∧ σ 1 0 < 7 := by
  unfold e_subject at h
  (repeat' split at h) <;> first | omega | cases h
theorem e_blocks_0 {c : Int} (h : e_blocks σ c = 0) : (1 ≤ c ∧ c ≤ 4) ∧ ∀ s : Nat, s < (σ 1 0).toNat → f_open σ (s : Int) / z_one c = 0 := by
  unfold e_blocks at h
  split at h
  · split at h
    · exact ⟨by assumption, by assumption⟩
    · cases h
  · cases h
theorem e_open_0 {s b : Int} (h : e_open σ s b = 0) : ((0 ≤ s ∧ s < σ 1 0) ∧ (0 ≤ b ∧ b < σ 1 1)) ∧ z_bit (f_open σ s) b = false := by
  unfold e_open at h
  split at h
  · split at h
    · cases h
    · exact ⟨by assumption, by simp_all⟩
  · cases h
theorem e_close_0 {s b : Int} (h : e_close σ s b = 0) : ((0 ≤ s ∧ s < σ 1 0) ∧ (0 ≤ b ∧ b < σ 1 1)) ∧ z_bit (f_open σ s) b = true ∧ f_roster σ s b = 0 := by
  unfold e_close at h
  split at h
  · split at h
    · exact ⟨by assumption, by assumption⟩
    · cases h
  · cases h
theorem e_pupil_0 (h : e_pupil σ = 0) : σ 1 2 < 12 := by
  unfold e_pupil at h
  split at h
  · cases h
  · omega
theorem e_reserve_1 {p s : Int} (h : e_reserve σ p s = 0) : ((0 ≤ p ∧ p < σ 1 2) ∧ (0 ≤ s ∧ s < σ 1 0)) ∧ z_bit (f_wishSet σ p) s = false ∧ ¬ σ 7 p.toNat = s := by
  unfold e_reserve at h
  split at h
  · split at h
    · cases h
    · rename_i h1 h2
      refine ⟨h1, ?_, fun e => h2 (Or.inr e)⟩
      cases hb : z_bit (f_wishSet σ p) s
      · rfl
      · exact absurd (Or.inl hb) h2
  · cases h
theorem e_wish_0 {p s : Int} (h : e_wish σ p s = 0) : e_reserve σ p s = 0 ∧ σ 5 p.toNat < 3 := by
  unfold e_wish at h
  split at h
  · split at h
    · cases h
    · exact ⟨by assumption, by omega⟩
  · exact absurd h (by assumption)
theorem e_enrol_0 {p : Int} (h : e_enrol σ p = 0) : (0 ≤ p ∧ p < σ 1 2) ∧ f_lessons σ p ≤ 0 ∧ 0 < σ 5 p.toNat := by
  unfold e_enrol at h
  split at h
  · split at h
    · cases h
    · exact ⟨by assumption, by omega, by omega⟩
  · cases h
theorem e_join_0 {p s : Int} (h : e_join σ p s = 0) : e_joiner σ p s = 0 ∧ f_few σ s (f_free σ p) ≠ -1 := by
  unfold e_join at h
  split at h
  · unfold e_seek at h
    split at h
    · cases h
    · exact ⟨by assumption, by assumption⟩
  · exact absurd h (by assumption)
theorem e_quit_0 {p s : Int} (h : e_quit σ p s = 0) : ((0 ≤ p ∧ p < σ 1 2) ∧ (0 ≤ s ∧ s < σ 1 0)) ∧ f_taken σ p s ≠ -1 := by
  unfold e_quit at h
  split at h
  · split at h
    · cases h
    · exact ⟨by assumption, by assumption⟩
  · cases h
theorem e_chg_0 {p a b : Int} (h : e_chg σ p a b = 0) : (((0 ≤ p ∧ p < σ 1 2) ∧ (0 ≤ a ∧ a < σ 1 0)) ∧ (0 ≤ b ∧ b < σ 1 0)) ∧ f_taken σ p a ≠ -1 ∧ f_taken σ p b = -1 := by
  unfold e_chg at h
  split at h
  · split at h
    · cases h
    · exact ⟨by assumption, by omega, by omega⟩
  · cases h
theorem e_change_0 {p a b : Int} (h : e_change σ p a b = 0) : e_chg σ p a b = 0 ∧ f_few σ b (f_freeQ σ p a) ≠ -1 := by
  unfold e_change at h
  split at h
  · unfold e_seek at h
    split at h
    · cases h
    · exact ⟨by assumption, by assumption⟩
  · exact absurd h (by assumption)
theorem e_arrange_0 (h : e_arrange σ = 0) : f_lessAll σ ≤ 0 := by
  unfold e_arrange at h
  split at h
  · cases h
  · omega
set_option maxHeartbeats 4000000 in
theorem c_faultOf_0 (hsh : k_Main sh) (hI : k_Ty σ) (hC : k_Ch σ) {a b c : Int} (ha : -2147483648 ≤ a ∧ a < 2147483648) (hb : -2147483648 ≤ b ∧ b < 2147483648) (hc : -2147483648 ≤ c ∧ c < 2147483648) : k_C E mX2_faultOf 7 [.ref 23, .int (iI (0)), .int (iI (a)), .int (iI (b)), .int (iI (c))] sh σ 0 0 (k_ret (some (.int (iI (e_subject σ a)))) sh σ) := by
  refine k_C_of (ls0 := [(0, .ref 23), (1, .int (iI (0))), (2, .int (iI (a))), (3, .int (iI (b))), (4, .int (iI (c)))]) rfl pnX2 (fun v hv => k_cat1 rfl hv) (Nat.le_of_ble_eq_true rfl) rfl ?_
  obtain ⟨t0, t1, t2, t3, t4, t5, t6, t7, t8, t9, t10, t11⟩ := id hI
  refine k_iload_n dX2_faultOf_0 1 rfl rfl ?_
  refine k_tableIn (tgt := 64) dX2_faultOf_1 ⟨by decide, by decide⟩ (by decide) (by decide) rfl rfl ?_
  refine k_aload_n dX2_faultOf_64 0 rfl rfl (by decide) ?_
  refine k_iload_n dX2_faultOf_65 2 rfl rfl ?_
  refine k_callVr (st := []) (as := [.int (iI (a))]) dX2_faultOf_66 oX2_faultOfNewSubject w_620 w_622 w_8 rfl (by omega) rfl (Nat.le_of_ble_eq_true rfl) (by decide) (s_23 hsh) rfl (c_faultOfNewSubject hsh hI  ⟨by omega, by omega⟩) ?_
  exact k_reti dX2_faultOf_69 rfl rfl (by rfl)
set_option maxHeartbeats 4000000 in
theorem c_faultOf_1 (hsh : k_Main sh) (hI : k_Ty σ) (hC : k_Ch σ) {a b c : Int} (ha : -2147483648 ≤ a ∧ a < 2147483648) (hb : -2147483648 ≤ b ∧ b < 2147483648) (hc : -2147483648 ≤ c ∧ c < 2147483648) : k_C E mX2_faultOf 7 [.ref 23, .int (iI (1)), .int (iI (a)), .int (iI (b)), .int (iI (c))] sh σ 0 0 (k_ret (some (.int (iI (e_blocks σ a)))) sh σ) := by
  refine k_C_of (ls0 := [(0, .ref 23), (1, .int (iI (1))), (2, .int (iI (a))), (3, .int (iI (b))), (4, .int (iI (c)))]) rfl pnX2 (fun v hv => k_cat1 rfl hv) (Nat.le_of_ble_eq_true rfl) rfl ?_
  obtain ⟨t0, t1, t2, t3, t4, t5, t6, t7, t8, t9, t10, t11⟩ := id hI
  refine k_iload_n dX2_faultOf_0 1 rfl rfl ?_
  refine k_tableIn (tgt := 70) dX2_faultOf_1 ⟨by decide, by decide⟩ (by decide) (by decide) rfl rfl ?_
  refine k_aload_n dX2_faultOf_70 0 rfl rfl (by decide) ?_
  refine k_iload_n dX2_faultOf_71 2 rfl rfl ?_
  refine k_callVr (st := []) (as := [.int (iI (a))]) dX2_faultOf_72 oX2_faultOfBlocks w_624 w_626 w_9 rfl (by omega) rfl (Nat.le_of_ble_eq_true rfl) (by decide) (s_23 hsh) rfl (c_faultOfBlocks hsh hI  ⟨by omega, by omega⟩) ?_
  exact k_reti dX2_faultOf_75 rfl rfl (by rfl)
set_option maxHeartbeats 4000000 in
theorem c_faultOf_2 (hsh : k_Main sh) (hI : k_Ty σ) (hC : k_Ch σ) {a b c : Int} (ha : -2147483648 ≤ a ∧ a < 2147483648) (hb : -2147483648 ≤ b ∧ b < 2147483648) (hc : -2147483648 ≤ c ∧ c < 2147483648) : k_C E mX2_faultOf 7 [.ref 23, .int (iI (2)), .int (iI (a)), .int (iI (b)), .int (iI (c))] sh σ 0 0 (k_ret (some (.int (iI (e_open σ a b)))) sh σ) := by
  refine k_C_of (ls0 := [(0, .ref 23), (1, .int (iI (2))), (2, .int (iI (a))), (3, .int (iI (b))), (4, .int (iI (c)))]) rfl pnX2 (fun v hv => k_cat1 rfl hv) (Nat.le_of_ble_eq_true rfl) rfl ?_
  obtain ⟨t0, t1, t2, t3, t4, t5, t6, t7, t8, t9, t10, t11⟩ := id hI
  refine k_iload_n dX2_faultOf_0 1 rfl rfl ?_
  refine k_tableIn (tgt := 76) dX2_faultOf_1 ⟨by decide, by decide⟩ (by decide) (by decide) rfl rfl ?_
  refine k_aload_n dX2_faultOf_76 0 rfl rfl (by decide) ?_
  refine k_iload_n dX2_faultOf_77 2 rfl rfl ?_
  refine k_iload_n dX2_faultOf_78 3 rfl rfl ?_
  refine k_callVr (st := []) (as := [.int (iI (a)), .int (iI (b))]) dX2_faultOf_79 oX2_faultOfOpening w_629 w_631 w_10 rfl (by omega) rfl (Nat.le_of_ble_eq_true rfl) (by decide) (s_23 hsh) rfl (c_faultOfOpening hsh hI  ⟨by omega, by omega⟩ ⟨by omega, by omega⟩) ?_
  exact k_reti dX2_faultOf_82 rfl rfl (by rfl)
set_option maxHeartbeats 4000000 in
theorem c_faultOf_3 (hsh : k_Main sh) (hI : k_Ty σ) (hC : k_Ch σ) {a b c : Int} (ha : -2147483648 ≤ a ∧ a < 2147483648) (hb : -2147483648 ≤ b ∧ b < 2147483648) (hc : -2147483648 ≤ c ∧ c < 2147483648) : k_C E mX2_faultOf 7 [.ref 23, .int (iI (3)), .int (iI (a)), .int (iI (b)), .int (iI (c))] sh σ 0 0 (k_ret (some (.int (iI (e_close σ a b)))) sh σ) := by
  refine k_C_of (ls0 := [(0, .ref 23), (1, .int (iI (3))), (2, .int (iI (a))), (3, .int (iI (b))), (4, .int (iI (c)))]) rfl pnX2 (fun v hv => k_cat1 rfl hv) (Nat.le_of_ble_eq_true rfl) rfl ?_
  obtain ⟨t0, t1, t2, t3, t4, t5, t6, t7, t8, t9, t10, t11⟩ := id hI
  refine k_iload_n dX2_faultOf_0 1 rfl rfl ?_
  refine k_tableIn (tgt := 83) dX2_faultOf_1 ⟨by decide, by decide⟩ (by decide) (by decide) rfl rfl ?_
  refine k_aload_n dX2_faultOf_83 0 rfl rfl (by decide) ?_
  refine k_iload_n dX2_faultOf_84 2 rfl rfl ?_
  refine k_iload_n dX2_faultOf_85 3 rfl rfl ?_
  refine k_callVr (st := []) (as := [.int (iI (a)), .int (iI (b))]) dX2_faultOf_86 oX2_faultOfClosing w_635 w_637 w_11 rfl (by omega) rfl (Nat.le_of_ble_eq_true rfl) (by decide) (s_23 hsh) rfl (c_faultOfClosing hsh hI  ⟨by omega, by omega⟩ ⟨by omega, by omega⟩) ?_
  exact k_reti dX2_faultOf_89 rfl rfl (by rfl)
set_option maxHeartbeats 4000000 in
theorem c_faultOf_4 (hsh : k_Main sh) (hI : k_Ty σ) (hC : k_Ch σ) {a b c : Int} (ha : -2147483648 ≤ a ∧ a < 2147483648) (hb : -2147483648 ≤ b ∧ b < 2147483648) (hc : -2147483648 ≤ c ∧ c < 2147483648) : k_C E mX2_faultOf 7 [.ref 23, .int (iI (4)), .int (iI (a)), .int (iI (b)), .int (iI (c))] sh σ 0 0 (k_ret (some (.int (iI (e_pupil σ)))) sh σ) := by
  refine k_C_of (ls0 := [(0, .ref 23), (1, .int (iI (4))), (2, .int (iI (a))), (3, .int (iI (b))), (4, .int (iI (c)))]) rfl pnX2 (fun v hv => k_cat1 rfl hv) (Nat.le_of_ble_eq_true rfl) rfl ?_
  obtain ⟨t0, t1, t2, t3, t4, t5, t6, t7, t8, t9, t10, t11⟩ := id hI
  refine k_iload_n dX2_faultOf_0 1 rfl rfl ?_
  refine k_tableIn (tgt := 90) dX2_faultOf_1 ⟨by decide, by decide⟩ (by decide) (by decide) rfl rfl ?_
  refine k_aload_n dX2_faultOf_90 0 rfl rfl (by decide) ?_
  refine k_get (kf := 0) (v := .ref 1) dX2_faultOf_91 kcX2 w_262 (by decide) (by decide) (s_23 hsh) rfl rfl ?_
  refine k_getN (kf := 2) (v := .int (iI (σ 1 2))) dX2_faultOf_94 kcX5 w_139 (by decide) (by decide) (s_1 hsh) rfl rfl ?_
  refine k_bipush (v := 12) dX2_faultOf_97 (by decide) ?_
  refine k_icmp_lt (tgt := 106) dX2_faultOf_99 rfl ⟨by omega, by omega⟩ ⟨by decide, by decide⟩ (fun h_1 => ?_) (fun h_1 => ?_)
  · refine k_iconst (v := 0) dX2_faultOf_106 rfl ?_
    exact k_reti dX2_faultOf_107 rfl rfl (by unfold e_pupil; first | exact (if_pos (by assumption)).symm | exact (if_neg (by omega)).symm)
  · refine k_iconst (v := 3) dX2_faultOf_102 rfl ?_
    refine k_goto (tgt := 107) dX2_faultOf_103 rfl ?_
    exact k_reti dX2_faultOf_107 rfl rfl (by unfold e_pupil; first | exact (if_pos (by assumption)).symm | exact (if_neg (by omega)).symm)
set_option maxHeartbeats 4000000 in
theorem c_faultOf_5 (hsh : k_Main sh) (hI : k_Ty σ) (hC : k_Ch σ) {a b c : Int} (ha : -2147483648 ≤ a ∧ a < 2147483648) (hb : -2147483648 ≤ b ∧ b < 2147483648) (hc : -2147483648 ≤ c ∧ c < 2147483648) : k_C E mX2_faultOf 7 [.ref 23, .int (iI (5)), .int (iI (a)), .int (iI (b)), .int (iI (c))] sh σ 0 0 (k_ret (some (.int (iI (e_wish σ a b)))) sh σ) := by
  refine k_C_of (ls0 := [(0, .ref 23), (1, .int (iI (5))), (2, .int (iI (a))), (3, .int (iI (b))), (4, .int (iI (c)))]) rfl pnX2 (fun v hv => k_cat1 rfl hv) (Nat.le_of_ble_eq_true rfl) rfl ?_
  obtain ⟨t0, t1, t2, t3, t4, t5, t6, t7, t8, t9, t10, t11⟩ := id hI
  refine k_iload_n dX2_faultOf_0 1 rfl rfl ?_
  refine k_tableIn (tgt := 108) dX2_faultOf_1 ⟨by decide, by decide⟩ (by decide) (by decide) rfl rfl ?_
  refine k_aload_n dX2_faultOf_108 0 rfl rfl (by decide) ?_
  refine k_iload_n dX2_faultOf_109 2 rfl rfl ?_
  refine k_iload_n dX2_faultOf_110 3 rfl rfl ?_
  refine k_callVr (st := []) (as := [.int (iI (a)), .int (iI (b))]) dX2_faultOf_111 oX2_faultOfWish w_640 w_642 w_12 rfl (by omega) rfl (Nat.le_of_ble_eq_true rfl) (by decide) (s_23 hsh) rfl (c_faultOfWish hsh hI  ⟨by omega, by omega⟩ ⟨by omega, by omega⟩) ?_
  exact k_reti dX2_faultOf_114 rfl rfl (by rfl)
set_option maxHeartbeats 4000000 in
theorem c_faultOf_6 (hsh : k_Main sh) (hI : k_Ty σ) (hC : k_Ch σ) {a b c : Int} (ha : -2147483648 ≤ a ∧ a < 2147483648) (hb : -2147483648 ≤ b ∧ b < 2147483648) (hc : -2147483648 ≤ c ∧ c < 2147483648) : k_C E mX2_faultOf 7 [.ref 23, .int (iI (6)), .int (iI (a)), .int (iI (b)), .int (iI (c))] sh σ 0 0 (k_ret (some (.int (iI (e_reserve σ a b)))) sh σ) := by
  refine k_C_of (ls0 := [(0, .ref 23), (1, .int (iI (6))), (2, .int (iI (a))), (3, .int (iI (b))), (4, .int (iI (c)))]) rfl pnX2 (fun v hv => k_cat1 rfl hv) (Nat.le_of_ble_eq_true rfl) rfl ?_
  obtain ⟨t0, t1, t2, t3, t4, t5, t6, t7, t8, t9, t10, t11⟩ := id hI
  refine k_iload_n dX2_faultOf_0 1 rfl rfl ?_
  refine k_tableIn (tgt := 115) dX2_faultOf_1 ⟨by decide, by decide⟩ (by decide) (by decide) rfl rfl ?_
  refine k_aload_n dX2_faultOf_115 0 rfl rfl (by decide) ?_
  refine k_iload_n dX2_faultOf_116 2 rfl rfl ?_
  refine k_iload_n dX2_faultOf_117 3 rfl rfl ?_
  refine k_callVr (st := []) (as := [.int (iI (a)), .int (iI (b))]) dX2_faultOf_118 oX2_faultOfReserve w_644 w_646 w_13 rfl (by omega) rfl (Nat.le_of_ble_eq_true rfl) (by decide) (s_23 hsh) rfl (c_faultOfReserve hsh hI  ⟨by omega, by omega⟩ ⟨by omega, by omega⟩) ?_
  exact k_reti dX2_faultOf_121 rfl rfl (by rfl)
set_option maxHeartbeats 4000000 in
theorem c_faultOf_7 (hsh : k_Main sh) (hI : k_Ty σ) (hC : k_Ch σ) {a b c : Int} (ha : -2147483648 ≤ a ∧ a < 2147483648) (hb : -2147483648 ≤ b ∧ b < 2147483648) (hc : -2147483648 ≤ c ∧ c < 2147483648) : k_C E mX2_faultOf 7 [.ref 23, .int (iI (7)), .int (iI (a)), .int (iI (b)), .int (iI (c))] sh σ 0 0 (k_ret (some (.int (iI (e_enrol σ a)))) sh σ) := by
  refine k_C_of (ls0 := [(0, .ref 23), (1, .int (iI (7))), (2, .int (iI (a))), (3, .int (iI (b))), (4, .int (iI (c)))]) rfl pnX2 (fun v hv => k_cat1 rfl hv) (Nat.le_of_ble_eq_true rfl) rfl ?_
  obtain ⟨t0, t1, t2, t3, t4, t5, t6, t7, t8, t9, t10, t11⟩ := id hI
  refine k_iload_n dX2_faultOf_0 1 rfl rfl ?_
  refine k_tableIn (tgt := 122) dX2_faultOf_1 ⟨by decide, by decide⟩ (by decide) (by decide) rfl rfl ?_
  refine k_aload_n dX2_faultOf_122 0 rfl rfl (by decide) ?_
  refine k_iload_n dX2_faultOf_123 2 rfl rfl ?_
  refine k_callVr (st := []) (as := [.int (iI (a))]) dX2_faultOf_124 oX2_faultOfEnrolling w_650 w_440 w_441 rfl (by omega) rfl (Nat.le_of_ble_eq_true rfl) (by decide) (s_23 hsh) rfl (c_faultOfEnrolling hsh hI  ⟨by omega, by omega⟩) ?_
  exact k_reti dX2_faultOf_127 rfl rfl (by rfl)
set_option maxHeartbeats 4000000 in
theorem c_faultOf_8 (hsh : k_Main sh) (hI : k_Ty σ) (hC : k_Ch σ) {a b c : Int} (ha : -2147483648 ≤ a ∧ a < 2147483648) (hb : -2147483648 ≤ b ∧ b < 2147483648) (hc : -2147483648 ≤ c ∧ c < 2147483648) : k_C E mX2_faultOf 7 [.ref 23, .int (iI (8)), .int (iI (a)), .int (iI (b)), .int (iI (c))] sh σ 0 0 (k_ret (some (.int (iI (e_join σ a b)))) sh (u_joinE σ a b)) := by
  refine k_C_of (ls0 := [(0, .ref 23), (1, .int (iI (8))), (2, .int (iI (a))), (3, .int (iI (b))), (4, .int (iI (c)))]) rfl pnX2 (fun v hv => k_cat1 rfl hv) (Nat.le_of_ble_eq_true rfl) rfl ?_
  obtain ⟨t0, t1, t2, t3, t4, t5, t6, t7, t8, t9, t10, t11⟩ := id hI
  refine k_iload_n dX2_faultOf_0 1 rfl rfl ?_
  refine k_tableIn (tgt := 128) dX2_faultOf_1 ⟨by decide, by decide⟩ (by decide) (by decide) rfl rfl ?_
  refine k_aload_n dX2_faultOf_128 0 rfl rfl (by decide) ?_
  refine k_iload_n dX2_faultOf_129 2 rfl rfl ?_
  refine k_iload_n dX2_faultOf_130 3 rfl rfl ?_
  refine k_callVr (st := []) (as := [.int (iI (a)), .int (iI (b))]) dX2_faultOf_131 oX2_faultOfJoining w_651 w_653 w_14 rfl (by omega) rfl (Nat.le_of_ble_eq_true rfl) (by decide) (s_23 hsh) rfl (c_faultOfJoining hsh hI hC ⟨by omega, by omega⟩ ⟨by omega, by omega⟩) ?_
  exact k_reti dX2_faultOf_134 rfl rfl (by rfl)
set_option maxHeartbeats 4000000 in
theorem c_faultOf_9 (hsh : k_Main sh) (hI : k_Ty σ) (hC : k_Ch σ) {a b c : Int} (ha : -2147483648 ≤ a ∧ a < 2147483648) (hb : -2147483648 ≤ b ∧ b < 2147483648) (hc : -2147483648 ≤ c ∧ c < 2147483648) : k_C E mX2_faultOf 7 [.ref 23, .int (iI (9)), .int (iI (a)), .int (iI (b)), .int (iI (c))] sh σ 0 0 (k_ret (some (.int (iI (e_quit σ a b)))) sh σ) := by
  refine k_C_of (ls0 := [(0, .ref 23), (1, .int (iI (9))), (2, .int (iI (a))), (3, .int (iI (b))), (4, .int (iI (c)))]) rfl pnX2 (fun v hv => k_cat1 rfl hv) (Nat.le_of_ble_eq_true rfl) rfl ?_
  obtain ⟨t0, t1, t2, t3, t4, t5, t6, t7, t8, t9, t10, t11⟩ := id hI
  refine k_iload_n dX2_faultOf_0 1 rfl rfl ?_
  refine k_tableIn (tgt := 135) dX2_faultOf_1 ⟨by decide, by decide⟩ (by decide) (by decide) rfl rfl ?_
  refine k_aload_n dX2_faultOf_135 0 rfl rfl (by decide) ?_
  refine k_iload_n dX2_faultOf_136 2 rfl rfl ?_
  refine k_iload_n dX2_faultOf_137 3 rfl rfl ?_
  refine k_callVr (st := []) (as := [.int (iI (a)), .int (iI (b))]) dX2_faultOf_138 oX2_faultOfQuitting w_695 w_697 w_19 rfl (by omega) rfl (Nat.le_of_ble_eq_true rfl) (by decide) (s_23 hsh) rfl (c_faultOfQuitting hsh hI  ⟨by omega, by omega⟩ ⟨by omega, by omega⟩) ?_
  exact k_reti dX2_faultOf_141 rfl rfl (by rfl)
set_option maxHeartbeats 4000000 in
theorem c_faultOf_10 (hsh : k_Main sh) (hI : k_Ty σ) (hC : k_Ch σ) {a b c : Int} (ha : -2147483648 ≤ a ∧ a < 2147483648) (hb : -2147483648 ≤ b ∧ b < 2147483648) (hc : -2147483648 ≤ c ∧ c < 2147483648) : k_C E mX2_faultOf 7 [.ref 23, .int (iI (10)), .int (iI (a)), .int (iI (b)), .int (iI (c))] sh σ 0 0 (k_ret (some (.int (iI (e_change σ a b c)))) sh (u_changeE σ a b c)) := by
  refine k_C_of (ls0 := [(0, .ref 23), (1, .int (iI (10))), (2, .int (iI (a))), (3, .int (iI (b))), (4, .int (iI (c)))]) rfl pnX2 (fun v hv => k_cat1 rfl hv) (Nat.le_of_ble_eq_true rfl) rfl ?_
  obtain ⟨t0, t1, t2, t3, t4, t5, t6, t7, t8, t9, t10, t11⟩ := id hI
  refine k_iload_n dX2_faultOf_0 1 rfl rfl ?_
  refine k_tableIn (tgt := 142) dX2_faultOf_1 ⟨by decide, by decide⟩ (by decide) (by decide) rfl rfl ?_
  refine k_aload_n dX2_faultOf_142 0 rfl rfl (by decide) ?_
  refine k_iload_n dX2_faultOf_143 2 rfl rfl ?_
  refine k_iload_n dX2_faultOf_144 3 rfl rfl ?_
  refine k_iload dX2_faultOf_145 4 rfl ?_
  refine k_callVr (st := []) (as := [.int (iI (a)), .int (iI (b)), .int (iI (c))]) dX2_faultOf_147 oX2_faultOfChanging w_699 w_701 w_20 rfl (by omega) rfl (Nat.le_of_ble_eq_true rfl) (by decide) (s_23 hsh) rfl (c_faultOfChanging hsh hI hC ⟨by omega, by omega⟩ ⟨by omega, by omega⟩ ⟨by omega, by omega⟩) ?_
  exact k_reti dX2_faultOf_150 rfl rfl (by rfl)
set_option maxHeartbeats 4000000 in
theorem c_faultOf_11 (hsh : k_Main sh) (hI : k_Ty σ) (hC : k_Ch σ) {a b c : Int} (ha : -2147483648 ≤ a ∧ a < 2147483648) (hb : -2147483648 ≤ b ∧ b < 2147483648) (hc : -2147483648 ≤ c ∧ c < 2147483648) : k_C E mX2_faultOf 7 [.ref 23, .int (iI (11)), .int (iI (a)), .int (iI (b)), .int (iI (c))] sh σ 0 0 (k_ret (some (.int (iI (e_arrange σ)))) sh σ) := by
  refine k_C_of (ls0 := [(0, .ref 23), (1, .int (iI (11))), (2, .int (iI (a))), (3, .int (iI (b))), (4, .int (iI (c)))]) rfl pnX2 (fun v hv => k_cat1 rfl hv) (Nat.le_of_ble_eq_true rfl) rfl ?_
  obtain ⟨t0, t1, t2, t3, t4, t5, t6, t7, t8, t9, t10, t11⟩ := id hI
  have q1 : 0 ≤ f_lessAll σ ∧ f_lessAll σ ≤ 16 * (σ 1 1).toNat := f_lessAllN_r σ _
  refine k_iload_n dX2_faultOf_0 1 rfl rfl ?_
  refine k_tableIn (tgt := 151) dX2_faultOf_1 ⟨by decide, by decide⟩ (by decide) (by decide) rfl rfl ?_
  refine k_aload_n dX2_faultOf_151 0 rfl rfl (by decide) ?_
  refine k_get (kf := 0) (v := .ref 1) dX2_faultOf_152 kcX2 w_262 (by decide) (by decide) (s_23 hsh) rfl rfl ?_
  refine k_callVr (st := []) (as := []) dX2_faultOf_155 oX5_lessonsOfAll w_703 w_704 w_705 rfl (by omega) rfl (Nat.le_of_ble_eq_true rfl) (by decide) (s_1 hsh) rfl (c_lessonsOfAll hsh hI) ?_
  refine k_if_le (tgt := 165) dX2_faultOf_158 rfl ⟨by omega, by omega⟩ (fun h_1 => ?_) (fun h_1 => ?_)
  · refine k_iconst (v := 0) dX2_faultOf_165 rfl ?_
    exact k_reti dX2_faultOf_166 rfl rfl (by unfold e_arrange; first | exact (if_pos (by assumption)).symm | exact (if_neg (by omega)).symm)
  · refine k_iconst (v := 3) dX2_faultOf_161 rfl ?_
    refine k_goto (tgt := 166) dX2_faultOf_162 rfl ?_
    exact k_reti dX2_faultOf_166 rfl rfl (by unfold e_arrange; first | exact (if_pos (by assumption)).symm | exact (if_neg (by omega)).symm)
theorem c_faultOf (hsh : k_Main sh) (hI : k_Ty σ) (hC : k_Ch σ) {m a b c : Int} (hm : 0 ≤ m ∧ m < 12) (ha : -2147483648 ≤ a ∧ a < 2147483648) (hb : -2147483648 ≤ b ∧ b < 2147483648) (hc : -2147483648 ≤ c ∧ c < 2147483648) : k_C E mX2_faultOf 7 [.ref 23, .int (iI m), .int (iI a), .int (iI b), .int (iI c)] sh σ 0 0 (k_ret (some (.int (iI (e_fault σ m a b c)))) sh (u_fault σ m a b c)) := by
  have h : m = 0 ∨ m = 1 ∨ m = 2 ∨ m = 3 ∨ m = 4 ∨ m = 5 ∨ m = 6 ∨ m = 7 ∨ m = 8 ∨ m = 9 ∨ m = 10 ∨ m = 11 := by omega
  rcases h with rfl | rfl | rfl | rfl | rfl | rfl | rfl | rfl | rfl | rfl | rfl | rfl
  · exact c_faultOf_0 hsh hI hC ha hb hc
  · exact c_faultOf_1 hsh hI hC ha hb hc
  · exact c_faultOf_2 hsh hI hC ha hb hc
  · exact c_faultOf_3 hsh hI hC ha hb hc
  · exact c_faultOf_4 hsh hI hC ha hb hc
  · exact c_faultOf_5 hsh hI hC ha hb hc
  · exact c_faultOf_6 hsh hI hC ha hb hc
  · exact c_faultOf_7 hsh hI hC ha hb hc
  · exact c_faultOf_8 hsh hI hC ha hb hc
  · exact c_faultOf_9 hsh hI hC ha hb hc
  · exact c_faultOf_10 hsh hI hC ha hb hc
  · exact c_faultOf_11 hsh hI hC ha hb hc
def u_quit (σ : Nat → Nat → Int) (p s : Int) : Nat → Nat → Int := u_leave σ p s (f_taken σ p s)
def f_perf (σ : Nat → Nat → Int) (m a b c : Int) : Int := match m.toNat with
  | 0 => σ 1 0
  | 1 => σ 1 1
  | 2 => z_cnt (z_or (f_open σ a) (z_one b))
  | 3 => z_cnt (z_diff (f_open σ a) (z_one b))
  | 4 => σ 1 2
  | 5 => σ 5 a.toNat + 1
  | 6 => σ 7 a.toNat
  | 7 => (f_best (u_roomy σ a)).2.2 / 2
  | 8 => f_few σ b (f_free σ a)
  | 9 => f_taken σ a b
  | 10 => f_few (u_quit σ a b) c (f_free (u_quit σ a b) a)
  | _ => (f_abest σ).2.2.2
def u_perf (σ : Nat → Nat → Int) (m a b c : Int) : Nat → Nat → Int := match m.toNat with
  | 0 => u_newSubject σ a
  | 1 => k_up σ 1 (k_u1 (σ 1) 1 a)
  | 2 => k_up σ 3 (k_u1 (σ 3) a.toNat (z_or (f_open σ a) (z_one b)))
  | 3 => k_up σ 3 (k_u1 (σ 3) a.toNat (z_diff (f_open σ a) (z_one b)))
  | 4 => u_newPupil σ
  | 5 => u_newWish σ a b
  | 6 => k_up σ 7 (k_u1 (σ 7) a.toNat b)
  | 7 => u_give σ a
  | 8 => u_car σ a b
  | 9 => u_quit σ a b
  | 10 => u_car (u_quit σ a b) a c
  | _ => u_arr σ
theorem u_leave_ch {p s b : Int} (hC : k_Ch σ) : k_Ch (u_leave σ p s b) := by
  unfold u_leave
  split
  · exact k_Ch_up hC (by decide)
  · exact hC
set_option maxHeartbeats 4000000 in
theorem c_perform_0 (hsh : k_Main sh) (hI : k_Ty σ) (hS : k_Sc σ) (hC : k_Ch σ) (hA : k_Ar σ) {a b c : Int} (ha : -2147483648 ≤ a ∧ a < 2147483648) (hb : -2147483648 ≤ b ∧ b < 2147483648) (hc : -2147483648 ≤ c ∧ c < 2147483648) (h0 : e_subject σ a = 0) : k_C E mX2_perform 13 [.ref 23, .int (iI (0)), .int (iI (a)), .int (iI (b)), .int (iI (c))] sh σ 0 0 (k_ret (some (.int (iI (σ 1 0)))) sh (u_newSubject σ a)) := by
  refine k_C_of (ls0 := [(0, .ref 23), (1, .int (iI (0))), (2, .int (iI (a))), (3, .int (iI (b))), (4, .int (iI (c)))]) rfl pnX2 (fun v hv => k_cat1 rfl hv) (Nat.le_of_ble_eq_true rfl) rfl ?_
  obtain ⟨t0, t1, t2, t3, t4, t5, t6, t7, t8, t9, t10, t11⟩ := id hI
  have q1 := e_subject_0 h0
  refine k_iload_n dX2_perform_0 1 rfl rfl ?_
  refine k_tableIn (tgt := 64) dX2_perform_1 ⟨by decide, by decide⟩ (by decide) (by decide) rfl rfl ?_
  refine k_aload_n dX2_perform_64 0 rfl rfl (by decide) ?_
  refine k_get (kf := 0) (v := .ref 1) dX2_perform_65 kcX2 w_262 (by decide) (by decide) (s_23 hsh) rfl rfl ?_
  refine k_iload_n dX2_perform_68 2 rfl rfl ?_
  refine k_callVr (st := []) (as := [.int (iI (a))]) dX2_perform_69 oX5_newSubject w_834 w_835 w_836 rfl (by omega) rfl (Nat.le_of_ble_eq_true rfl) (by decide) (s_1 hsh) rfl (c_newSubject hsh hI ⟨by omega, by omega⟩ (by omega)) ?_
  exact k_reti dX2_perform_72 rfl rfl (by rfl)
set_option maxHeartbeats 4000000 in
theorem c_perform_1 (hsh : k_Main sh) (hI : k_Ty σ) (hS : k_Sc σ) (hC : k_Ch σ) (hA : k_Ar σ) {a b c : Int} (ha : -2147483648 ≤ a ∧ a < 2147483648) (hb : -2147483648 ≤ b ∧ b < 2147483648) (hc : -2147483648 ≤ c ∧ c < 2147483648) (h0 : e_blocks σ a = 0) : k_C E mX2_perform 13 [.ref 23, .int (iI (1)), .int (iI (a)), .int (iI (b)), .int (iI (c))] sh σ 0 0 (k_ret (some (.int (iI (σ 1 1)))) sh (k_up σ 1 (k_u1 (σ 1) 1 a))) := by
  refine k_C_of (ls0 := [(0, .ref 23), (1, .int (iI (1))), (2, .int (iI (a))), (3, .int (iI (b))), (4, .int (iI (c)))]) rfl pnX2 (fun v hv => k_cat1 rfl hv) (Nat.le_of_ble_eq_true rfl) rfl ?_
  obtain ⟨t0, t1, t2, t3, t4, t5, t6, t7, t8, t9, t10, t11⟩ := id hI
  have q1 := e_blocks_0 h0
  refine k_iload_n dX2_perform_0 1 rfl rfl ?_
  refine k_tableIn (tgt := 73) dX2_perform_1 ⟨by decide, by decide⟩ (by decide) (by decide) rfl rfl ?_
  refine k_aload_n dX2_perform_73 0 rfl rfl (by decide) ?_
  refine k_get (kf := 0) (v := .ref 1) dX2_perform_74 kcX2 w_262 (by decide) (by decide) (s_23 hsh) rfl rfl ?_
  refine k_iload_n dX2_perform_77 2 rfl rfl ?_
  refine k_callVr (st := []) (as := [.int (iI (a))]) dX2_perform_78 oX5_setBlocks w_838 w_839 w_840 rfl (by omega) rfl (Nat.le_of_ble_eq_true rfl) (by decide) (s_1 hsh) rfl (c_setBlocks hsh hI ⟨by omega, by omega⟩) ?_
  exact k_reti dX2_perform_81 rfl rfl (by rfl)
set_option maxHeartbeats 4000000 in
theorem c_perform_2 (hsh : k_Main sh) (hI : k_Ty σ) (hS : k_Sc σ) (hC : k_Ch σ) (hA : k_Ar σ) {a b c : Int} (ha : -2147483648 ≤ a ∧ a < 2147483648) (hb : -2147483648 ≤ b ∧ b < 2147483648) (hc : -2147483648 ≤ c ∧ c < 2147483648) (h0 : e_open σ a b = 0) : k_C E mX2_perform 13 [.ref 23, .int (iI (2)), .int (iI (a)), .int (iI (b)), .int (iI (c))] sh σ 0 0 (k_ret (some (.int (iI (z_cnt (z_or (f_open σ a) (z_one b)))))) sh (k_up σ 3 (k_u1 (σ 3) a.toNat (z_or (f_open σ a) (z_one b))))) := by
  refine k_C_of (ls0 := [(0, .ref 23), (1, .int (iI (2))), (2, .int (iI (a))), (3, .int (iI (b))), (4, .int (iI (c)))]) rfl pnX2 (fun v hv => k_cat1 rfl hv) (Nat.le_of_ble_eq_true rfl) rfl ?_
  obtain ⟨t0, t1, t2, t3, t4, t5, t6, t7, t8, t9, t10, t11⟩ := id hI
  have q1 := e_open_0 h0
  have q2 := f_open_r hI a
  have q3 := z_one_pos b
  have q4 : z_one b < 16 := z_one_lt 4 (by omega) (by omega)
  have q5 := z_or_nn (f_open σ a) (z_one b)
  have q6 : z_or (f_open σ a) (z_one b) < 16 := z_or_lt 4 q2.2 q4
  refine k_iload_n dX2_perform_0 1 rfl rfl ?_
  refine k_tableIn (tgt := 82) dX2_perform_1 ⟨by decide, by decide⟩ (by decide) (by decide) rfl rfl ?_
  refine k_aload_n dX2_perform_82 0 rfl rfl (by decide) ?_
  refine k_get (kf := 0) (v := .ref 1) dX2_perform_83 kcX2 w_262 (by decide) (by decide) (s_23 hsh) rfl rfl ?_
  refine k_iload_n dX2_perform_86 2 rfl rfl ?_
  refine k_aload_n dX2_perform_87 0 rfl rfl (by decide) ?_
  refine k_get (kf := 0) (v := .ref 1) dX2_perform_88 kcX2 w_262 (by decide) (by decide) (s_23 hsh) rfl rfl ?_
  refine k_iload_n dX2_perform_91 2 rfl rfl ?_
  refine k_callVr (st := [.int (iI (a)), .ref 1]) (as := [.int (iI (a))]) dX2_perform_92 oX5_openBlocks w_628 w_484 w_485 rfl (by omega) rfl (Nat.le_of_ble_eq_true rfl) (by decide) (s_1 hsh) rfl (c_openBlocks hsh hI ⟨by omega, by omega⟩) ?_
  refine k_iconst (v := 1) dX2_perform_95 rfl ?_
  refine k_iload_n dX2_perform_96 3 rfl rfl ?_
  refine k_ishl (v := (iI (z_one (b)))) dX2_perform_97 (z_oneI (by omega) (by omega)) ?_
  refine k_ior (v := (iI (z_or (f_open σ a) (z_one (b))))) dX2_perform_98 (z_orI (by omega) (Int.le_of_lt (z_one_pos _))) ?_
  refine k_callVr (st := []) (as := [.int (iI (a)), .int (iI (z_or (f_open σ a) (z_one (b))))]) dX2_perform_99 oX5_setOpenBlocks w_842 w_843 w_844 rfl (by omega) rfl (Nat.le_of_ble_eq_true rfl) (by decide) (s_1 hsh) rfl (c_setOpenBlocks hsh hI ⟨by omega, by omega⟩ ⟨by omega, by omega⟩ (by omega) ⟨by omega, by omega⟩) ?_
  exact k_reti dX2_perform_102 rfl rfl (by rfl)
set_option maxHeartbeats 4000000 in
theorem c_perform_3 (hsh : k_Main sh) (hI : k_Ty σ) (hS : k_Sc σ) (hC : k_Ch σ) (hA : k_Ar σ) {a b c : Int} (ha : -2147483648 ≤ a ∧ a < 2147483648) (hb : -2147483648 ≤ b ∧ b < 2147483648) (hc : -2147483648 ≤ c ∧ c < 2147483648) (h0 : e_close σ a b = 0) : k_C E mX2_perform 13 [.ref 23, .int (iI (3)), .int (iI (a)), .int (iI (b)), .int (iI (c))] sh σ 0 0 (k_ret (some (.int (iI (z_cnt (z_diff (f_open σ a) (z_one b)))))) sh (k_up σ 3 (k_u1 (σ 3) a.toNat (z_diff (f_open σ a) (z_one b))))) := by
  refine k_C_of (ls0 := [(0, .ref 23), (1, .int (iI (3))), (2, .int (iI (a))), (3, .int (iI (b))), (4, .int (iI (c)))]) rfl pnX2 (fun v hv => k_cat1 rfl hv) (Nat.le_of_ble_eq_true rfl) rfl ?_
  obtain ⟨t0, t1, t2, t3, t4, t5, t6, t7, t8, t9, t10, t11⟩ := id hI
  have q1 := e_close_0 h0
  have q2 := f_open_r hI a
  have q3 := z_one_pos b
  have q4 : z_one b < 16 := z_one_lt 4 (by omega) (by omega)
  have q5 := z_diff_nn (f_open σ a) (z_one b)
  have q6 : z_diff (f_open σ a) (z_one b) < 16 := z_diff_lt 4 q2.2
  refine k_iload_n dX2_perform_0 1 rfl rfl ?_
  refine k_tableIn (tgt := 103) dX2_perform_1 ⟨by decide, by decide⟩ (by decide) (by decide) rfl rfl ?_
  refine k_aload_n dX2_perform_103 0 rfl rfl (by decide) ?_
  refine k_get (kf := 0) (v := .ref 1) dX2_perform_104 kcX2 w_262 (by decide) (by decide) (s_23 hsh) rfl rfl ?_
  refine k_iload_n dX2_perform_107 2 rfl rfl ?_
  refine k_aload_n dX2_perform_108 0 rfl rfl (by decide) ?_
  refine k_get (kf := 0) (v := .ref 1) dX2_perform_109 kcX2 w_262 (by decide) (by decide) (s_23 hsh) rfl rfl ?_
  refine k_iload_n dX2_perform_112 2 rfl rfl ?_
  refine k_callVr (st := [.int (iI (a)), .ref 1]) (as := [.int (iI (a))]) dX2_perform_113 oX5_openBlocks w_628 w_484 w_485 rfl (by omega) rfl (Nat.le_of_ble_eq_true rfl) (by decide) (s_1 hsh) rfl (c_openBlocks hsh hI ⟨by omega, by omega⟩) ?_
  refine k_iconst (v := 1) dX2_perform_116 rfl ?_
  refine k_iload_n dX2_perform_117 3 rfl rfl ?_
  refine k_ishl (v := (iI (z_one (b)))) dX2_perform_118 (z_oneI (by omega) (by omega)) ?_
  refine k_iconst (v := (-1)) dX2_perform_119 rfl ?_
  refine k_ixor (v := (iI (z_one (b)) ^^^ iI (-1))) dX2_perform_120 rfl ?_
  refine k_iand (v := (iI (z_diff (f_open σ a) (z_one (b))))) dX2_perform_121 (z_diffI (by omega) (by omega) (Int.le_of_lt (z_one_pos _))) ?_
  refine k_callVr (st := []) (as := [.int (iI (a)), .int (iI (z_diff (f_open σ a) (z_one (b))))]) dX2_perform_122 oX5_setOpenBlocks w_842 w_843 w_844 rfl (by omega) rfl (Nat.le_of_ble_eq_true rfl) (by decide) (s_1 hsh) rfl (c_setOpenBlocks hsh hI ⟨by omega, by omega⟩ ⟨by omega, by omega⟩ (by omega) ⟨by omega, by omega⟩) ?_
  exact k_reti dX2_perform_125 rfl rfl (by rfl)
set_option maxHeartbeats 4000000 in
theorem c_perform_4 (hsh : k_Main sh) (hI : k_Ty σ) (hS : k_Sc σ) (hC : k_Ch σ) (hA : k_Ar σ) {a b c : Int} (ha : -2147483648 ≤ a ∧ a < 2147483648) (hb : -2147483648 ≤ b ∧ b < 2147483648) (hc : -2147483648 ≤ c ∧ c < 2147483648) (h0 : e_pupil σ = 0) : k_C E mX2_perform 13 [.ref 23, .int (iI (4)), .int (iI (a)), .int (iI (b)), .int (iI (c))] sh σ 0 0 (k_ret (some (.int (iI (σ 1 2)))) sh (u_newPupil σ)) := by
  refine k_C_of (ls0 := [(0, .ref 23), (1, .int (iI (4))), (2, .int (iI (a))), (3, .int (iI (b))), (4, .int (iI (c)))]) rfl pnX2 (fun v hv => k_cat1 rfl hv) (Nat.le_of_ble_eq_true rfl) rfl ?_
  obtain ⟨t0, t1, t2, t3, t4, t5, t6, t7, t8, t9, t10, t11⟩ := id hI
  have q1 := e_pupil_0 h0
  refine k_iload_n dX2_perform_0 1 rfl rfl ?_
  refine k_tableIn (tgt := 126) dX2_perform_1 ⟨by decide, by decide⟩ (by decide) (by decide) rfl rfl ?_
  refine k_aload_n dX2_perform_126 0 rfl rfl (by decide) ?_
  refine k_get (kf := 0) (v := .ref 1) dX2_perform_127 kcX2 w_262 (by decide) (by decide) (s_23 hsh) rfl rfl ?_
  refine k_callVr (st := []) (as := []) dX2_perform_130 oX5_newPupil w_846 w_847 w_848 rfl (by omega) rfl (Nat.le_of_ble_eq_true rfl) (by decide) (s_1 hsh) rfl (c_newPupil hsh hI  (by omega)) ?_
  exact k_reti dX2_perform_133 rfl rfl (by rfl)
set_option maxHeartbeats 4000000 in
theorem c_perform_5 (hsh : k_Main sh) (hI : k_Ty σ) (hS : k_Sc σ) (hC : k_Ch σ) (hA : k_Ar σ) {a b c : Int} (ha : -2147483648 ≤ a ∧ a < 2147483648) (hb : -2147483648 ≤ b ∧ b < 2147483648) (hc : -2147483648 ≤ c ∧ c < 2147483648) (h0 : e_wish σ a b = 0) : k_C E mX2_perform 13 [.ref 23, .int (iI (5)), .int (iI (a)), .int (iI (b)), .int (iI (c))] sh σ 0 0 (k_ret (some (.int (iI (σ 5 a.toNat + 1)))) sh (u_newWish σ a b)) := by
  refine k_C_of (ls0 := [(0, .ref 23), (1, .int (iI (5))), (2, .int (iI (a))), (3, .int (iI (b))), (4, .int (iI (c)))]) rfl pnX2 (fun v hv => k_cat1 rfl hv) (Nat.le_of_ble_eq_true rfl) rfl ?_
  obtain ⟨t0, t1, t2, t3, t4, t5, t6, t7, t8, t9, t10, t11⟩ := id hI
  have q0 := e_wish_0 h0
  have q1 := e_reserve_0 q0.1
  refine k_iload_n dX2_perform_0 1 rfl rfl ?_
  refine k_tableIn (tgt := 134) dX2_perform_1 ⟨by decide, by decide⟩ (by decide) (by decide) rfl rfl ?_
  refine k_aload_n dX2_perform_134 0 rfl rfl (by decide) ?_
  refine k_get (kf := 0) (v := .ref 1) dX2_perform_135 kcX2 w_262 (by decide) (by decide) (s_23 hsh) rfl rfl ?_
  refine k_iload_n dX2_perform_138 2 rfl rfl ?_
  refine k_iload_n dX2_perform_139 3 rfl rfl ?_
  refine k_callVr (st := []) (as := [.int (iI (a)), .int (iI (b))]) dX2_perform_140 oX5_newWish w_850 w_851 w_852 rfl (by omega) rfl (Nat.le_of_ble_eq_true rfl) (by decide) (s_1 hsh) rfl (c_newWish hsh hI ⟨by omega, by omega⟩ ⟨by omega, by omega⟩ (by omega) (by omega)) ?_
  exact k_reti dX2_perform_143 rfl rfl (by rfl)
set_option maxHeartbeats 4000000 in
theorem c_perform_6 (hsh : k_Main sh) (hI : k_Ty σ) (hS : k_Sc σ) (hC : k_Ch σ) (hA : k_Ar σ) {a b c : Int} (ha : -2147483648 ≤ a ∧ a < 2147483648) (hb : -2147483648 ≤ b ∧ b < 2147483648) (hc : -2147483648 ≤ c ∧ c < 2147483648) (h0 : e_reserve σ a b = 0) : k_C E mX2_perform 13 [.ref 23, .int (iI (6)), .int (iI (a)), .int (iI (b)), .int (iI (c))] sh σ 0 0 (k_ret (some (.int (iI (σ 7 a.toNat)))) sh (k_up σ 7 (k_u1 (σ 7) a.toNat b))) := by
  refine k_C_of (ls0 := [(0, .ref 23), (1, .int (iI (6))), (2, .int (iI (a))), (3, .int (iI (b))), (4, .int (iI (c)))]) rfl pnX2 (fun v hv => k_cat1 rfl hv) (Nat.le_of_ble_eq_true rfl) rfl ?_
  obtain ⟨t0, t1, t2, t3, t4, t5, t6, t7, t8, t9, t10, t11⟩ := id hI
  have q1 := e_reserve_0 h0
  refine k_iload_n dX2_perform_0 1 rfl rfl ?_
  refine k_tableIn (tgt := 144) dX2_perform_1 ⟨by decide, by decide⟩ (by decide) (by decide) rfl rfl ?_
  refine k_aload_n dX2_perform_144 0 rfl rfl (by decide) ?_
  refine k_get (kf := 0) (v := .ref 1) dX2_perform_145 kcX2 w_262 (by decide) (by decide) (s_23 hsh) rfl rfl ?_
  refine k_iload_n dX2_perform_148 2 rfl rfl ?_
  refine k_iload_n dX2_perform_149 3 rfl rfl ?_
  refine k_callVr (st := []) (as := [.int (iI (a)), .int (iI (b))]) dX2_perform_150 oX5_newReserve w_854 w_855 w_856 rfl (by omega) rfl (Nat.le_of_ble_eq_true rfl) (by decide) (s_1 hsh) rfl (c_newReserve hsh hI ⟨by omega, by omega⟩ ⟨by omega, by omega⟩ (by omega)) ?_
  exact k_reti dX2_perform_153 rfl rfl (by rfl)
set_option maxHeartbeats 4000000 in
theorem c_perform_7 (hsh : k_Main sh) (hI : k_Ty σ) (hS : k_Sc σ) (hC : k_Ch σ) (hA : k_Ar σ) {a b c : Int} (ha : -2147483648 ≤ a ∧ a < 2147483648) (hb : -2147483648 ≤ b ∧ b < 2147483648) (hc : -2147483648 ≤ c ∧ c < 2147483648) (h0 : e_enrol σ a = 0) : k_C E mX2_perform 13 [.ref 23, .int (iI (7)), .int (iI (a)), .int (iI (b)), .int (iI (c))] sh σ 0 0 (k_ret (some (.int (iI ((f_best (u_roomy σ a)).2.2 / 2)))) sh (u_give σ a)) := by
  refine k_C_of (ls0 := [(0, .ref 23), (1, .int (iI (7))), (2, .int (iI (a))), (3, .int (iI (b))), (4, .int (iI (c)))]) rfl pnX2 (fun v hv => k_cat1 rfl hv) (Nat.le_of_ble_eq_true rfl) rfl ?_
  obtain ⟨t0, t1, t2, t3, t4, t5, t6, t7, t8, t9, t10, t11⟩ := id hI
  have q1 := e_enrol_0 h0
  refine k_iload_n dX2_perform_0 1 rfl rfl ?_
  refine k_tableIn (tgt := 154) dX2_perform_1 ⟨by decide, by decide⟩ (by decide) (by decide) rfl rfl ?_
  refine k_aload_n dX2_perform_154 0 rfl rfl (by decide) ?_
  refine k_get (kf := 1) (v := .ref 10) dX2_perform_155 kcX2 w_263 (by decide) (by decide) (s_23 hsh) rfl rfl ?_
  refine k_iload_n dX2_perform_158 2 rfl rfl ?_
  refine k_callVr (st := []) (as := [.int (iI (a))]) dX2_perform_159 oX4_giveBest w_858 w_467 w_468 rfl (by omega) rfl (Nat.le_of_ble_eq_true rfl) (by decide) (s_10 hsh) rfl (c_giveBest hsh hI hS ⟨by omega, by omega⟩ (by omega)) ?_
  exact k_reti dX2_perform_162 rfl rfl (by rfl)
set_option maxHeartbeats 4000000 in
theorem c_perform_8 (hsh : k_Main sh) (hI : k_Ty σ) (hS : k_Sc σ) (hC : k_Ch σ) (hA : k_Ar σ) {a b c : Int} (ha : -2147483648 ≤ a ∧ a < 2147483648) (hb : -2147483648 ≤ b ∧ b < 2147483648) (hc : -2147483648 ≤ c ∧ c < 2147483648) (h0 : e_join σ a b = 0) : k_C E mX2_perform 13 [.ref 23, .int (iI (8)), .int (iI (a)), .int (iI (b)), .int (iI (c))] sh σ 0 0 (k_ret (some (.int (iI (f_few σ b (f_free σ a))))) sh (u_car σ a b)) := by
  refine k_C_of (ls0 := [(0, .ref 23), (1, .int (iI (8))), (2, .int (iI (a))), (3, .int (iI (b))), (4, .int (iI (c)))]) rfl pnX2 (fun v hv => k_cat1 rfl hv) (Nat.le_of_ble_eq_true rfl) rfl ?_
  obtain ⟨t0, t1, t2, t3, t4, t5, t6, t7, t8, t9, t10, t11⟩ := id hI
  have q0 := e_join_0 h0
  have q1 := e_joiner_0 q0.1
  have hne := q0.2
  refine k_iload_n dX2_perform_0 1 rfl rfl ?_
  refine k_tableIn (tgt := 163) dX2_perform_1 ⟨by decide, by decide⟩ (by decide) (by decide) rfl rfl ?_
  refine k_aload_n dX2_perform_163 0 rfl rfl (by decide) ?_
  refine k_get (kf := 2) (v := .ref 14) dX2_perform_164 kcX2 w_264 (by decide) (by decide) (s_23 hsh) rfl rfl ?_
  refine k_iload_n dX2_perform_167 2 rfl rfl ?_
  refine k_iload_n dX2_perform_168 3 rfl rfl ?_
  refine k_callVr (st := []) (as := [.int (iI (a)), .int (iI (b))]) dX2_perform_169 oX1_carryOut w_859 w_860 w_861 rfl (by omega) rfl (Nat.le_of_ble_eq_true rfl) (by decide) (s_14 hsh) rfl (c_carryOut hsh hI hC ⟨by omega, by omega⟩ ⟨by omega, by omega⟩ (by omega) hne) ?_
  exact k_reti dX2_perform_172 rfl rfl (by rfl)
set_option maxHeartbeats 4000000 in
theorem c_perform_9 (hsh : k_Main sh) (hI : k_Ty σ) (hS : k_Sc σ) (hC : k_Ch σ) (hA : k_Ar σ) {a b c : Int} (ha : -2147483648 ≤ a ∧ a < 2147483648) (hb : -2147483648 ≤ b ∧ b < 2147483648) (hc : -2147483648 ≤ c ∧ c < 2147483648) (h0 : e_quit σ a b = 0) : k_C E mX2_perform 13 [.ref 23, .int (iI (9)), .int (iI (a)), .int (iI (b)), .int (iI (c))] sh σ 0 0 (k_ret (some (.int (iI (f_taken σ a b)))) sh (u_quit σ a b)) := by
  refine k_C_of (ls0 := [(0, .ref 23), (1, .int (iI (9))), (2, .int (iI (a))), (3, .int (iI (b))), (4, .int (iI (c)))]) rfl pnX2 (fun v hv => k_cat1 rfl hv) (Nat.le_of_ble_eq_true rfl) rfl ?_
  obtain ⟨t0, t1, t2, t3, t4, t5, t6, t7, t8, t9, t10, t11⟩ := id hI
  have q1 := e_quit_0 h0
  refine k_iload_n dX2_perform_0 1 rfl rfl ?_
  refine k_tableIn (tgt := 173) dX2_perform_1 ⟨by decide, by decide⟩ (by decide) (by decide) rfl rfl ?_
  refine k_aload_n dX2_perform_173 0 rfl rfl (by decide) ?_
  refine k_get (kf := 0) (v := .ref 1) dX2_perform_174 kcX2 w_262 (by decide) (by decide) (s_23 hsh) rfl rfl ?_
  refine k_iload_n dX2_perform_177 2 rfl rfl ?_
  refine k_iload_n dX2_perform_178 3 rfl rfl ?_
  refine k_callVr (st := []) (as := [.int (iI (a)), .int (iI (b))]) dX2_perform_179 oX5_dropLesson w_883 w_884 w_885 rfl (by omega) rfl (Nat.le_of_ble_eq_true rfl) (by decide) (s_1 hsh) rfl (c_dropLesson hsh hI ⟨by omega, by omega⟩ ⟨by omega, by omega⟩ (by omega)) ?_
  exact k_reti dX2_perform_182 rfl rfl (by rfl)
set_option maxHeartbeats 4000000 in
theorem c_perform_10 (hsh : k_Main sh) (hI : k_Ty σ) (hS : k_Sc σ) (hC : k_Ch σ) (hA : k_Ar σ) {a b c : Int} (ha : -2147483648 ≤ a ∧ a < 2147483648) (hb : -2147483648 ≤ b ∧ b < 2147483648) (hc : -2147483648 ≤ c ∧ c < 2147483648) (h0 : e_change σ a b c = 0) (hch : f_few (u_quit σ a b) c (f_free (u_quit σ a b) a) ≠ -1) : k_C E mX2_perform 13 [.ref 23, .int (iI (10)), .int (iI (a)), .int (iI (b)), .int (iI (c))] sh σ 0 0 (k_ret (some (.int (iI (f_few (u_quit σ a b) c (f_free (u_quit σ a b) a))))) sh (u_car (u_quit σ a b) a c)) := by
  refine k_C_of (ls0 := [(0, .ref 23), (1, .int (iI (10))), (2, .int (iI (a))), (3, .int (iI (b))), (4, .int (iI (c)))]) rfl pnX2 (fun v hv => k_cat1 rfl hv) (Nat.le_of_ble_eq_true rfl) rfl ?_
  obtain ⟨t0, t1, t2, t3, t4, t5, t6, t7, t8, t9, t10, t11⟩ := id hI
  have q0 := e_change_0 h0
  have q1 := e_chg_0 q0.1
  refine k_iload_n dX2_perform_0 1 rfl rfl ?_
  refine k_tableIn (tgt := 183) dX2_perform_1 ⟨by decide, by decide⟩ (by decide) (by decide) rfl rfl ?_
  refine k_aload_n dX2_perform_183 0 rfl rfl (by decide) ?_
  refine k_get (kf := 0) (v := .ref 1) dX2_perform_184 kcX2 w_262 (by decide) (by decide) (s_23 hsh) rfl rfl ?_
  refine k_iload_n dX2_perform_187 2 rfl rfl ?_
  refine k_iload_n dX2_perform_188 3 rfl rfl ?_
  refine k_callVr (st := []) (as := [.int (iI (a)), .int (iI (b))]) dX2_perform_189 oX5_dropLesson w_883 w_884 w_885 rfl (by omega) rfl (Nat.le_of_ble_eq_true rfl) (by decide) (s_1 hsh) rfl (c_dropLesson hsh hI ⟨by omega, by omega⟩ ⟨by omega, by omega⟩ (by omega)) ?_
  refine k_pop dX2_perform_192 rfl ?_
  refine k_aload_n dX2_perform_193 0 rfl rfl (by decide) ?_
  refine k_get (kf := 2) (v := .ref 14) dX2_perform_194 kcX2 w_264 (by decide) (by decide) (s_23 hsh) rfl rfl ?_
  refine k_iload_n dX2_perform_197 2 rfl rfl ?_
  refine k_iload dX2_perform_198 4 rfl ?_
  refine k_callVr (st := []) (as := [.int (iI (a)), .int (iI (c))]) dX2_perform_200 oX1_carryOut w_859 w_860 w_861 rfl (by omega) rfl (Nat.le_of_ble_eq_true rfl) (by decide) (s_14 hsh) rfl (c_carryOut hsh (u_leave_ty hI) (u_leave_ch hC) ⟨by omega, by omega⟩ ⟨by omega, by omega⟩ (by omega) hch) ?_
  exact k_reti dX2_perform_203 rfl rfl (by rfl)
set_option maxHeartbeats 4000000 in
theorem c_perform_11 (hsh : k_Main sh) (hI : k_Ty σ) (hS : k_Sc σ) (hC : k_Ch σ) (hA : k_Ar σ) {a b c : Int} (ha : -2147483648 ≤ a ∧ a < 2147483648) (hb : -2147483648 ≤ b ∧ b < 2147483648) (hc : -2147483648 ≤ c ∧ c < 2147483648) (h0 : e_arrange σ = 0) : k_C E mX2_perform 13 [.ref 23, .int (iI (11)), .int (iI (a)), .int (iI (b)), .int (iI (c))] sh σ 0 0 (k_ret (some (.int (iI ((f_abest σ).2.2.2)))) sh (u_arr σ)) := by
  refine k_C_of (ls0 := [(0, .ref 23), (1, .int (iI (11))), (2, .int (iI (a))), (3, .int (iI (b))), (4, .int (iI (c)))]) rfl pnX2 (fun v hv => k_cat1 rfl hv) (Nat.le_of_ble_eq_true rfl) rfl ?_
  obtain ⟨t0, t1, t2, t3, t4, t5, t6, t7, t8, t9, t10, t11⟩ := id hI
  refine k_iload_n dX2_perform_0 1 rfl rfl ?_
  refine k_tableIn (tgt := 204) dX2_perform_1 ⟨by decide, by decide⟩ (by decide) (by decide) rfl rfl ?_
  refine k_aload_n dX2_perform_204 0 rfl rfl (by decide) ?_
  refine k_get (kf := 3) (v := .ref 18) dX2_perform_205 kcX2 w_265 (by decide) (by decide) (s_23 hsh) rfl rfl ?_
  refine k_callVr (st := []) (as := []) dX2_perform_208 oX0_carryOut w_887 w_888 w_889 rfl (by omega) rfl (Nat.le_of_ble_eq_true rfl) (by decide) (s_18 hsh) rfl (c_carryOutA hsh hI hA) ?_
  exact k_reti dX2_perform_211 rfl rfl (by rfl)
theorem c_perform (hsh : k_Main sh) (hI : k_Ty σ) (hS : k_Sc σ) (hC : k_Ch σ) (hA : k_Ar σ) {m a b c : Int} (hm : 0 ≤ m ∧ m < 12) (ha : -2147483648 ≤ a ∧ a < 2147483648) (hb : -2147483648 ≤ b ∧ b < 2147483648) (hc : -2147483648 ≤ c ∧ c < 2147483648) (h0 : e_fault σ m a b c = 0) (hch : m = 10 → f_few (u_quit σ a b) c (f_free (u_quit σ a b) a) ≠ -1) : k_C E mX2_perform 13 [.ref 23, .int (iI m), .int (iI a), .int (iI b), .int (iI c)] sh σ 0 0 (k_ret (some (.int (iI (f_perf σ m a b c)))) sh (u_perf σ m a b c)) := by
  have h : m = 0 ∨ m = 1 ∨ m = 2 ∨ m = 3 ∨ m = 4 ∨ m = 5 ∨ m = 6 ∨ m = 7 ∨ m = 8 ∨ m = 9 ∨ m = 10 ∨ m = 11 := by omega
  rcases h with rfl | rfl | rfl | rfl | rfl | rfl | rfl | rfl | rfl | rfl | rfl | rfl
  · exact c_perform_0 hsh hI hS hC hA ha hb hc h0
  · exact c_perform_1 hsh hI hS hC hA ha hb hc h0
  · exact c_perform_2 hsh hI hS hC hA ha hb hc h0
  · exact c_perform_3 hsh hI hS hC hA ha hb hc h0
  · exact c_perform_4 hsh hI hS hC hA ha hb hc h0
  · exact c_perform_5 hsh hI hS hC hA ha hb hc h0
  · exact c_perform_6 hsh hI hS hC hA ha hb hc h0
  · exact c_perform_7 hsh hI hS hC hA ha hb hc h0
  · exact c_perform_8 hsh hI hS hC hA ha hb hc h0
  · exact c_perform_9 hsh hI hS hC hA ha hb hc h0
  · exact c_perform_10 hsh hI hS hC hA ha hb hc h0 (hch rfl)
  · exact c_perform_11 hsh hI hS hC hA ha hb hc h0
end K_Z
