/-! ===== THE FACE: modifications ===== -/
section K_FB
variable {E : k_E} {M M1 : k_M} {dp d1 pc k n k1 n1 na : Nat} {ls : List (Nat × Value)} {st as : List Value} {sh : List k_Sh} {σ σ' : Nat → Nat → Int} {Q Q1 : k_Q} {o : Option Value}
/-- the exception of a kind of fault -/
def x_of (k : Int) : String := if k = 1 then x_io else if k = 2 then x_ia else if k = 3 then x_is else x_uo
def r_thr (k : Int) : Option Value ⊕ String := if k = 0 then .inl none else .inr (x_of k)
set_option maxHeartbeats 4000000 in
theorem c_throwFault_0  : k_C E mX7_throwFault 6 [.int (iI (0))] sh σ 1 6 (k_rx (r_thr 0) sh (σ)) := by
  refine k_C_of (ls0 := [(0, .int (iI (0)))]) rfl pnX7 (fun v hv => k_cat1 rfl hv) (Nat.le_of_ble_eq_true rfl) rfl ?_
  refine k_iload_n dX7_throwFault_0 0 rfl rfl ?_
  refine k_tableOut (tgt := 76) dX7_throwFault_1 ⟨by decide, by decide⟩ (by decide) rfl ?_
  exact k_ret_v dX7_throwFault_76 rfl ⟨(rfl), rfl, (rfl)⟩
set_option maxHeartbeats 4000000 in
theorem c_throwFault_1  : k_C E mX7_throwFault 6 [.int (iI (1))] sh σ 1 6 (k_rx (r_thr 1) sh (σ)) := by
  refine k_C_of (ls0 := [(0, .int (iI (1)))]) rfl pnX7 (fun v hv => k_cat1 rfl hv) (Nat.le_of_ble_eq_true rfl) rfl ?_
  refine k_iload_n dX7_throwFault_0 0 rfl rfl ?_
  refine k_tableIn (tgt := 32) dX7_throwFault_1 ⟨by decide, by decide⟩ (by decide) (by decide) rfl rfl ?_
  exact k_throwW dX7_throwFault_32 dX7_throwFault_35 dX7_throwFault_36 dX7_throwFault_39 dX7_throwFault_42 rfl th_io w_756 (by decide) (Nat.le_of_ble_eq_true rfl) ⟨(rfl), rfl, (rfl)⟩
set_option maxHeartbeats 4000000 in
theorem c_throwFault_2  : k_C E mX7_throwFault 6 [.int (iI (2))] sh σ 1 6 (k_rx (r_thr 2) sh (σ)) := by
  refine k_C_of (ls0 := [(0, .int (iI (2)))]) rfl pnX7 (fun v hv => k_cat1 rfl hv) (Nat.le_of_ble_eq_true rfl) rfl ?_
  refine k_iload_n dX7_throwFault_0 0 rfl rfl ?_
  refine k_tableIn (tgt := 43) dX7_throwFault_1 ⟨by decide, by decide⟩ (by decide) (by decide) rfl rfl ?_
  exact k_throwW dX7_throwFault_43 dX7_throwFault_46 dX7_throwFault_47 dX7_throwFault_50 dX7_throwFault_53 rfl th_ia w_791 (by decide) (Nat.le_of_ble_eq_true rfl) ⟨(rfl), rfl, (rfl)⟩
set_option maxHeartbeats 4000000 in
theorem c_throwFault_3  : k_C E mX7_throwFault 6 [.int (iI (3))] sh σ 1 6 (k_rx (r_thr 3) sh (σ)) := by
  refine k_C_of (ls0 := [(0, .int (iI (3)))]) rfl pnX7 (fun v hv => k_cat1 rfl hv) (Nat.le_of_ble_eq_true rfl) rfl ?_
  refine k_iload_n dX7_throwFault_0 0 rfl rfl ?_
  refine k_tableIn (tgt := 54) dX7_throwFault_1 ⟨by decide, by decide⟩ (by decide) (by decide) rfl rfl ?_
  exact k_throwW dX7_throwFault_54 dX7_throwFault_57 dX7_throwFault_58 dX7_throwFault_61 dX7_throwFault_64 rfl th_is w_807 (by decide) (Nat.le_of_ble_eq_true rfl) ⟨(rfl), rfl, (rfl)⟩
set_option maxHeartbeats 4000000 in
theorem c_throwFault_4  : k_C E mX7_throwFault 6 [.int (iI (4))] sh σ 1 6 (k_rx (r_thr 4) sh (σ)) := by
  refine k_C_of (ls0 := [(0, .int (iI (4)))]) rfl pnX7 (fun v hv => k_cat1 rfl hv) (Nat.le_of_ble_eq_true rfl) rfl ?_
  refine k_iload_n dX7_throwFault_0 0 rfl rfl ?_
  refine k_tableIn (tgt := 65) dX7_throwFault_1 ⟨by decide, by decide⟩ (by decide) (by decide) rfl rfl ?_
  exact k_throwW dX7_throwFault_65 dX7_throwFault_68 dX7_throwFault_69 dX7_throwFault_72 dX7_throwFault_75 rfl th_uo w_823 (by decide) (Nat.le_of_ble_eq_true rfl) ⟨(rfl), rfl, (rfl)⟩
theorem r_thr_x {k : Int} {X : String} (h : r_thr k = .inr X) : ¬ k = 0 ∧ X = x_of k := by
  unfold r_thr at h
  by_cases e : k = 0
  · rw [if_pos e] at h; cases h
  · rw [if_neg e] at h; cases h; exact ⟨e, rfl⟩
theorem r_thr_v {k : Int} {v : Option Value} (h : r_thr k = .inl v) : k = 0 ∧ v = none := by
  unfold r_thr at h
  by_cases e : k = 0
  · rw [if_pos e] at h; cases h; exact ⟨e, rfl⟩
  · rw [if_neg e] at h; cases h
theorem c_throwFault {k : Int} (hk : 0 ≤ k ∧ k ≤ 4) : k_C E mX7_throwFault 6 [.int (iI k)] sh σ 1 6 (k_rx (r_thr k) sh σ) := by
  have h : k = 0 ∨ k = 1 ∨ k = 2 ∨ k = 3 ∨ k = 4 := by omega
  rcases h with rfl | rfl | rfl | rfl | rfl
  · exact c_throwFault_0
  · exact c_throwFault_1
  · exact c_throwFault_2
  · exact c_throwFault_3
  · exact c_throwFault_4
theorem c_throwFault00 : k_C E mX7_throwFault 6 [.int (iI 0)] sh σ 0 0 (k_ret none sh σ) := by
  refine k_C_of (ls0 := [(0, .int (iI 0))]) rfl pnX7 (fun v hv => k_cat1 rfl hv) (Nat.le_of_ble_eq_true rfl) rfl ?_
  refine k_iload_n dX7_throwFault_0 0 rfl rfl ?_
  refine k_tableOut (tgt := 76) dX7_throwFault_1 ⟨by decide, by decide⟩ (by decide) rfl ?_
  exact k_retv dX7_throwFault_76 rfl rfl
theorem k_thrF {idx : Nat} {e : Int} (hd : decode M.2.1 pc = .ok (.invokestatic idx, 3)) (hl : Cond.methodLink M.1.cls idx yX7_throwFault ∈ k_TBL) (hs : Cond.static yX7_throwFault ∈ k_TBL) (hhM : M.2.2.2.2 = []) (he : 0 ≤ e ∧ e ≤ 4) (hdp : 7 ≤ dp) (hcat : (st.map fun v => v.category).sum ≤ 8) (kt : e = 0 → k_V E M dp (pc + 3) ls st sh σ (1 + k) (6 + n) Q) (kf : ¬ e = 0 → Q (.inr (x_of e)) sh σ) : k_V E M dp pc ls (.int (iI e) :: st) sh σ (1 + k) (6 + n) Q := by
  by_cases h : e = 0
  · subst h
    exact k_callSr (d1 := 6) (as := [.int (iI 0)]) (o := none) hd oX7_throwFault hl hs rfl hdp rfl hcat c_throwFault00 (kt rfl)
  · refine k_callSx (as := [.int (iI e)]) hd oX7_throwFault hl hs rfl hhM hdp rfl hcat (c_throwFault he) (fun v hv => ?_) (fun X hX => ?_)
    · exact absurd (r_thr_v hv).1 h
    · rw [(r_thr_x hX).2]
      exact kf h
theorem e_joinr (σ : Nat → Nat → Int) (p s : Int) : 0 ≤ e_join σ p s ∧ e_join σ p s ≤ 4 := by
  have := e_joiner_r σ p s
  unfold e_join e_seek
  (repeat' split) <;> omega
theorem e_change_r (σ : Nat → Nat → Int) (p a b : Int) : 0 ≤ e_change σ p a b ∧ e_change σ p a b ≤ 4 := by
  unfold e_change e_seek e_chg
  (repeat' split) <;> omega
theorem e_fault_r (σ : Nat → Nat → Int) (m a b c : Int) : 0 ≤ e_fault σ m a b c ∧ e_fault σ m a b c ≤ 4 := by
  have h1 := e_joinr σ a b
  have h2 := e_change_r σ a b c
  have h3 := e_reserve_r σ a b
  unfold e_fault
  split
  · unfold e_subject; (repeat' split) <;> decide
  · unfold e_blocks; (repeat' split) <;> decide
  · unfold e_open; (repeat' split) <;> decide
  · unfold e_close; (repeat' split) <;> decide
  · unfold e_pupil; (repeat' split) <;> decide
  · unfold e_wish; (repeat' split) <;> omega
  · omega
  · unfold e_enrol; (repeat' split) <;> decide
  · exact h1
  · unfold e_quit; (repeat' split) <;> decide
  · exact h2
  · unfold e_arrange; (repeat' split) <;> decide
/-- all that the class's own cells keep to -/
def k_OK (σ : Nat → Nat → Int) : Prop := k_Ty σ ∧ k_Sc σ ∧ k_Ch σ ∧ k_Ar σ ∧ k_Hi σ
theorem k_Sc_of {τ : Nat → Nat → Int} (h : k_Sc σ) (h1 : τ 11 = σ 11) (h2 : τ 12 = σ 12) (h3 : τ 13 = σ 13) : k_Sc τ := by unfold k_Sc at h ⊢; rw [h1, h2, h3]; exact h
theorem k_Ch_of {τ : Nat → Nat → Int} (h : k_Ch σ) (h1 : τ 15 = σ 15) (h2 : τ 16 = σ 16) (h3 : τ 17 = σ 17) : k_Ch τ := by unfold k_Ch at h ⊢; rw [h1, h2, h3]; exact h
theorem k_Ar_of {τ : Nat → Nat → Int} (h : k_Ar σ) (h1 : τ 19 = σ 19) (h2 : τ 20 = σ 20) (h3 : τ 21 = σ 21) (h4 : τ 22 = σ 22) : k_Ar τ := by unfold k_Ar at h ⊢; rw [h1, h2, h3, h4]; exact h
theorem k_Hi_of {τ : Nat → Nat → Int} (h : k_Hi σ) (h1 : τ 24 = σ 24) (h2 : τ 25 = σ 25) : k_Hi τ := by unfold k_Hi at h ⊢; rw [h1, h2]; exact h
theorem k_OK_fault (h : k_OK σ) (m a b c : Int) : k_OK (u_fault σ m a b c) := by
  obtain ⟨hI, hS, hC, hA, hH⟩ := h
  refine ⟨(u_fault_pl m a b c).ty hI, k_Sc_of hS ?_ ?_ ?_, u_fault_ch hI hC m a b c, k_Ar_of hA ?_ ?_ ?_ ?_, k_Hi_of hH ?_ ?_⟩ <;> exact u_fault_ne _ _ _ _ (by decide)
theorem k_OK_keep {B : Nat} (h : k_OK σ) : k_OK (u_keepB σ B) := by
  obtain ⟨hI, hS, hC, hA, hH⟩ := h
  have hn := hH.2.1
  have e : ∀ i, i < 24 → u_keepB σ B i = σ i := fun i hi => u_keepB_ne hn (Or.inl hi)
  refine ⟨(u_keepB_pl hn).ty hI, k_Sc_of hS (e _ (by decide)) (e _ (by decide)) (e _ (by decide)), k_Ch_of hC (e _ (by decide)) (e _ (by decide)) (e _ (by decide)), k_Ar_of hA (e _ (by decide)) (e _ (by decide)) (e _ (by decide)) (e _ (by decide)), ?_, ?_, ?_⟩
  · intro j hj
    have : u_keepB σ B 25 = σ 25 := by unfold u_keepB; rw [k_up_ne (by decide), u_copy_ne (by omega)]
    rw [this]
    exact hH.1 j hj
  · show 0 ≤ (if σ 24 1 + 1 < 8 then σ 24 1 + 1 else 0) ∧ (if σ 24 1 + 1 < 8 then σ 24 1 + 1 else 0) < 8
    split <;> omega
  · show 0 ≤ z_min (σ 24 2 + 1) 8 ∧ z_min (σ 24 2 + 1) 8 ≤ 8
    have := hH.2.2
    unfold z_min
    split <;> omega
def u_kept (σ : Nat → Nat → Int) (m a b c : Int) : Nat → Nat → Int := u_keepB (u_fault σ m a b c) 1
def r_make (σ : Nat → Nat → Int) (m a b c : Int) : Option Value ⊕ String := if e_fault σ m a b c = 0 then .inl (some (.int (iI (f_perf (u_kept σ m a b c) m a b c)))) else .inr (x_of (e_fault σ m a b c))
def u_make (σ : Nat → Nat → Int) (m a b c : Int) : Nat → Nat → Int := if e_fault σ m a b c = 0 then u_perf (u_kept σ m a b c) m a b c else u_fault σ m a b c
/-- for a change: there is a chain once the pupil has quit -/
def k_chg (σ : Nat → Nat → Int) (m a b c : Int) : Prop := m = 10 → f_few (u_quit (u_kept σ m a b c) a b) c (f_free (u_quit (u_kept σ m a b c) a b) a) ≠ -1
set_option maxHeartbeats 4000000 in
theorem c_make (hsh : k_Main sh) (hOK : k_OK σ) {m a b c : Int} (hm : 0 ≤ m ∧ m < 12) (ha : -2147483648 ≤ a ∧ a < 2147483648) (hb : -2147483648 ≤ b ∧ b < 2147483648) (hc : -2147483648 ≤ c ∧ c < 2147483648) (hch : k_chg σ m a b c)  : k_C E mX7_make 14 [.ref 0, .int (iI (m)), .int (iI (a)), .int (iI (b)), .int (iI (c))] sh σ 1 6 (k_rx (r_make σ m a b c) sh (u_make σ m a b c)) := by
  refine k_C_of (ls0 := [(0, .ref 0), (1, .int (iI (m))), (2, .int (iI (a))), (3, .int (iI (b))), (4, .int (iI (c)))]) rfl pnX7 (fun v hv => k_cat1 rfl hv) (Nat.le_of_ble_eq_true rfl) rfl ?_
  have he := e_fault_r σ m a b c
  refine k_aload_n dX7_make_0 0 rfl rfl (by decide) ?_
  refine k_get (kf := 4) (v := .ref 23) dX7_make_1 kcX7 w_362 (by decide) (by decide) (s_0 hsh) rfl rfl ?_
  refine k_iload_n dX7_make_4 1 rfl rfl ?_
  refine k_iload_n dX7_make_5 2 rfl rfl ?_
  refine k_iload_n dX7_make_6 3 rfl rfl ?_
  refine k_iload dX7_make_7 4 rfl ?_
  refine k_callVr (st := []) (as := [.int (iI (m)), .int (iI (a)), .int (iI (b)), .int (iI (c))]) dX7_make_9 oX2_faultOf w_616 w_617 w_618 rfl (by omega) rfl (Nat.le_of_ble_eq_true rfl) (by decide) (s_23 hsh) rfl (c_faultOf hsh hOK.1 hOK.2.2.1 hm ha hb hc) ?_
  refine k_thrF (k := 0) (n := 0) (st := []) dX7_make_12 w_707 w_708 rfl he (by omega) (Nat.le_of_ble_eq_true rfl) (fun h0 => ?_) (fun h0 => ⟨by unfold r_make; rw [if_neg h0], rfl, by unfold u_make; rw [if_neg h0]⟩)
  have hK : k_OK (u_kept σ m a b c) := k_OK_keep (k_OK_fault hOK m a b c)
  have hf : e_fault (u_kept σ m a b c) m a b c = 0 := (((u_keepB_pl (k_OK_fault hOK m a b c).2.2.2.2.2.1).trans (u_fault_pl m a b c)).fault m a b c).trans h0
  refine k_aload_n dX7_make_15 0 rfl rfl (by decide) ?_
  refine k_get (kf := 5) (v := .ref 24) dX7_make_16 kcX7 w_363 (by decide) (by decide) (s_0 hsh) rfl rfl ?_
  refine k_aload_n dX7_make_19 0 rfl rfl (by decide) ?_
  refine k_get (kf := 0) (v := .ref 1) dX7_make_20 kcX7 w_358 (by decide) (by decide) (s_0 hsh) rfl rfl ?_
  refine k_callVr (st := []) (as := [.ref 1]) dX7_make_23 oX3_keep w_417 w_418 w_419 rfl (by omega) rfl (Nat.le_of_ble_eq_true rfl) (by decide) (s_24 hsh) rfl (c_keep hsh (k_OK_fault hOK m a b c).2.2.2.2 (k_plat1 hsh) ⟨by decide, by decide⟩) ?_
  refine k_aload_n dX7_make_26 0 rfl rfl (by decide) ?_
  refine k_get (kf := 4) (v := .ref 23) dX7_make_27 kcX7 w_362 (by decide) (by decide) (s_0 hsh) rfl rfl ?_
  refine k_iload_n dX7_make_30 1 rfl rfl ?_
  refine k_iload_n dX7_make_31 2 rfl rfl ?_
  refine k_iload_n dX7_make_32 3 rfl rfl ?_
  refine k_iload dX7_make_33 4 rfl ?_
  refine k_callVr (st := []) (as := [.int (iI (m)), .int (iI (a)), .int (iI (b)), .int (iI (c))]) dX7_make_35 oX2_perform w_830 w_831 w_832 rfl (by omega) rfl (Nat.le_of_ble_eq_true rfl) (by decide) (s_23 hsh) rfl (c_perform hsh hK.1 hK.2.1 hK.2.2.1 hK.2.2.2.1 hm ha hb hc hf hch) ?_
  exact k_ret_i dX7_make_38 rfl ⟨(by unfold r_make; rw [if_pos h0]), rfl, (by unfold u_make; rw [if_pos h0])⟩
set_option maxHeartbeats 4000000 in
theorem c7_addSubject (hsh : k_Main sh) (hOK : k_OK σ) {a : Int} (ha : -2147483648 ≤ a ∧ a < 2147483648) : k_C E mX7_addSubject 15 [.ref 0, .int (iI (a))] sh σ 1 6 (k_rx (r_make σ 0 a 0 0) sh (u_make σ 0 a 0 0)) := by
  refine k_C_of (ls0 := [(0, .ref 0), (1, .int (iI (a)))]) rfl pnX7 (fun v hv => k_cat1 rfl hv) (Nat.le_of_ble_eq_true rfl) rfl ?_
  refine k_aload_n dX7_addSubject_0 0 rfl rfl (by decide) ?_
  refine k_iconst (v := 0) dX7_addSubject_1 rfl ?_
  refine k_iload_n dX7_addSubject_2 1 rfl rfl ?_
  refine k_iconst (v := 0) dX7_addSubject_3 rfl ?_
  refine k_iconst (v := 0) dX7_addSubject_4 rfl ?_
  refine k_callVx (k := 0) (n := 0) (st := []) (as := [.int (iI (0)), .int (iI (a)), .int (iI (0)), .int (iI (0))]) dX7_addSubject_5 oX7_make w_612 w_614 w_7 rfl rfl (by decide) rfl (Nat.le_of_ble_eq_true rfl) (by decide) (s_0 hsh) rfl (c_make hsh hOK ⟨by decide, by decide⟩ ⟨by omega, by omega⟩ ⟨by omega, by omega⟩ ⟨by omega, by omega⟩ (fun e => absurd e (by decide))) (fun v hv => ?_) (fun X hX => ⟨hX.symm, rfl, rfl⟩)
  unfold r_make at hv
  by_cases h0 : e_fault σ 0 a 0 0 = 0
  rotate_left
  · rw [if_neg h0] at hv; cases hv
  rw [if_pos h0] at hv
  cases hv
  show k_V E mX7_addSubject 15 8 [(0, .ref 0), (1, .int (iI (a)))] [.int (iI (f_perf (u_kept σ 0 a 0 0) 0 a 0 0))] sh (u_make σ 0 a 0 0) 0 0 _
  exact k_ret_i dX7_addSubject_8 rfl ⟨(by unfold r_make; rw [if_pos h0]), rfl, (rfl)⟩
set_option maxHeartbeats 4000000 in
theorem c7_setBlockCount (hsh : k_Main sh) (hOK : k_OK σ) {a : Int} (ha : -2147483648 ≤ a ∧ a < 2147483648) : k_C E mX7_setBlockCount 15 [.ref 0, .int (iI (a))] sh σ 1 6 (k_rx (r_make σ 1 a 0 0) sh (u_make σ 1 a 0 0)) := by
  refine k_C_of (ls0 := [(0, .ref 0), (1, .int (iI (a)))]) rfl pnX7 (fun v hv => k_cat1 rfl hv) (Nat.le_of_ble_eq_true rfl) rfl ?_
  refine k_aload_n dX7_setBlockCount_0 0 rfl rfl (by decide) ?_
  refine k_iconst (v := 1) dX7_setBlockCount_1 rfl ?_
  refine k_iload_n dX7_setBlockCount_2 1 rfl rfl ?_
  refine k_iconst (v := 0) dX7_setBlockCount_3 rfl ?_
  refine k_iconst (v := 0) dX7_setBlockCount_4 rfl ?_
  refine k_callVx (k := 0) (n := 0) (st := []) (as := [.int (iI (1)), .int (iI (a)), .int (iI (0)), .int (iI (0))]) dX7_setBlockCount_5 oX7_make w_612 w_614 w_7 rfl rfl (by decide) rfl (Nat.le_of_ble_eq_true rfl) (by decide) (s_0 hsh) rfl (c_make hsh hOK ⟨by decide, by decide⟩ ⟨by omega, by omega⟩ ⟨by omega, by omega⟩ ⟨by omega, by omega⟩ (fun e => absurd e (by decide))) (fun v hv => ?_) (fun X hX => ⟨hX.symm, rfl, rfl⟩)
  unfold r_make at hv
  by_cases h0 : e_fault σ 1 a 0 0 = 0
  rotate_left
  · rw [if_neg h0] at hv; cases hv
  rw [if_pos h0] at hv
  cases hv
  show k_V E mX7_setBlockCount 15 8 [(0, .ref 0), (1, .int (iI (a)))] [.int (iI (f_perf (u_kept σ 1 a 0 0) 1 a 0 0))] sh (u_make σ 1 a 0 0) 0 0 _
  exact k_ret_i dX7_setBlockCount_8 rfl ⟨(by unfold r_make; rw [if_pos h0]), rfl, (rfl)⟩
set_option maxHeartbeats 4000000 in
theorem c7_openClass (hsh : k_Main sh) (hOK : k_OK σ) {a b : Int} (ha : -2147483648 ≤ a ∧ a < 2147483648) (hb : -2147483648 ≤ b ∧ b < 2147483648) : k_C E mX7_openClass 15 [.ref 0, .int (iI (a)), .int (iI (b))] sh σ 1 6 (k_rx (r_make σ 2 a b 0) sh (u_make σ 2 a b 0)) := by
  refine k_C_of (ls0 := [(0, .ref 0), (1, .int (iI (a))), (2, .int (iI (b)))]) rfl pnX7 (fun v hv => k_cat1 rfl hv) (Nat.le_of_ble_eq_true rfl) rfl ?_
  refine k_aload_n dX7_openClass_0 0 rfl rfl (by decide) ?_
  refine k_iconst (v := 2) dX7_openClass_1 rfl ?_
  refine k_iload_n dX7_openClass_2 1 rfl rfl ?_
  refine k_iload_n dX7_openClass_3 2 rfl rfl ?_
  refine k_iconst (v := 0) dX7_openClass_4 rfl ?_
  refine k_callVx (k := 0) (n := 0) (st := []) (as := [.int (iI (2)), .int (iI (a)), .int (iI (b)), .int (iI (0))]) dX7_openClass_5 oX7_make w_612 w_614 w_7 rfl rfl (by decide) rfl (Nat.le_of_ble_eq_true rfl) (by decide) (s_0 hsh) rfl (c_make hsh hOK ⟨by decide, by decide⟩ ⟨by omega, by omega⟩ ⟨by omega, by omega⟩ ⟨by omega, by omega⟩ (fun e => absurd e (by decide))) (fun v hv => ?_) (fun X hX => ⟨hX.symm, rfl, rfl⟩)
  unfold r_make at hv
  by_cases h0 : e_fault σ 2 a b 0 = 0
  rotate_left
  · rw [if_neg h0] at hv; cases hv
  rw [if_pos h0] at hv
  cases hv
  show k_V E mX7_openClass 15 8 [(0, .ref 0), (1, .int (iI (a))), (2, .int (iI (b)))] [.int (iI (f_perf (u_kept σ 2 a b 0) 2 a b 0))] sh (u_make σ 2 a b 0) 0 0 _
  exact k_ret_i dX7_openClass_8 rfl ⟨(by unfold r_make; rw [if_pos h0]), rfl, (rfl)⟩
set_option maxHeartbeats 4000000 in
theorem c7_addPupil (hsh : k_Main sh) (hOK : k_OK σ)  : k_C E mX7_addPupil 15 [.ref 0] sh σ 1 6 (k_rx (r_make σ 4 0 0 0) sh (u_make σ 4 0 0 0)) := by
  refine k_C_of (ls0 := [(0, .ref 0)]) rfl pnX7 (fun v hv => k_cat1 rfl hv) (Nat.le_of_ble_eq_true rfl) rfl ?_
  refine k_aload_n dX7_addPupil_0 0 rfl rfl (by decide) ?_
  refine k_iconst (v := 4) dX7_addPupil_1 rfl ?_
  refine k_iconst (v := 0) dX7_addPupil_2 rfl ?_
  refine k_iconst (v := 0) dX7_addPupil_3 rfl ?_
  refine k_iconst (v := 0) dX7_addPupil_4 rfl ?_
  refine k_callVx (k := 0) (n := 0) (st := []) (as := [.int (iI (4)), .int (iI (0)), .int (iI (0)), .int (iI (0))]) dX7_addPupil_5 oX7_make w_612 w_614 w_7 rfl rfl (by decide) rfl (Nat.le_of_ble_eq_true rfl) (by decide) (s_0 hsh) rfl (c_make hsh hOK ⟨by decide, by decide⟩ ⟨by omega, by omega⟩ ⟨by omega, by omega⟩ ⟨by omega, by omega⟩ (fun e => absurd e (by decide))) (fun v hv => ?_) (fun X hX => ⟨hX.symm, rfl, rfl⟩)
  unfold r_make at hv
  by_cases h0 : e_fault σ 4 0 0 0 = 0
  rotate_left
  · rw [if_neg h0] at hv; cases hv
  rw [if_pos h0] at hv
  cases hv
  show k_V E mX7_addPupil 15 8 [(0, .ref 0)] [.int (iI (f_perf (u_kept σ 4 0 0 0) 4 0 0 0))] sh (u_make σ 4 0 0 0) 0 0 _
  exact k_ret_i dX7_addPupil_8 rfl ⟨(by unfold r_make; rw [if_pos h0]), rfl, (rfl)⟩
set_option maxHeartbeats 4000000 in
theorem c7_addWish (hsh : k_Main sh) (hOK : k_OK σ) {a b : Int} (ha : -2147483648 ≤ a ∧ a < 2147483648) (hb : -2147483648 ≤ b ∧ b < 2147483648) : k_C E mX7_addWish 15 [.ref 0, .int (iI (a)), .int (iI (b))] sh σ 1 6 (k_rx (r_make σ 5 a b 0) sh (u_make σ 5 a b 0)) := by
  refine k_C_of (ls0 := [(0, .ref 0), (1, .int (iI (a))), (2, .int (iI (b)))]) rfl pnX7 (fun v hv => k_cat1 rfl hv) (Nat.le_of_ble_eq_true rfl) rfl ?_
  refine k_aload_n dX7_addWish_0 0 rfl rfl (by decide) ?_
  refine k_iconst (v := 5) dX7_addWish_1 rfl ?_
  refine k_iload_n dX7_addWish_2 1 rfl rfl ?_
  refine k_iload_n dX7_addWish_3 2 rfl rfl ?_
  refine k_iconst (v := 0) dX7_addWish_4 rfl ?_
  refine k_callVx (k := 0) (n := 0) (st := []) (as := [.int (iI (5)), .int (iI (a)), .int (iI (b)), .int (iI (0))]) dX7_addWish_5 oX7_make w_612 w_614 w_7 rfl rfl (by decide) rfl (Nat.le_of_ble_eq_true rfl) (by decide) (s_0 hsh) rfl (c_make hsh hOK ⟨by decide, by decide⟩ ⟨by omega, by omega⟩ ⟨by omega, by omega⟩ ⟨by omega, by omega⟩ (fun e => absurd e (by decide))) (fun v hv => ?_) (fun X hX => ⟨hX.symm, rfl, rfl⟩)
  unfold r_make at hv
  by_cases h0 : e_fault σ 5 a b 0 = 0
  rotate_left
  · rw [if_neg h0] at hv; cases hv
  rw [if_pos h0] at hv
  cases hv
  show k_V E mX7_addWish 15 8 [(0, .ref 0), (1, .int (iI (a))), (2, .int (iI (b)))] [.int (iI (f_perf (u_kept σ 5 a b 0) 5 a b 0))] sh (u_make σ 5 a b 0) 0 0 _
  exact k_ret_i dX7_addWish_8 rfl ⟨(by unfold r_make; rw [if_pos h0]), rfl, (rfl)⟩
set_option maxHeartbeats 4000000 in
theorem c7_setReserve (hsh : k_Main sh) (hOK : k_OK σ) {a b : Int} (ha : -2147483648 ≤ a ∧ a < 2147483648) (hb : -2147483648 ≤ b ∧ b < 2147483648) : k_C E mX7_setReserve 15 [.ref 0, .int (iI (a)), .int (iI (b))] sh σ 1 6 (k_rx (r_make σ 6 a b 0) sh (u_make σ 6 a b 0)) := by
  refine k_C_of (ls0 := [(0, .ref 0), (1, .int (iI (a))), (2, .int (iI (b)))]) rfl pnX7 (fun v hv => k_cat1 rfl hv) (Nat.le_of_ble_eq_true rfl) rfl ?_
  refine k_aload_n dX7_setReserve_0 0 rfl rfl (by decide) ?_
  refine k_bipush (v := 6) dX7_setReserve_1 (by decide) ?_
  refine k_iload_n dX7_setReserve_3 1 rfl rfl ?_
  refine k_iload_n dX7_setReserve_4 2 rfl rfl ?_
  refine k_iconst (v := 0) dX7_setReserve_5 rfl ?_
  refine k_callVx (k := 0) (n := 0) (st := []) (as := [.int (iI (6)), .int (iI (a)), .int (iI (b)), .int (iI (0))]) dX7_setReserve_6 oX7_make w_612 w_614 w_7 rfl rfl (by decide) rfl (Nat.le_of_ble_eq_true rfl) (by decide) (s_0 hsh) rfl (c_make hsh hOK ⟨by decide, by decide⟩ ⟨by omega, by omega⟩ ⟨by omega, by omega⟩ ⟨by omega, by omega⟩ (fun e => absurd e (by decide))) (fun v hv => ?_) (fun X hX => ⟨hX.symm, rfl, rfl⟩)
  unfold r_make at hv
  by_cases h0 : e_fault σ 6 a b 0 = 0
  rotate_left
  · rw [if_neg h0] at hv; cases hv
  rw [if_pos h0] at hv
  cases hv
  show k_V E mX7_setReserve 15 9 [(0, .ref 0), (1, .int (iI (a))), (2, .int (iI (b)))] [.int (iI (f_perf (u_kept σ 6 a b 0) 6 a b 0))] sh (u_make σ 6 a b 0) 0 0 _
  exact k_ret_i dX7_setReserve_9 rfl ⟨(by unfold r_make; rw [if_pos h0]), rfl, (rfl)⟩
set_option maxHeartbeats 4000000 in
theorem c7_enrol (hsh : k_Main sh) (hOK : k_OK σ) {a : Int} (ha : -2147483648 ≤ a ∧ a < 2147483648) : k_C E mX7_enrol 15 [.ref 0, .int (iI (a))] sh σ 1 6 (k_rx (r_make σ 7 a 0 0) sh (u_make σ 7 a 0 0)) := by
  refine k_C_of (ls0 := [(0, .ref 0), (1, .int (iI (a)))]) rfl pnX7 (fun v hv => k_cat1 rfl hv) (Nat.le_of_ble_eq_true rfl) rfl ?_
  refine k_aload_n dX7_enrol_0 0 rfl rfl (by decide) ?_
  refine k_bipush (v := 7) dX7_enrol_1 (by decide) ?_
  refine k_iload_n dX7_enrol_3 1 rfl rfl ?_
  refine k_iconst (v := 0) dX7_enrol_4 rfl ?_
  refine k_iconst (v := 0) dX7_enrol_5 rfl ?_
  refine k_callVx (k := 0) (n := 0) (st := []) (as := [.int (iI (7)), .int (iI (a)), .int (iI (0)), .int (iI (0))]) dX7_enrol_6 oX7_make w_612 w_614 w_7 rfl rfl (by decide) rfl (Nat.le_of_ble_eq_true rfl) (by decide) (s_0 hsh) rfl (c_make hsh hOK ⟨by decide, by decide⟩ ⟨by omega, by omega⟩ ⟨by omega, by omega⟩ ⟨by omega, by omega⟩ (fun e => absurd e (by decide))) (fun v hv => ?_) (fun X hX => ⟨hX.symm, rfl, rfl⟩)
  unfold r_make at hv
  by_cases h0 : e_fault σ 7 a 0 0 = 0
  rotate_left
  · rw [if_neg h0] at hv; cases hv
  rw [if_pos h0] at hv
  cases hv
  show k_V E mX7_enrol 15 9 [(0, .ref 0), (1, .int (iI (a)))] [.int (iI (f_perf (u_kept σ 7 a 0 0) 7 a 0 0))] sh (u_make σ 7 a 0 0) 0 0 _
  exact k_ret_i dX7_enrol_9 rfl ⟨(by unfold r_make; rw [if_pos h0]), rfl, (rfl)⟩
set_option maxHeartbeats 4000000 in
theorem c7_join (hsh : k_Main sh) (hOK : k_OK σ) {a b : Int} (ha : -2147483648 ≤ a ∧ a < 2147483648) (hb : -2147483648 ≤ b ∧ b < 2147483648) : k_C E mX7_join 15 [.ref 0, .int (iI (a)), .int (iI (b))] sh σ 1 6 (k_rx (r_make σ 8 a b 0) sh (u_make σ 8 a b 0)) := by
  refine k_C_of (ls0 := [(0, .ref 0), (1, .int (iI (a))), (2, .int (iI (b)))]) rfl pnX7 (fun v hv => k_cat1 rfl hv) (Nat.le_of_ble_eq_true rfl) rfl ?_
  refine k_aload_n dX7_join_0 0 rfl rfl (by decide) ?_
  refine k_bipush (v := 8) dX7_join_1 (by decide) ?_
  refine k_iload_n dX7_join_3 1 rfl rfl ?_
  refine k_iload_n dX7_join_4 2 rfl rfl ?_
  refine k_iconst (v := 0) dX7_join_5 rfl ?_
  refine k_callVx (k := 0) (n := 0) (st := []) (as := [.int (iI (8)), .int (iI (a)), .int (iI (b)), .int (iI (0))]) dX7_join_6 oX7_make w_612 w_614 w_7 rfl rfl (by decide) rfl (Nat.le_of_ble_eq_true rfl) (by decide) (s_0 hsh) rfl (c_make hsh hOK ⟨by decide, by decide⟩ ⟨by omega, by omega⟩ ⟨by omega, by omega⟩ ⟨by omega, by omega⟩ (fun e => absurd e (by decide))) (fun v hv => ?_) (fun X hX => ⟨hX.symm, rfl, rfl⟩)
  unfold r_make at hv
  by_cases h0 : e_fault σ 8 a b 0 = 0
  rotate_left
  · rw [if_neg h0] at hv; cases hv
  rw [if_pos h0] at hv
  cases hv
  show k_V E mX7_join 15 9 [(0, .ref 0), (1, .int (iI (a))), (2, .int (iI (b)))] [.int (iI (f_perf (u_kept σ 8 a b 0) 8 a b 0))] sh (u_make σ 8 a b 0) 0 0 _
  exact k_ret_i dX7_join_9 rfl ⟨(by unfold r_make; rw [if_pos h0]), rfl, (rfl)⟩
set_option maxHeartbeats 4000000 in
theorem c7_quit (hsh : k_Main sh) (hOK : k_OK σ) {a b : Int} (ha : -2147483648 ≤ a ∧ a < 2147483648) (hb : -2147483648 ≤ b ∧ b < 2147483648) : k_C E mX7_quit 15 [.ref 0, .int (iI (a)), .int (iI (b))] sh σ 1 6 (k_rx (r_make σ 9 a b 0) sh (u_make σ 9 a b 0)) := by
  refine k_C_of (ls0 := [(0, .ref 0), (1, .int (iI (a))), (2, .int (iI (b)))]) rfl pnX7 (fun v hv => k_cat1 rfl hv) (Nat.le_of_ble_eq_true rfl) rfl ?_
  refine k_aload_n dX7_quit_0 0 rfl rfl (by decide) ?_
  refine k_bipush (v := 9) dX7_quit_1 (by decide) ?_
  refine k_iload_n dX7_quit_3 1 rfl rfl ?_
  refine k_iload_n dX7_quit_4 2 rfl rfl ?_
  refine k_iconst (v := 0) dX7_quit_5 rfl ?_
  refine k_callVx (k := 0) (n := 0) (st := []) (as := [.int (iI (9)), .int (iI (a)), .int (iI (b)), .int (iI (0))]) dX7_quit_6 oX7_make w_612 w_614 w_7 rfl rfl (by decide) rfl (Nat.le_of_ble_eq_true rfl) (by decide) (s_0 hsh) rfl (c_make hsh hOK ⟨by decide, by decide⟩ ⟨by omega, by omega⟩ ⟨by omega, by omega⟩ ⟨by omega, by omega⟩ (fun e => absurd e (by decide))) (fun v hv => ?_) (fun X hX => ⟨hX.symm, rfl, rfl⟩)
  unfold r_make at hv
  by_cases h0 : e_fault σ 9 a b 0 = 0
  rotate_left
  · rw [if_neg h0] at hv; cases hv
  rw [if_pos h0] at hv
  cases hv
  show k_V E mX7_quit 15 9 [(0, .ref 0), (1, .int (iI (a))), (2, .int (iI (b)))] [.int (iI (f_perf (u_kept σ 9 a b 0) 9 a b 0))] sh (u_make σ 9 a b 0) 0 0 _
  exact k_ret_i dX7_quit_9 rfl ⟨(by unfold r_make; rw [if_pos h0]), rfl, (rfl)⟩
set_option maxHeartbeats 4000000 in
theorem c7_change (hsh : k_Main sh) (hOK : k_OK σ) {a b c : Int} (hch : k_chg σ 10 a b c) (ha : -2147483648 ≤ a ∧ a < 2147483648) (hb : -2147483648 ≤ b ∧ b < 2147483648) (hc : -2147483648 ≤ c ∧ c < 2147483648) : k_C E mX7_change 15 [.ref 0, .int (iI (a)), .int (iI (b)), .int (iI (c))] sh σ 1 6 (k_rx (r_make σ 10 a b c) sh (u_make σ 10 a b c)) := by
  refine k_C_of (ls0 := [(0, .ref 0), (1, .int (iI (a))), (2, .int (iI (b))), (3, .int (iI (c)))]) rfl pnX7 (fun v hv => k_cat1 rfl hv) (Nat.le_of_ble_eq_true rfl) rfl ?_
  refine k_aload_n dX7_change_0 0 rfl rfl (by decide) ?_
  refine k_bipush (v := 10) dX7_change_1 (by decide) ?_
  refine k_iload_n dX7_change_3 1 rfl rfl ?_
  refine k_iload_n dX7_change_4 2 rfl rfl ?_
  refine k_iload_n dX7_change_5 3 rfl rfl ?_
  refine k_callVx (k := 0) (n := 0) (st := []) (as := [.int (iI (10)), .int (iI (a)), .int (iI (b)), .int (iI (c))]) dX7_change_6 oX7_make w_612 w_614 w_7 rfl rfl (by decide) rfl (Nat.le_of_ble_eq_true rfl) (by decide) (s_0 hsh) rfl (c_make hsh hOK ⟨by decide, by decide⟩ ⟨by omega, by omega⟩ ⟨by omega, by omega⟩ ⟨by omega, by omega⟩ hch) (fun v hv => ?_) (fun X hX => ⟨hX.symm, rfl, rfl⟩)
  unfold r_make at hv
  by_cases h0 : e_fault σ 10 a b c = 0
  rotate_left
  · rw [if_neg h0] at hv; cases hv
  rw [if_pos h0] at hv
  cases hv
  show k_V E mX7_change 15 9 [(0, .ref 0), (1, .int (iI (a))), (2, .int (iI (b))), (3, .int (iI (c)))] [.int (iI (f_perf (u_kept σ 10 a b c) 10 a b c))] sh (u_make σ 10 a b c) 0 0 _
  exact k_ret_i dX7_change_9 rfl ⟨(by unfold r_make; rw [if_pos h0]), rfl, (rfl)⟩
end K_FB
