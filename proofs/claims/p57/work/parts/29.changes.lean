/-! ===== CHANGES: what keeps a modification from being made ===== -/
section K_Y
variable {E : k_E} {sh : List k_Sh} {σ : Nat → Nat → Int}
def e_joiner (σ : Nat → Nat → Int) (p s : Int) : Int := if (0 ≤ p ∧ p < σ 1 2) ∧ (0 ≤ s ∧ s < σ 1 0) then (if f_taken σ p s = -1 then 0 else 3) else 1
def e_subject (σ : Nat → Nat → Int) (z : Int) : Int := if 1 ≤ z ∧ z ≤ 9 then (if σ 1 0 < 7 then 0 else 3) else 2
def e_resize (σ : Nat → Nat → Int) (s z : Int) : Int := if 0 ≤ s ∧ s < σ 1 0 then (if 1 ≤ z ∧ z ≤ 9 then (if f_largest σ s ≤ z then 0 else 3) else 2) else 1
def e_blocks (σ : Nat → Nat → Int) (c : Int) : Int := if 1 ≤ c ∧ c ≤ 4 then (if ∀ s : Nat, s < (σ 1 0).toNat → f_open σ (s : Int) / z_one c = 0 then 0 else 3) else 2
def e_open (σ : Nat → Nat → Int) (s b : Int) : Int := if (0 ≤ s ∧ s < σ 1 0) ∧ (0 ≤ b ∧ b < σ 1 1) then (if z_bit (f_open σ s) b = true then 3 else 0) else 1
def e_close (σ : Nat → Nat → Int) (s b : Int) : Int := if (0 ≤ s ∧ s < σ 1 0) ∧ (0 ≤ b ∧ b < σ 1 1) then (if z_bit (f_open σ s) b = true ∧ f_roster σ s b = 0 then 0 else 3) else 1
def e_pupil (σ : Nat → Nat → Int) : Int := if 12 ≤ σ 1 2 then 3 else 0
def e_reserve (σ : Nat → Nat → Int) (p s : Int) : Int := if (0 ≤ p ∧ p < σ 1 2) ∧ (0 ≤ s ∧ s < σ 1 0) then (if z_bit (f_wishSet σ p) s = true ∨ σ 7 p.toNat = s then 3 else 0) else 1
def e_wish (σ : Nat → Nat → Int) (p s : Int) : Int := if e_reserve σ p s = 0 then (if 3 ≤ σ 5 p.toNat then 3 else 0) else e_reserve σ p s
def e_enrol (σ : Nat → Nat → Int) (p : Int) : Int := if 0 ≤ p ∧ p < σ 1 2 then (if 0 < f_lessons σ p ∨ σ 5 p.toNat ≤ 0 then 3 else 0) else 1
def e_withdraw (σ : Nat → Nat → Int) (p : Int) : Int := if 0 ≤ p ∧ p < σ 1 2 then (if f_lessons σ p = 0 then 3 else 0) else 1
def e_quit (σ : Nat → Nat → Int) (p s : Int) : Int := if (0 ≤ p ∧ p < σ 1 2) ∧ (0 ≤ s ∧ s < σ 1 0) then (if f_taken σ p s = -1 then 3 else 0) else 1
def e_arrange (σ : Nat → Nat → Int) : Int := if 0 < f_lessAll σ then 3 else 0
/-- the search for a chain, and the reason noted if there is none -/
def u_seek (σ : Nat → Nat → Int) (s f : Int) : Nat → Nat → Int := if f_few σ s f = -1 then k_up (u_few σ s) 23 (k_u1 (σ 23) 4 (f_reason σ s f)) else u_few σ s
def e_seek (σ : Nat → Nat → Int) (s f : Int) : Int := if f_few σ s f = -1 then 4 else 0
def e_join (σ : Nat → Nat → Int) (p s : Int) : Int := if e_joiner σ p s = 0 then e_seek σ s (f_free σ p) else e_joiner σ p s
def u_joinE (σ : Nat → Nat → Int) (p s : Int) : Nat → Nat → Int := if e_joiner σ p s = 0 then u_seek σ s (f_free σ p) else σ
def e_chg (σ : Nat → Nat → Int) (p a b : Int) : Int := if ((0 ≤ p ∧ p < σ 1 2) ∧ (0 ≤ a ∧ a < σ 1 0)) ∧ (0 ≤ b ∧ b < σ 1 0) then (if f_taken σ p a = -1 ∨ f_taken σ p b ≠ -1 then 3 else 0) else 1
def f_freeQ (σ : Nat → Nat → Int) (p a : Int) : Int := z_or (f_free σ p) (z_one (f_taken σ p a))
def e_change (σ : Nat → Nat → Int) (p a b : Int) : Int := if e_chg σ p a b = 0 then e_seek σ b (f_freeQ σ p a) else e_chg σ p a b
def u_changeE (σ : Nat → Nat → Int) (p a b : Int) : Nat → Nat → Int := if e_chg σ p a b = 0 then u_seek σ b (f_freeQ σ p a) else σ
theorem z_shrI {x c : Int} (hx : 0 ≤ x) (hx2 : x < 2147483648) (h0 : 0 ≤ c) (h1 : c < 31) : iI x >>> (iI c &&& 31) = iI (x / z_one c) := by
  have hs : ((iI c &&& 31).toBitVec.smod 32).toNat = c.toNat := by
    rw [z_nat h0]
    exact z_sm c.toNat (by omega)
  have hp := z_one_pos c
  have h2 : k_r (x / z_one c) := ⟨by have := Int.ediv_nonneg hx (Int.le_of_lt hp); omega, by have := Int.ediv_le_self (z_one c) hx; omega⟩
  apply Int32.toInt_inj.mp
  rw [pk_shr _ _ c.toNat hs, iI_toInt ⟨by omega, hx2⟩, iI_toInt h2, Int.shiftRight_eq_div_pow]
  rfl
set_option maxHeartbeats 4000000 in
theorem c_faultOfJoiner (hsh : k_Main sh) (hI : k_Ty σ) {p s : Int} (hp : -2147483648 ≤ p ∧ p < 2147483648) (hs : -2147483648 ≤ s ∧ s < 2147483648) : k_C E mX2_faultOfJoiner 4 [.ref 23, .int (iI (p)), .int (iI (s))] sh σ 0 0 (k_ret (some (.int (iI (e_joiner σ p s)))) sh σ) := by
  refine k_C_of (ls0 := [(0, .ref 23), (1, .int (iI (p))), (2, .int (iI (s)))]) rfl pnX2 (fun v hv => k_cat1 rfl hv) (Nat.le_of_ble_eq_true rfl) rfl ?_
  obtain ⟨t0, t1, t2, t3, t4, t5, t6, t7, t8, t9, t10, t11⟩ := id hI
  have q1 := f_taken_r hI p s
  refine k_aload_n dX2_faultOfJoiner_0 0 rfl rfl (by decide) ?_
  refine k_get (kf := 0) (v := .ref 1) dX2_faultOfJoiner_1 kcX2 w_262 (by decide) (by decide) (s_23 hsh) rfl rfl ?_
  refine k_iload_n dX2_faultOfJoiner_4 1 rfl rfl ?_
  refine k_callVr (st := []) (as := [.int (iI (p))]) dX2_faultOfJoiner_5 oX5_hasPupil w_443 w_444 w_445 rfl (by omega) rfl (Nat.le_of_ble_eq_true rfl) (by decide) (s_1 hsh) rfl (c_hasPupil hsh hI ⟨by omega, by omega⟩) ?_
  refine k_if_eq (tgt := 22) dX2_faultOfJoiner_8 rfl (zb_kr _) (fun h_1 => ?_) (fun h_1 => ?_)
  · have h_1 := zb_0.mp h_1
    refine k_iconst (v := 1) dX2_faultOfJoiner_22 rfl ?_
    exact k_reti dX2_faultOfJoiner_23 rfl rfl (by unfold e_joiner; (repeat' split) <;> first | rfl | omega | (exfalso; omega) | (exfalso; simp_all; done) | (simp_all; done) | (exfalso; simp_all; omega))
  · have h_1 := zb_n0.mp h_1
    refine k_aload_n dX2_faultOfJoiner_11 0 rfl rfl (by decide) ?_
    refine k_get (kf := 0) (v := .ref 1) dX2_faultOfJoiner_12 kcX2 w_262 (by decide) (by decide) (s_23 hsh) rfl rfl ?_
    refine k_iload_n dX2_faultOfJoiner_15 2 rfl rfl ?_
    refine k_callVr (st := []) (as := [.int (iI (s))]) dX2_faultOfJoiner_16 oX5_hasSubject w_648 w_488 w_489 rfl (by omega) rfl (Nat.le_of_ble_eq_true rfl) (by decide) (s_1 hsh) rfl (c_hasSubject hsh hI ⟨by omega, by omega⟩) ?_
    refine k_if_ne (tgt := 24) dX2_faultOfJoiner_19 rfl (zb_kr _) (fun h_2 => ?_) (fun h_2 => ?_)
    · have h_2 := zb_n0.mp h_2
      refine k_aload_n dX2_faultOfJoiner_24 0 rfl rfl (by decide) ?_
      refine k_get (kf := 0) (v := .ref 1) dX2_faultOfJoiner_25 kcX2 w_262 (by decide) (by decide) (s_23 hsh) rfl rfl ?_
      refine k_iload_n dX2_faultOfJoiner_28 1 rfl rfl ?_
      refine k_iload_n dX2_faultOfJoiner_29 2 rfl rfl ?_
      refine k_callVr (st := []) (as := [.int (iI (p)), .int (iI (s))]) dX2_faultOfJoiner_30 oX5_blockTaken w_659 w_535 w_536 rfl (by omega) rfl (Nat.le_of_ble_eq_true rfl) (by decide) (s_1 hsh) rfl (c_blockTaken hsh hI ⟨by omega, by omega⟩ ⟨by omega, by omega⟩ (by omega)) ?_
      refine k_iconst (v := (-1)) dX2_faultOfJoiner_33 rfl ?_
      refine k_icmp_eq (tgt := 41) dX2_faultOfJoiner_34 rfl ⟨by omega, by omega⟩ ⟨by decide, by decide⟩ (fun h_3 => ?_) (fun h_3 => ?_)
      · refine k_iconst (v := 0) dX2_faultOfJoiner_41 rfl ?_
        exact k_reti dX2_faultOfJoiner_42 rfl rfl (by unfold e_joiner; (repeat' split) <;> first | rfl | omega | (exfalso; omega) | (exfalso; simp_all; done) | (simp_all; done) | (exfalso; simp_all; omega))
      · refine k_iconst (v := 3) dX2_faultOfJoiner_37 rfl ?_
        refine k_goto (tgt := 42) dX2_faultOfJoiner_38 rfl ?_
        exact k_reti dX2_faultOfJoiner_42 rfl rfl (by unfold e_joiner; (repeat' split) <;> first | rfl | omega | (exfalso; omega) | (exfalso; simp_all; done) | (simp_all; done) | (exfalso; simp_all; omega))
    · have h_2 := zb_0.mp h_2
      refine k_iconst (v := 1) dX2_faultOfJoiner_22 rfl ?_
      exact k_reti dX2_faultOfJoiner_23 rfl rfl (by unfold e_joiner; (repeat' split) <;> first | rfl | omega | (exfalso; omega) | (exfalso; simp_all; done) | (simp_all; done) | (exfalso; simp_all; omega))
set_option maxHeartbeats 4000000 in
theorem c_faultOfNewSubject (hsh : k_Main sh) (hI : k_Ty σ) {z : Int} (hz : -2147483648 ≤ z ∧ z < 2147483648) : k_C E mX2_faultOfNewSubject 1 [.ref 23, .int (iI (z))] sh σ 0 0 (k_ret (some (.int (iI (e_subject σ z)))) sh σ) := by
  refine k_C_of (ls0 := [(0, .ref 23), (1, .int (iI (z)))]) rfl pnX2 (fun v hv => k_cat1 rfl hv) (Nat.le_of_ble_eq_true rfl) rfl ?_
  obtain ⟨t0, t1, t2, t3, t4, t5, t6, t7, t8, t9, t10, t11⟩ := id hI
  refine k_iload_n dX2_faultOfNewSubject_0 1 rfl rfl ?_
  refine k_iconst (v := 1) dX2_faultOfNewSubject_1 rfl ?_
  refine k_icmp_lt (tgt := 11) dX2_faultOfNewSubject_2 rfl ⟨by omega, by omega⟩ ⟨by decide, by decide⟩ (fun h_1 => ?_) (fun h_1 => ?_)
  · refine k_iconst (v := 2) dX2_faultOfNewSubject_11 rfl ?_
    exact k_reti dX2_faultOfNewSubject_12 rfl rfl (by unfold e_subject; (repeat' split) <;> first | rfl | omega | (exfalso; omega) | (exfalso; simp_all; done) | (simp_all; done) | (exfalso; simp_all; omega))
  · refine k_iload_n dX2_faultOfNewSubject_5 1 rfl rfl ?_
    refine k_bipush (v := 9) dX2_faultOfNewSubject_6 (by decide) ?_
    refine k_icmp_le (tgt := 13) dX2_faultOfNewSubject_8 rfl ⟨by omega, by omega⟩ ⟨by decide, by decide⟩ (fun h_2 => ?_) (fun h_2 => ?_)
    · refine k_aload_n dX2_faultOfNewSubject_13 0 rfl rfl (by decide) ?_
      refine k_get (kf := 0) (v := .ref 1) dX2_faultOfNewSubject_14 kcX2 w_262 (by decide) (by decide) (s_23 hsh) rfl rfl ?_
      refine k_getN (kf := 0) (v := .int (iI (σ 1 0))) dX2_faultOfNewSubject_17 kcX5 w_134 (by decide) (by decide) (s_1 hsh) rfl rfl ?_
      refine k_bipush (v := 7) dX2_faultOfNewSubject_20 (by decide) ?_
      refine k_icmp_lt (tgt := 29) dX2_faultOfNewSubject_22 rfl ⟨by omega, by omega⟩ ⟨by decide, by decide⟩ (fun h_3 => ?_) (fun h_3 => ?_)
      · refine k_iconst (v := 0) dX2_faultOfNewSubject_29 rfl ?_
        exact k_reti dX2_faultOfNewSubject_30 rfl rfl (by unfold e_subject; (repeat' split) <;> first | rfl | omega | (exfalso; omega) | (exfalso; simp_all; done) | (simp_all; done) | (exfalso; simp_all; omega))
      · refine k_iconst (v := 3) dX2_faultOfNewSubject_25 rfl ?_
        refine k_goto (tgt := 30) dX2_faultOfNewSubject_26 rfl ?_
        exact k_reti dX2_faultOfNewSubject_30 rfl rfl (by unfold e_subject; (repeat' split) <;> first | rfl | omega | (exfalso; omega) | (exfalso; simp_all; done) | (simp_all; done) | (exfalso; simp_all; omega))
    · refine k_iconst (v := 2) dX2_faultOfNewSubject_11 rfl ?_
      exact k_reti dX2_faultOfNewSubject_12 rfl rfl (by unfold e_subject; (repeat' split) <;> first | rfl | omega | (exfalso; omega) | (exfalso; simp_all; done) | (simp_all; done) | (exfalso; simp_all; omega))
set_option maxHeartbeats 4000000 in
theorem c_faultOfOpening (hsh : k_Main sh) (hI : k_Ty σ) {s b : Int} (hs : -2147483648 ≤ s ∧ s < 2147483648) (hb : -2147483648 ≤ b ∧ b < 2147483648) : k_C E mX2_faultOfOpening 3 [.ref 23, .int (iI (s)), .int (iI (b))] sh σ 0 0 (k_ret (some (.int (iI (e_open σ s b)))) sh σ) := by
  refine k_C_of (ls0 := [(0, .ref 23), (1, .int (iI (s))), (2, .int (iI (b)))]) rfl pnX2 (fun v hv => k_cat1 rfl hv) (Nat.le_of_ble_eq_true rfl) rfl ?_
  obtain ⟨t0, t1, t2, t3, t4, t5, t6, t7, t8, t9, t10, t11⟩ := id hI
  have q1 := f_open_r hI s
  refine k_aload_n dX2_faultOfOpening_0 0 rfl rfl (by decide) ?_
  refine k_get (kf := 0) (v := .ref 1) dX2_faultOfOpening_1 kcX2 w_262 (by decide) (by decide) (s_23 hsh) rfl rfl ?_
  refine k_iload_n dX2_faultOfOpening_4 1 rfl rfl ?_
  refine k_iload_n dX2_faultOfOpening_5 2 rfl rfl ?_
  refine k_callVr (st := []) (as := [.int (iI (s)), .int (iI (b))]) dX2_faultOfOpening_6 oX5_hasClass w_633 w_521 w_522 rfl (by omega) rfl (Nat.le_of_ble_eq_true rfl) (by decide) (s_1 hsh) rfl (c_hasClass hsh hI ⟨by omega, by omega⟩ ⟨by omega, by omega⟩) ?_
  refine k_if_ne (tgt := 14) dX2_faultOfOpening_9 rfl (zb_kr _) (fun h_1 => ?_) (fun h_1 => ?_)
  · have h_1 := zb_n0.mp h_1
    refine k_aload_n dX2_faultOfOpening_14 0 rfl rfl (by decide) ?_
    refine k_get (kf := 0) (v := .ref 1) dX2_faultOfOpening_15 kcX2 w_262 (by decide) (by decide) (s_23 hsh) rfl rfl ?_
    refine k_iload_n dX2_faultOfOpening_18 1 rfl rfl ?_
    refine k_callVr (st := []) (as := [.int (iI (s))]) dX2_faultOfOpening_19 oX5_openBlocks w_628 w_484 w_485 rfl (by omega) rfl (Nat.le_of_ble_eq_true rfl) (by decide) (s_1 hsh) rfl (c_openBlocks hsh hI ⟨by omega, by omega⟩) ?_
    refine k_iload_n dX2_faultOfOpening_22 2 rfl rfl ?_
    refine k_callSNr (st := []) (as := [.int (iI (f_open σ s)), .int (iI (b))]) dX2_faultOfOpening_23 oX7_holds w_634 w_463 rfl (by omega) rfl (Nat.le_of_ble_eq_true rfl) (c_holds (by omega) (by omega)) ?_
    refine k_eqst (congrArg (fun z : Int => Value.int (iI z) :: []) (show zb (z_bit (f_open σ s) (b) = true) = zb (0 ≤ b ∧ b < 16 ∧ z_bit (f_open σ s) (b) = true) from (f_holds (by omega) (by omega)).symm)) ?_
    refine k_if_eq (tgt := 33) dX2_faultOfOpening_26 rfl (zb_kr _) (fun h_2 => ?_) (fun h_2 => ?_)
    · have h_2 := zb_0.mp h_2
      refine k_iconst (v := 0) dX2_faultOfOpening_33 rfl ?_
      exact k_reti dX2_faultOfOpening_34 rfl rfl (by unfold e_open; (repeat' split) <;> first | rfl | omega | (exfalso; omega) | (exfalso; simp_all; done) | (simp_all; done) | (exfalso; simp_all; omega))
    · have h_2 := zb_n0.mp h_2
      refine k_iconst (v := 3) dX2_faultOfOpening_29 rfl ?_
      refine k_goto (tgt := 34) dX2_faultOfOpening_30 rfl ?_
      exact k_reti dX2_faultOfOpening_34 rfl rfl (by unfold e_open; (repeat' split) <;> first | rfl | omega | (exfalso; omega) | (exfalso; simp_all; done) | (simp_all; done) | (exfalso; simp_all; omega))
  · have h_1 := zb_0.mp h_1
    refine k_iconst (v := 1) dX2_faultOfOpening_12 rfl ?_
    exact k_reti dX2_faultOfOpening_13 rfl rfl (by unfold e_open; (repeat' split) <;> first | rfl | omega | (exfalso; omega) | (exfalso; simp_all; done) | (simp_all; done) | (exfalso; simp_all; omega))
set_option maxHeartbeats 4000000 in
theorem c_faultOfClosing (hsh : k_Main sh) (hI : k_Ty σ) {s b : Int} (hs : -2147483648 ≤ s ∧ s < 2147483648) (hb : -2147483648 ≤ b ∧ b < 2147483648) : k_C E mX2_faultOfClosing 3 [.ref 23, .int (iI (s)), .int (iI (b))] sh σ 0 0 (k_ret (some (.int (iI (e_close σ s b)))) sh σ) := by
  refine k_C_of (ls0 := [(0, .ref 23), (1, .int (iI (s))), (2, .int (iI (b)))]) rfl pnX2 (fun v hv => k_cat1 rfl hv) (Nat.le_of_ble_eq_true rfl) rfl ?_
  obtain ⟨t0, t1, t2, t3, t4, t5, t6, t7, t8, t9, t10, t11⟩ := id hI
  have q1 := f_open_r hI s
  have q2 := f_roster_r hI s b
  refine k_aload_n dX2_faultOfClosing_0 0 rfl rfl (by decide) ?_
  refine k_get (kf := 0) (v := .ref 1) dX2_faultOfClosing_1 kcX2 w_262 (by decide) (by decide) (s_23 hsh) rfl rfl ?_
  refine k_iload_n dX2_faultOfClosing_4 1 rfl rfl ?_
  refine k_iload_n dX2_faultOfClosing_5 2 rfl rfl ?_
  refine k_callVr (st := []) (as := [.int (iI (s)), .int (iI (b))]) dX2_faultOfClosing_6 oX5_hasClass w_633 w_521 w_522 rfl (by omega) rfl (Nat.le_of_ble_eq_true rfl) (by decide) (s_1 hsh) rfl (c_hasClass hsh hI ⟨by omega, by omega⟩ ⟨by omega, by omega⟩) ?_
  refine k_if_ne (tgt := 14) dX2_faultOfClosing_9 rfl (zb_kr _) (fun h_1 => ?_) (fun h_1 => ?_)
  · have h_1 := zb_n0.mp h_1
    refine k_aload_n dX2_faultOfClosing_14 0 rfl rfl (by decide) ?_
    refine k_get (kf := 0) (v := .ref 1) dX2_faultOfClosing_15 kcX2 w_262 (by decide) (by decide) (s_23 hsh) rfl rfl ?_
    refine k_iload_n dX2_faultOfClosing_18 1 rfl rfl ?_
    refine k_callVr (st := []) (as := [.int (iI (s))]) dX2_faultOfClosing_19 oX5_openBlocks w_628 w_484 w_485 rfl (by omega) rfl (Nat.le_of_ble_eq_true rfl) (by decide) (s_1 hsh) rfl (c_openBlocks hsh hI ⟨by omega, by omega⟩) ?_
    refine k_iload_n dX2_faultOfClosing_22 2 rfl rfl ?_
    refine k_callSNr (st := []) (as := [.int (iI (f_open σ s)), .int (iI (b))]) dX2_faultOfClosing_23 oX7_holds w_634 w_463 rfl (by omega) rfl (Nat.le_of_ble_eq_true rfl) (c_holds (by omega) (by omega)) ?_
    refine k_eqst (congrArg (fun z : Int => Value.int (iI z) :: []) (show zb (z_bit (f_open σ s) (b) = true) = zb (0 ≤ b ∧ b < 16 ∧ z_bit (f_open σ s) (b) = true) from (f_holds (by omega) (by omega)).symm)) ?_
    refine k_if_eq (tgt := 45) dX2_faultOfClosing_26 rfl (zb_kr _) (fun h_2 => ?_) (fun h_2 => ?_)
    · have h_2 := zb_0.mp h_2
      refine k_iconst (v := 0) dX2_faultOfClosing_45 rfl ?_
      refine k_istore_n (ls' := [(0, .ref 23), (1, .int (iI (s))), (2, .int (iI (b))), (3, .int (iI (0)))]) dX2_faultOfClosing_46 rfl (by decide) rfl rfl ?_
      refine k_iload_n dX2_faultOfClosing_47 3 rfl rfl ?_
      refine k_if_eq (tgt := 55) dX2_faultOfClosing_48 rfl ⟨by decide, by decide⟩ (fun h_3 => ?_) (fun h_3 => absurd h_3 (by decide))
      refine k_iconst (v := 3) dX2_faultOfClosing_55 rfl ?_
      exact k_reti dX2_faultOfClosing_56 rfl rfl (by unfold e_close; (repeat' split) <;> first | rfl | omega | (exfalso; omega) | (exfalso; simp_all; done) | (simp_all; done) | (exfalso; simp_all; omega))
    · have h_2 := zb_n0.mp h_2
      refine k_aload_n dX2_faultOfClosing_29 0 rfl rfl (by decide) ?_
      refine k_get (kf := 0) (v := .ref 1) dX2_faultOfClosing_30 kcX2 w_262 (by decide) (by decide) (s_23 hsh) rfl rfl ?_
      refine k_iload_n dX2_faultOfClosing_33 1 rfl rfl ?_
      refine k_iload_n dX2_faultOfClosing_34 2 rfl rfl ?_
      refine k_callVr (st := []) (as := [.int (iI (s)), .int (iI (b))]) dX2_faultOfClosing_35 oX5_roster w_639 w_456 w_457 rfl (by omega) rfl (Nat.le_of_ble_eq_true rfl) (by decide) (s_1 hsh) rfl (c_roster hsh hI ⟨by omega, by omega⟩ ⟨by omega, by omega⟩) ?_
      refine k_if_ne (tgt := 45) dX2_faultOfClosing_38 rfl ⟨by omega, by omega⟩ (fun h_4 => ?_) (fun h_4 => ?_)
      · refine k_iconst (v := 0) dX2_faultOfClosing_45 rfl ?_
        refine k_istore_n (ls' := [(0, .ref 23), (1, .int (iI (s))), (2, .int (iI (b))), (3, .int (iI (0)))]) dX2_faultOfClosing_46 rfl (by decide) rfl rfl ?_
        refine k_iload_n dX2_faultOfClosing_47 3 rfl rfl ?_
        refine k_if_eq (tgt := 55) dX2_faultOfClosing_48 rfl ⟨by decide, by decide⟩ (fun h_5 => ?_) (fun h_5 => absurd h_5 (by decide))
        refine k_iconst (v := 3) dX2_faultOfClosing_55 rfl ?_
        exact k_reti dX2_faultOfClosing_56 rfl rfl (by unfold e_close; (repeat' split) <;> first | rfl | omega | (exfalso; omega) | (exfalso; simp_all; done) | (simp_all; done) | (exfalso; simp_all; omega))
      · refine k_iconst (v := 1) dX2_faultOfClosing_41 rfl ?_
        refine k_goto (tgt := 46) dX2_faultOfClosing_42 rfl ?_
        refine k_istore_n (ls' := [(0, .ref 23), (1, .int (iI (s))), (2, .int (iI (b))), (3, .int (iI (1)))]) dX2_faultOfClosing_46 rfl (by decide) rfl rfl ?_
        refine k_iload_n dX2_faultOfClosing_47 3 rfl rfl ?_
        refine k_if_eq (tgt := 55) dX2_faultOfClosing_48 rfl ⟨by decide, by decide⟩ (fun h_6 => absurd h_6 (by decide)) (fun h_6 => ?_)
        refine k_iconst (v := 0) dX2_faultOfClosing_51 rfl ?_
        refine k_goto (tgt := 56) dX2_faultOfClosing_52 rfl ?_
        exact k_reti dX2_faultOfClosing_56 rfl rfl (by unfold e_close; (repeat' split) <;> first | rfl | omega | (exfalso; omega) | (exfalso; simp_all; done) | (simp_all; done) | (exfalso; simp_all; omega))
  · have h_1 := zb_0.mp h_1
    refine k_iconst (v := 1) dX2_faultOfClosing_12 rfl ?_
    exact k_reti dX2_faultOfClosing_13 rfl rfl (by unfold e_close; (repeat' split) <;> first | rfl | omega | (exfalso; omega) | (exfalso; simp_all; done) | (simp_all; done) | (exfalso; simp_all; omega))
set_option maxHeartbeats 4000000 in
theorem c_faultOfReserve (hsh : k_Main sh) (hI : k_Ty σ) {p s : Int} (hp : -2147483648 ≤ p ∧ p < 2147483648) (hs : -2147483648 ≤ s ∧ s < 2147483648) : k_C E mX2_faultOfReserve 3 [.ref 23, .int (iI (p)), .int (iI (s))] sh σ 0 0 (k_ret (some (.int (iI (e_reserve σ p s)))) sh σ) := by
  refine k_C_of (ls0 := [(0, .ref 23), (1, .int (iI (p))), (2, .int (iI (s)))]) rfl pnX2 (fun v hv => k_cat1 rfl hv) (Nat.le_of_ble_eq_true rfl) rfl ?_
  obtain ⟨t0, t1, t2, t3, t4, t5, t6, t7, t8, t9, t10, t11⟩ := id hI
  have q1 : 0 ≤ f_wishSet σ p ∧ f_wishSet σ p < 128 := f_wishSetN_r hI _ _
  have q2 := t8 p.toNat
  refine k_aload_n dX2_faultOfReserve_0 0 rfl rfl (by decide) ?_
  refine k_get (kf := 0) (v := .ref 1) dX2_faultOfReserve_1 kcX2 w_262 (by decide) (by decide) (s_23 hsh) rfl rfl ?_
  refine k_iload_n dX2_faultOfReserve_4 1 rfl rfl ?_
  refine k_callVr (st := []) (as := [.int (iI (p))]) dX2_faultOfReserve_5 oX5_hasPupil w_443 w_444 w_445 rfl (by omega) rfl (Nat.le_of_ble_eq_true rfl) (by decide) (s_1 hsh) rfl (c_hasPupil hsh hI ⟨by omega, by omega⟩) ?_
  refine k_if_eq (tgt := 22) dX2_faultOfReserve_8 rfl (zb_kr _) (fun h_1 => ?_) (fun h_1 => ?_)
  · have h_1 := zb_0.mp h_1
    refine k_iconst (v := 1) dX2_faultOfReserve_22 rfl ?_
    exact k_reti dX2_faultOfReserve_23 rfl rfl (by unfold e_reserve; (repeat' split) <;> first | rfl | omega | (exfalso; omega) | (exfalso; simp_all; done) | (simp_all; done) | (exfalso; simp_all; omega))
  · have h_1 := zb_n0.mp h_1
    refine k_aload_n dX2_faultOfReserve_11 0 rfl rfl (by decide) ?_
    refine k_get (kf := 0) (v := .ref 1) dX2_faultOfReserve_12 kcX2 w_262 (by decide) (by decide) (s_23 hsh) rfl rfl ?_
    refine k_iload_n dX2_faultOfReserve_15 2 rfl rfl ?_
    refine k_callVr (st := []) (as := [.int (iI (s))]) dX2_faultOfReserve_16 oX5_hasSubject w_648 w_488 w_489 rfl (by omega) rfl (Nat.le_of_ble_eq_true rfl) (by decide) (s_1 hsh) rfl (c_hasSubject hsh hI ⟨by omega, by omega⟩) ?_
    refine k_if_ne (tgt := 24) dX2_faultOfReserve_19 rfl (zb_kr _) (fun h_2 => ?_) (fun h_2 => ?_)
    · have h_2 := zb_n0.mp h_2
      refine k_aload_n dX2_faultOfReserve_24 0 rfl rfl (by decide) ?_
      refine k_get (kf := 0) (v := .ref 1) dX2_faultOfReserve_25 kcX2 w_262 (by decide) (by decide) (s_23 hsh) rfl rfl ?_
      refine k_iload_n dX2_faultOfReserve_28 1 rfl rfl ?_
      refine k_callVr (st := []) (as := [.int (iI (p))]) dX2_faultOfReserve_29 oX5_wishSet w_649 w_555 w_556 rfl (by omega) rfl (Nat.le_of_ble_eq_true rfl) (by decide) (s_1 hsh) rfl (c_wishSet hsh hI ⟨by omega, by omega⟩ (by omega)) ?_
      refine k_iload_n dX2_faultOfReserve_32 2 rfl rfl ?_
      refine k_callSNr (st := []) (as := [.int (iI (f_wishSet σ p)), .int (iI (s))]) dX2_faultOfReserve_33 oX7_holds w_634 w_463 rfl (by omega) rfl (Nat.le_of_ble_eq_true rfl) (c_holds (by omega) (by omega)) ?_
      refine k_eqst (congrArg (fun z : Int => Value.int (iI z) :: []) (show zb (z_bit (f_wishSet σ p) (s) = true) = zb (0 ≤ s ∧ s < 16 ∧ z_bit (f_wishSet σ p) (s) = true) from (f_holds (by omega) (by omega)).symm)) ?_
      refine k_if_ne (tgt := 54) dX2_faultOfReserve_36 rfl (zb_kr _) (fun h_3 => ?_) (fun h_3 => ?_)
      · have h_3 := zb_n0.mp h_3
        refine k_iconst (v := 3) dX2_faultOfReserve_54 rfl ?_
        refine k_goto (tgt := 59) dX2_faultOfReserve_55 rfl ?_
        exact k_reti dX2_faultOfReserve_59 rfl rfl (by unfold e_reserve; (repeat' split) <;> first | rfl | omega | (exfalso; omega) | (exfalso; simp_all; done) | (simp_all; done) | (exfalso; simp_all; omega))
      · have h_3 := zb_0.mp h_3
        refine k_aload_n dX2_faultOfReserve_39 0 rfl rfl (by decide) ?_
        refine k_get (kf := 0) (v := .ref 1) dX2_faultOfReserve_40 kcX2 w_262 (by decide) (by decide) (s_23 hsh) rfl rfl ?_
        refine k_getN (kf := 8) (v := .ref 7) dX2_faultOfReserve_43 kcX5 w_153 (by decide) (by decide) (s_1 hsh) rfl rfl ?_
        refine k_iload_n dX2_faultOfReserve_46 1 rfl rfl ?_
        refine k_callSNr (st := []) (as := [.ref 7, .int (iI (p))]) dX2_faultOfReserve_47 oX7_read w_465 w_460 rfl (by omega) rfl (Nat.le_of_ble_eq_true rfl) (c_readIn (by decide) (s_7 hsh) (by decide) (by omega) (by omega)) ?_
        refine k_iload_n dX2_faultOfReserve_50 2 rfl rfl ?_
        refine k_icmp_ne (tgt := 58) dX2_faultOfReserve_51 rfl ⟨by omega, by omega⟩ ⟨by omega, by omega⟩ (fun h_4 => ?_) (fun h_4 => ?_)
        · refine k_iconst (v := 0) dX2_faultOfReserve_58 rfl ?_
          exact k_reti dX2_faultOfReserve_59 rfl rfl (by unfold e_reserve; (repeat' split) <;> first | rfl | omega | (exfalso; omega) | (exfalso; simp_all; done) | (simp_all; done) | (exfalso; simp_all; omega))
        · refine k_iconst (v := 3) dX2_faultOfReserve_54 rfl ?_
          refine k_goto (tgt := 59) dX2_faultOfReserve_55 rfl ?_
          exact k_reti dX2_faultOfReserve_59 rfl rfl (by unfold e_reserve; (repeat' split) <;> first | rfl | omega | (exfalso; omega) | (exfalso; simp_all; done) | (simp_all; done) | (exfalso; simp_all; omega))
    · have h_2 := zb_0.mp h_2
      refine k_iconst (v := 1) dX2_faultOfReserve_22 rfl ?_
      exact k_reti dX2_faultOfReserve_23 rfl rfl (by unfold e_reserve; (repeat' split) <;> first | rfl | omega | (exfalso; omega) | (exfalso; simp_all; done) | (simp_all; done) | (exfalso; simp_all; omega))
theorem e_reserve_r (σ : Nat → Nat → Int) (p s : Int) : 0 ≤ e_reserve σ p s ∧ e_reserve σ p s ≤ 3 := by
  unfold e_reserve
  (repeat' split) <;> decide
theorem e_joiner_r (σ : Nat → Nat → Int) (p s : Int) : 0 ≤ e_joiner σ p s ∧ e_joiner σ p s ≤ 3 := by
  unfold e_joiner
  (repeat' split) <;> decide
theorem e_reserve_0 {σ : Nat → Nat → Int} {p s : Int} (h : e_reserve σ p s = 0) : (0 ≤ p ∧ p < σ 1 2) ∧ (0 ≤ s ∧ s < σ 1 0) := by
  unfold e_reserve at h
  split at h
  · assumption
  · cases h
theorem e_joiner_0 {σ : Nat → Nat → Int} {p s : Int} (h : e_joiner σ p s = 0) : (0 ≤ p ∧ p < σ 1 2) ∧ (0 ≤ s ∧ s < σ 1 0) := by
  unfold e_joiner at h
  split at h
  · assumption
  · cases h
set_option maxHeartbeats 4000000 in
theorem c_faultOfWish (hsh : k_Main sh) (hI : k_Ty σ) {p s : Int} (hp : -2147483648 ≤ p ∧ p < 2147483648) (hs : -2147483648 ≤ s ∧ s < 2147483648) : k_C E mX2_faultOfWish 4 [.ref 23, .int (iI (p)), .int (iI (s))] sh σ 0 0 (k_ret (some (.int (iI (e_wish σ p s)))) sh σ) := by
  refine k_C_of (ls0 := [(0, .ref 23), (1, .int (iI (p))), (2, .int (iI (s)))]) rfl pnX2 (fun v hv => k_cat1 rfl hv) (Nat.le_of_ble_eq_true rfl) rfl ?_
  obtain ⟨t0, t1, t2, t3, t4, t5, t6, t7, t8, t9, t10, t11⟩ := id hI
  have q1 := e_reserve_r σ p s
  have q2 := t6 p.toNat
  refine k_aload_n dX2_faultOfWish_0 0 rfl rfl (by decide) ?_
  refine k_iload_n dX2_faultOfWish_1 1 rfl rfl ?_
  refine k_iload_n dX2_faultOfWish_2 2 rfl rfl ?_
  refine k_callVr (st := []) (as := [.int (iI (p)), .int (iI (s))]) dX2_faultOfWish_3 oX2_faultOfReserve w_644 w_646 w_13 rfl (by omega) rfl (Nat.le_of_ble_eq_true rfl) (by decide) (s_23 hsh) rfl (c_faultOfReserve hsh hI  ⟨by omega, by omega⟩ ⟨by omega, by omega⟩) ?_
  refine k_istore_n (ls' := [(0, .ref 23), (1, .int (iI (p))), (2, .int (iI (s))), (3, .int (iI (e_reserve σ p s)))]) dX2_faultOfWish_6 rfl (by decide) rfl rfl ?_
  refine k_iload_n dX2_faultOfWish_7 3 rfl rfl ?_
  refine k_if_eq (tgt := 13) dX2_faultOfWish_8 rfl ⟨by omega, by omega⟩ (fun h_1 => ?_) (fun h_1 => ?_)
  · have q3 := e_reserve_0 (by omega : e_reserve σ p s = 0)
    refine k_aload_n dX2_faultOfWish_13 0 rfl rfl (by decide) ?_
    refine k_get (kf := 0) (v := .ref 1) dX2_faultOfWish_14 kcX2 w_262 (by decide) (by decide) (s_23 hsh) rfl rfl ?_
    refine k_getN (kf := 6) (v := .ref 5) dX2_faultOfWish_17 kcX5 w_148 (by decide) (by decide) (s_1 hsh) rfl rfl ?_
    refine k_iload_n dX2_faultOfWish_20 1 rfl rfl ?_
    refine k_callSNr (st := []) (as := [.ref 5, .int (iI (p))]) dX2_faultOfWish_21 oX7_read w_465 w_460 rfl (by omega) rfl (Nat.le_of_ble_eq_true rfl) (c_readIn (by decide) (s_5 hsh) (by decide) (by omega) (by omega)) ?_
    refine k_iconst (v := 3) dX2_faultOfWish_24 rfl ?_
    refine k_icmp_lt (tgt := 32) dX2_faultOfWish_25 rfl ⟨by omega, by omega⟩ ⟨by decide, by decide⟩ (fun h_2 => ?_) (fun h_2 => ?_)
    · refine k_iconst (v := 0) dX2_faultOfWish_32 rfl ?_
      exact k_reti dX2_faultOfWish_33 rfl rfl (by unfold e_wish; (repeat' split) <;> first | rfl | omega | (exfalso; omega) | (exfalso; simp_all; done) | (simp_all; done) | (exfalso; simp_all; omega))
    · refine k_iconst (v := 3) dX2_faultOfWish_28 rfl ?_
      refine k_goto (tgt := 33) dX2_faultOfWish_29 rfl ?_
      exact k_reti dX2_faultOfWish_33 rfl rfl (by unfold e_wish; (repeat' split) <;> first | rfl | omega | (exfalso; omega) | (exfalso; simp_all; done) | (simp_all; done) | (exfalso; simp_all; omega))
  · refine k_iload_n dX2_faultOfWish_11 3 rfl rfl ?_
    exact k_reti dX2_faultOfWish_12 rfl rfl (by unfold e_wish; (repeat' split) <;> first | rfl | omega | (exfalso; omega) | (exfalso; simp_all; done) | (simp_all; done) | (exfalso; simp_all; omega))
set_option maxHeartbeats 4000000 in
theorem c_faultOfEnrolling (hsh : k_Main sh) (hI : k_Ty σ) {p : Int} (hp : -2147483648 ≤ p ∧ p < 2147483648) : k_C E mX2_faultOfEnrolling 5 [.ref 23, .int (iI (p))] sh σ 0 0 (k_ret (some (.int (iI (e_enrol σ p)))) sh σ) := by
  refine k_C_of (ls0 := [(0, .ref 23), (1, .int (iI (p)))]) rfl pnX2 (fun v hv => k_cat1 rfl hv) (Nat.le_of_ble_eq_true rfl) rfl ?_
  obtain ⟨t0, t1, t2, t3, t4, t5, t6, t7, t8, t9, t10, t11⟩ := id hI
  have q1 : 0 ≤ f_lessons σ p ∧ f_lessons σ p ≤ (σ 1 1).toNat := f_lessonsN_r σ p _
  have q2 := t6 p.toNat
  refine k_aload_n dX2_faultOfEnrolling_0 0 rfl rfl (by decide) ?_
  refine k_get (kf := 0) (v := .ref 1) dX2_faultOfEnrolling_1 kcX2 w_262 (by decide) (by decide) (s_23 hsh) rfl rfl ?_
  refine k_iload_n dX2_faultOfEnrolling_4 1 rfl rfl ?_
  refine k_callVr (st := []) (as := [.int (iI (p))]) dX2_faultOfEnrolling_5 oX5_hasPupil w_443 w_444 w_445 rfl (by omega) rfl (Nat.le_of_ble_eq_true rfl) (by decide) (s_1 hsh) rfl (c_hasPupil hsh hI ⟨by omega, by omega⟩) ?_
  refine k_if_ne (tgt := 13) dX2_faultOfEnrolling_8 rfl (zb_kr _) (fun h_1 => ?_) (fun h_1 => ?_)
  · have h_1 := zb_n0.mp h_1
    refine k_aload_n dX2_faultOfEnrolling_13 0 rfl rfl (by decide) ?_
    refine k_get (kf := 0) (v := .ref 1) dX2_faultOfEnrolling_14 kcX2 w_262 (by decide) (by decide) (s_23 hsh) rfl rfl ?_
    refine k_iload_n dX2_faultOfEnrolling_17 1 rfl rfl ?_
    refine k_callVr (st := []) (as := [.int (iI (p))]) dX2_faultOfEnrolling_18 oX5_lessonsOf w_447 w_448 w_449 rfl (by omega) rfl (Nat.le_of_ble_eq_true rfl) (by decide) (s_1 hsh) rfl (c_lessonsOf hsh hI ⟨by omega, by omega⟩ (by omega)) ?_
    refine k_if_gt (tgt := 38) dX2_faultOfEnrolling_21 rfl ⟨by omega, by omega⟩ (fun h_2 => ?_) (fun h_2 => ?_)
    · refine k_iconst (v := 3) dX2_faultOfEnrolling_38 rfl ?_
      refine k_goto (tgt := 43) dX2_faultOfEnrolling_39 rfl ?_
      exact k_reti dX2_faultOfEnrolling_43 rfl rfl (by unfold e_enrol; (repeat' split) <;> first | rfl | omega | (exfalso; omega) | (exfalso; simp_all; done) | (simp_all; done) | (exfalso; simp_all; omega))
    · refine k_aload_n dX2_faultOfEnrolling_24 0 rfl rfl (by decide) ?_
      refine k_get (kf := 0) (v := .ref 1) dX2_faultOfEnrolling_25 kcX2 w_262 (by decide) (by decide) (s_23 hsh) rfl rfl ?_
      refine k_getN (kf := 6) (v := .ref 5) dX2_faultOfEnrolling_28 kcX5 w_148 (by decide) (by decide) (s_1 hsh) rfl rfl ?_
      refine k_iload_n dX2_faultOfEnrolling_31 1 rfl rfl ?_
      refine k_callSNr (st := []) (as := [.ref 5, .int (iI (p))]) dX2_faultOfEnrolling_32 oX7_read w_465 w_460 rfl (by omega) rfl (Nat.le_of_ble_eq_true rfl) (c_readIn (by decide) (s_5 hsh) (by decide) (by omega) (by omega)) ?_
      refine k_if_gt (tgt := 42) dX2_faultOfEnrolling_35 rfl ⟨by omega, by omega⟩ (fun h_3 => ?_) (fun h_3 => ?_)
      · refine k_iconst (v := 0) dX2_faultOfEnrolling_42 rfl ?_
        exact k_reti dX2_faultOfEnrolling_43 rfl rfl (by unfold e_enrol; (repeat' split) <;> first | rfl | omega | (exfalso; omega) | (exfalso; simp_all; done) | (simp_all; done) | (exfalso; simp_all; omega))
      · refine k_iconst (v := 3) dX2_faultOfEnrolling_38 rfl ?_
        refine k_goto (tgt := 43) dX2_faultOfEnrolling_39 rfl ?_
        exact k_reti dX2_faultOfEnrolling_43 rfl rfl (by unfold e_enrol; (repeat' split) <;> first | rfl | omega | (exfalso; omega) | (exfalso; simp_all; done) | (simp_all; done) | (exfalso; simp_all; omega))
  · have h_1 := zb_0.mp h_1
    refine k_iconst (v := 1) dX2_faultOfEnrolling_11 rfl ?_
    exact k_reti dX2_faultOfEnrolling_12 rfl rfl (by unfold e_enrol; (repeat' split) <;> first | rfl | omega | (exfalso; omega) | (exfalso; simp_all; done) | (simp_all; done) | (exfalso; simp_all; omega))
set_option maxHeartbeats 4000000 in
theorem c_faultOfWithdrawing (hsh : k_Main sh) (hI : k_Ty σ) {p : Int} (hp : -2147483648 ≤ p ∧ p < 2147483648) : k_C E mX2_faultOfWithdrawing 5 [.ref 23, .int (iI (p))] sh σ 0 0 (k_ret (some (.int (iI (e_withdraw σ p)))) sh σ) := by
  refine k_C_of (ls0 := [(0, .ref 23), (1, .int (iI (p)))]) rfl pnX2 (fun v hv => k_cat1 rfl hv) (Nat.le_of_ble_eq_true rfl) rfl ?_
  obtain ⟨t0, t1, t2, t3, t4, t5, t6, t7, t8, t9, t10, t11⟩ := id hI
  have q1 : 0 ≤ f_lessons σ p ∧ f_lessons σ p ≤ (σ 1 1).toNat := f_lessonsN_r σ p _
  refine k_aload_n dX2_faultOfWithdrawing_0 0 rfl rfl (by decide) ?_
  refine k_get (kf := 0) (v := .ref 1) dX2_faultOfWithdrawing_1 kcX2 w_262 (by decide) (by decide) (s_23 hsh) rfl rfl ?_
  refine k_iload_n dX2_faultOfWithdrawing_4 1 rfl rfl ?_
  refine k_callVr (st := []) (as := [.int (iI (p))]) dX2_faultOfWithdrawing_5 oX5_hasPupil w_443 w_444 w_445 rfl (by omega) rfl (Nat.le_of_ble_eq_true rfl) (by decide) (s_1 hsh) rfl (c_hasPupil hsh hI ⟨by omega, by omega⟩) ?_
  refine k_if_ne (tgt := 13) dX2_faultOfWithdrawing_8 rfl (zb_kr _) (fun h_1 => ?_) (fun h_1 => ?_)
  · have h_1 := zb_n0.mp h_1
    refine k_aload_n dX2_faultOfWithdrawing_13 0 rfl rfl (by decide) ?_
    refine k_get (kf := 0) (v := .ref 1) dX2_faultOfWithdrawing_14 kcX2 w_262 (by decide) (by decide) (s_23 hsh) rfl rfl ?_
    refine k_iload_n dX2_faultOfWithdrawing_17 1 rfl rfl ?_
    refine k_callVr (st := []) (as := [.int (iI (p))]) dX2_faultOfWithdrawing_18 oX5_lessonsOf w_447 w_448 w_449 rfl (by omega) rfl (Nat.le_of_ble_eq_true rfl) (by decide) (s_1 hsh) rfl (c_lessonsOf hsh hI ⟨by omega, by omega⟩ (by omega)) ?_
    refine k_if_ne (tgt := 28) dX2_faultOfWithdrawing_21 rfl ⟨by omega, by omega⟩ (fun h_2 => ?_) (fun h_2 => ?_)
    · refine k_iconst (v := 0) dX2_faultOfWithdrawing_28 rfl ?_
      exact k_reti dX2_faultOfWithdrawing_29 rfl rfl (by unfold e_withdraw; (repeat' split) <;> first | rfl | omega | (exfalso; omega) | (exfalso; simp_all; done) | (simp_all; done) | (exfalso; simp_all; omega))
    · refine k_iconst (v := 3) dX2_faultOfWithdrawing_24 rfl ?_
      refine k_goto (tgt := 29) dX2_faultOfWithdrawing_25 rfl ?_
      exact k_reti dX2_faultOfWithdrawing_29 rfl rfl (by unfold e_withdraw; (repeat' split) <;> first | rfl | omega | (exfalso; omega) | (exfalso; simp_all; done) | (simp_all; done) | (exfalso; simp_all; omega))
  · have h_1 := zb_0.mp h_1
    refine k_iconst (v := 1) dX2_faultOfWithdrawing_11 rfl ?_
    exact k_reti dX2_faultOfWithdrawing_12 rfl rfl (by unfold e_withdraw; (repeat' split) <;> first | rfl | omega | (exfalso; omega) | (exfalso; simp_all; done) | (simp_all; done) | (exfalso; simp_all; omega))
set_option maxHeartbeats 4000000 in
theorem c_faultOfQuitting (hsh : k_Main sh) (hI : k_Ty σ) {p s : Int} (hp : -2147483648 ≤ p ∧ p < 2147483648) (hs : -2147483648 ≤ s ∧ s < 2147483648) : k_C E mX2_faultOfQuitting 4 [.ref 23, .int (iI (p)), .int (iI (s))] sh σ 0 0 (k_ret (some (.int (iI (e_quit σ p s)))) sh σ) := by
  refine k_C_of (ls0 := [(0, .ref 23), (1, .int (iI (p))), (2, .int (iI (s)))]) rfl pnX2 (fun v hv => k_cat1 rfl hv) (Nat.le_of_ble_eq_true rfl) rfl ?_
  obtain ⟨t0, t1, t2, t3, t4, t5, t6, t7, t8, t9, t10, t11⟩ := id hI
  have q1 := f_taken_r hI p s
  refine k_aload_n dX2_faultOfQuitting_0 0 rfl rfl (by decide) ?_
  refine k_get (kf := 0) (v := .ref 1) dX2_faultOfQuitting_1 kcX2 w_262 (by decide) (by decide) (s_23 hsh) rfl rfl ?_
  refine k_iload_n dX2_faultOfQuitting_4 1 rfl rfl ?_
  refine k_callVr (st := []) (as := [.int (iI (p))]) dX2_faultOfQuitting_5 oX5_hasPupil w_443 w_444 w_445 rfl (by omega) rfl (Nat.le_of_ble_eq_true rfl) (by decide) (s_1 hsh) rfl (c_hasPupil hsh hI ⟨by omega, by omega⟩) ?_
  refine k_if_eq (tgt := 22) dX2_faultOfQuitting_8 rfl (zb_kr _) (fun h_1 => ?_) (fun h_1 => ?_)
  · have h_1 := zb_0.mp h_1
    refine k_iconst (v := 1) dX2_faultOfQuitting_22 rfl ?_
    exact k_reti dX2_faultOfQuitting_23 rfl rfl (by unfold e_quit; (repeat' split) <;> first | rfl | omega | (exfalso; omega) | (exfalso; simp_all; done) | (simp_all; done) | (exfalso; simp_all; omega))
  · have h_1 := zb_n0.mp h_1
    refine k_aload_n dX2_faultOfQuitting_11 0 rfl rfl (by decide) ?_
    refine k_get (kf := 0) (v := .ref 1) dX2_faultOfQuitting_12 kcX2 w_262 (by decide) (by decide) (s_23 hsh) rfl rfl ?_
    refine k_iload_n dX2_faultOfQuitting_15 2 rfl rfl ?_
    refine k_callVr (st := []) (as := [.int (iI (s))]) dX2_faultOfQuitting_16 oX5_hasSubject w_648 w_488 w_489 rfl (by omega) rfl (Nat.le_of_ble_eq_true rfl) (by decide) (s_1 hsh) rfl (c_hasSubject hsh hI ⟨by omega, by omega⟩) ?_
    refine k_if_ne (tgt := 24) dX2_faultOfQuitting_19 rfl (zb_kr _) (fun h_2 => ?_) (fun h_2 => ?_)
    · have h_2 := zb_n0.mp h_2
      refine k_aload_n dX2_faultOfQuitting_24 0 rfl rfl (by decide) ?_
      refine k_get (kf := 0) (v := .ref 1) dX2_faultOfQuitting_25 kcX2 w_262 (by decide) (by decide) (s_23 hsh) rfl rfl ?_
      refine k_iload_n dX2_faultOfQuitting_28 1 rfl rfl ?_
      refine k_iload_n dX2_faultOfQuitting_29 2 rfl rfl ?_
      refine k_callVr (st := []) (as := [.int (iI (p)), .int (iI (s))]) dX2_faultOfQuitting_30 oX5_blockTaken w_659 w_535 w_536 rfl (by omega) rfl (Nat.le_of_ble_eq_true rfl) (by decide) (s_1 hsh) rfl (c_blockTaken hsh hI ⟨by omega, by omega⟩ ⟨by omega, by omega⟩ (by omega)) ?_
      refine k_iconst (v := (-1)) dX2_faultOfQuitting_33 rfl ?_
      refine k_icmp_ne (tgt := 41) dX2_faultOfQuitting_34 rfl ⟨by omega, by omega⟩ ⟨by decide, by decide⟩ (fun h_3 => ?_) (fun h_3 => ?_)
      · refine k_iconst (v := 0) dX2_faultOfQuitting_41 rfl ?_
        exact k_reti dX2_faultOfQuitting_42 rfl rfl (by unfold e_quit; (repeat' split) <;> first | rfl | omega | (exfalso; omega) | (exfalso; simp_all; done) | (simp_all; done) | (exfalso; simp_all; omega))
      · refine k_iconst (v := 3) dX2_faultOfQuitting_37 rfl ?_
        refine k_goto (tgt := 42) dX2_faultOfQuitting_38 rfl ?_
        exact k_reti dX2_faultOfQuitting_42 rfl rfl (by unfold e_quit; (repeat' split) <;> first | rfl | omega | (exfalso; omega) | (exfalso; simp_all; done) | (simp_all; done) | (exfalso; simp_all; omega))
    · have h_2 := zb_0.mp h_2
      refine k_iconst (v := 1) dX2_faultOfQuitting_22 rfl ?_
      exact k_reti dX2_faultOfQuitting_23 rfl rfl (by unfold e_quit; (repeat' split) <;> first | rfl | omega | (exfalso; omega) | (exfalso; simp_all; done) | (simp_all; done) | (exfalso; simp_all; omega))
set_option maxHeartbeats 4000000 in
theorem c_faultOfBlocks (hsh : k_Main sh) (hI : k_Ty σ) {c : Int} (hc : -2147483648 ≤ c ∧ c < 2147483648) : k_C E mX2_faultOfBlocks 3 [.ref 23, .int (iI (c))] sh σ 0 0 (k_ret (some (.int (iI (e_blocks σ c)))) sh σ) := by
  refine k_C_of (ls0 := [(0, .ref 23), (1, .int (iI (c)))]) rfl pnX2 (fun v hv => k_cat1 rfl hv) (Nat.le_of_ble_eq_true rfl) rfl ?_
  obtain ⟨t0, t1, t2, t3, t4, t5, t6, t7, t8, t9, t10, t11⟩ := id hI
  refine k_iload_n dX2_faultOfBlocks_0 1 rfl rfl ?_
  refine k_iconst (v := 1) dX2_faultOfBlocks_1 rfl ?_
  refine k_icmp_lt (tgt := 10) dX2_faultOfBlocks_2 rfl ⟨by omega, by omega⟩ ⟨by decide, by decide⟩ (fun h_1 => ?_) (fun h_1 => ?_)
  · refine k_iconst (v := 2) dX2_faultOfBlocks_10 rfl ?_
    exact k_reti dX2_faultOfBlocks_11 rfl rfl (by exact (if_neg (by omega)).symm)
  · refine k_iload_n dX2_faultOfBlocks_5 1 rfl rfl ?_
    refine k_iconst (v := 4) dX2_faultOfBlocks_6 rfl ?_
    refine k_icmp_le (tgt := 12) dX2_faultOfBlocks_7 rfl ⟨by omega, by omega⟩ ⟨by decide, by decide⟩ (fun h_2 => ?_) (fun h_2 => ?_)
    · refine k_iconst (v := 0) dX2_faultOfBlocks_12 rfl ?_
      refine k_istore_n (ls' := [(0, .ref 23), (1, .int (iI (c))), (2, .int (iI (0)))]) dX2_faultOfBlocks_13 rfl (by decide) rfl rfl ?_
      refine k_downI (P := fun i14 : Nat => k_V E mX2_faultOfBlocks _ 14 [(0, .ref 23), (1, .int (iI (c))), (2, .int (iI ((i14 : Int))))] [] sh σ _ _ _) (J := fun i14 : Nat => ∀ j, j < i14 → f_open σ (j : Int) / z_one c = 0) ((σ 1 0).toNat) (fun j hj => absurd hj (Nat.not_lt_zero j)) ?_ ?_
      · intro hJ14
        have q1 := f_open_r hI (((σ 1 0).toNat) : Int)
        have q2 : 0 ≤ f_open σ (((σ 1 0).toNat) : Int) / z_one c := Int.ediv_nonneg q1.1 (Int.le_of_lt (z_one_pos c))
        have q3 : f_open σ (((σ 1 0).toNat) : Int) / z_one c ≤ f_open σ (((σ 1 0).toNat) : Int) := Int.ediv_le_self _ q1.1
        refine k_iload_n dX2_faultOfBlocks_14 2 rfl rfl ?_
        refine k_aload_n dX2_faultOfBlocks_15 0 rfl rfl (by decide) ?_
        refine k_get (kf := 0) (v := .ref 1) dX2_faultOfBlocks_16 kcX2 w_262 (by decide) (by decide) (s_23 hsh) rfl rfl ?_
        refine k_getN (kf := 0) (v := .int (iI (σ 1 0))) dX2_faultOfBlocks_19 kcX5 w_134 (by decide) (by decide) (s_1 hsh) rfl rfl ?_
        refine k_icmp_ge (tgt := 46) dX2_faultOfBlocks_22 rfl ⟨by omega, by omega⟩ ⟨by omega, by omega⟩ (fun h_3 => ?_) (fun h_3 => absurd h_3 (by omega))
        refine k_iconst (v := 0) dX2_faultOfBlocks_46 rfl ?_
        exact k_reti dX2_faultOfBlocks_47 rfl rfl (by exact (show e_blocks σ c = 0 by rw [e_blocks, if_pos (show 1 ≤ c ∧ c ≤ 4 by omega), if_pos hJ14]).symm)
      · intro i14 hi14 hJ14 ih14
        have q1 := f_open_r hI (i14 : Int)
        have q2 : 0 ≤ f_open σ (i14 : Int) / z_one c := Int.ediv_nonneg q1.1 (Int.le_of_lt (z_one_pos c))
        have q3 : f_open σ (i14 : Int) / z_one c ≤ f_open σ (i14 : Int) := Int.ediv_le_self _ q1.1
        refine k_iload_n dX2_faultOfBlocks_14 2 rfl rfl ?_
        refine k_aload_n dX2_faultOfBlocks_15 0 rfl rfl (by decide) ?_
        refine k_get (kf := 0) (v := .ref 1) dX2_faultOfBlocks_16 kcX2 w_262 (by decide) (by decide) (s_23 hsh) rfl rfl ?_
        refine k_getN (kf := 0) (v := .int (iI (σ 1 0))) dX2_faultOfBlocks_19 kcX5 w_134 (by decide) (by decide) (s_1 hsh) rfl rfl ?_
        refine k_icmp_ge (tgt := 46) dX2_faultOfBlocks_22 rfl ⟨by omega, by omega⟩ ⟨by omega, by omega⟩ (fun h_4 => absurd h_4 (by omega)) (fun h_4 => ?_)
        refine k_aload_n dX2_faultOfBlocks_25 0 rfl rfl (by decide) ?_
        refine k_get (kf := 0) (v := .ref 1) dX2_faultOfBlocks_26 kcX2 w_262 (by decide) (by decide) (s_23 hsh) rfl rfl ?_
        refine k_iload_n dX2_faultOfBlocks_29 2 rfl rfl ?_
        refine k_callVr (st := []) (as := [.int (iI ((i14 : Int)))]) dX2_faultOfBlocks_30 oX5_openBlocks w_628 w_484 w_485 rfl (by omega) rfl (Nat.le_of_ble_eq_true rfl) (by decide) (s_1 hsh) rfl (c_openBlocks hsh hI ⟨by omega, by omega⟩) ?_
        refine k_iload_n dX2_faultOfBlocks_33 1 rfl rfl ?_
        refine k_ishr (v := (iI ((f_open σ ((i14 : Int))) / z_one c))) dX2_faultOfBlocks_34 (z_shrI (by omega) (by omega) (by omega) (by omega)) ?_
        refine k_if_eq (tgt := 40) dX2_faultOfBlocks_35 rfl ⟨by omega, by omega⟩ (fun h_5 => ?_) (fun h_5 => ?_)
        · refine k_iinc (ls' := [(0, .ref 23), (1, .int (iI (c))), (2, .int (iI ((i14 : Int) + 1)))]) dX2_faultOfBlocks_40 2 rfl (by decide) rfl rfl ?_
          refine k_goto (tgt := 14) dX2_faultOfBlocks_43 rfl ?_
          exact ih14 (fun j hj => by by_cases e : j = i14; exact e ▸ h_5; exact hJ14 j (by omega))
        · refine k_iconst (v := 3) dX2_faultOfBlocks_38 rfl ?_
          exact k_reti dX2_faultOfBlocks_39 rfl rfl (by exact (show e_blocks σ c = 3 by rw [e_blocks, if_pos (show 1 ≤ c ∧ c ≤ 4 by omega), if_neg (fun q => h_5 (q i14 hi14))]).symm)
    · refine k_iconst (v := 2) dX2_faultOfBlocks_10 rfl ?_
      exact k_reti dX2_faultOfBlocks_11 rfl rfl (by exact (if_neg (by omega)).symm)
theorem f_free_b (hI : k_Ty σ) (p : Int) : 0 ≤ f_free σ p ∧ f_free σ p < 16 := f_free_r σ p (σ 1 1).toNat (by have := hI.2.1; omega)
theorem f_reason_r (σ : Nat → Nat → Int) (s f : Int) : 1 ≤ f_reason σ s f ∧ f_reason σ s f ≤ 3 := by
  unfold f_reason
  (repeat' split) <;> decide
theorem f_few_r (hI : k_Ty σ) (hC : k_Ch σ) (s f : Int) : -1 ≤ f_few σ s f ∧ f_few σ s f ≤ 3 := by
  unfold f_few f_read
  split
  · exact (u_fewN_ch hI hC s 3 (by decide)).2.2 _
  · decide
theorem u_few_pl (s : Int) : k_PlEq (u_few σ s) σ := u_fewN_pl s 3
theorem k_PlEq.reason {τ : Nat → Nat → Int} (h : k_PlEq τ σ) (s f : Int) : f_reason τ s f = f_reason σ s f := by
  unfold f_reason
  rw [h.opn]
set_option maxHeartbeats 4000000 in
theorem c_refusal (hsh : k_Main sh) (hI : k_Ty σ) {s f : Int} (hs : -2147483648 ≤ s ∧ s < 2147483648) (hf : -2147483648 ≤ f ∧ f < 2147483648) (hf0 : 0 ≤ f ∧ f < 65536) : k_C E mX2_refusal 5 [.ref 23, .int (iI (s)), .int (iI (f))] sh σ 0 0 (k_ret (some (.int (iI (4)))) sh (k_up σ 23 (k_u1 (σ 23) 4 (f_reason σ s f)))) := by
  refine k_C_of (ls0 := [(0, .ref 23), (1, .int (iI (s))), (2, .int (iI (f)))]) rfl pnX2 (fun v hv => k_cat1 rfl hv) (Nat.le_of_ble_eq_true rfl) rfl ?_
  obtain ⟨t0, t1, t2, t3, t4, t5, t6, t7, t8, t9, t10, t11⟩ := id hI
  refine k_aload_n dX2_refusal_0 0 rfl rfl (by decide) ?_
  refine k_aload_n dX2_refusal_1 0 rfl rfl (by decide) ?_
  refine k_get (kf := 2) (v := .ref 14) dX2_refusal_2 kcX2 w_264 (by decide) (by decide) (s_23 hsh) rfl rfl ?_
  refine k_iload_n dX2_refusal_5 1 rfl rfl ?_
  refine k_iload_n dX2_refusal_6 2 rfl rfl ?_
  refine k_callVr (st := [.ref 23]) (as := [.int (iI (s)), .int (iI (f))]) dX2_refusal_7 oX1_reasonAgainst w_690 w_691 w_692 rfl (by omega) rfl (Nat.le_of_ble_eq_true rfl) (by decide) (s_14 hsh) rfl (c_reasonAgainst hsh hI ⟨by omega, by omega⟩ ⟨by omega, by omega⟩ (by omega)) ?_
  refine k_putf (kf := 4) dX2_refusal_10 kcX2 w_266 (by decide) (by decide) (s_23 hsh) rfl rfl rfl rfl ?_
  refine k_iconst (v := 4) dX2_refusal_13 rfl ?_
  exact k_reti dX2_refusal_14 rfl rfl (by rfl)
set_option maxHeartbeats 4000000 in
theorem c_faultOfJoining (hsh : k_Main sh) (hI : k_Ty σ) (hC : k_Ch σ) {p s : Int} (hp : -2147483648 ≤ p ∧ p < 2147483648) (hs : -2147483648 ≤ s ∧ s < 2147483648) : k_C E mX2_faultOfJoining 6 [.ref 23, .int (iI (p)), .int (iI (s))] sh σ 0 0 (k_ret (some (.int (iI (e_join σ p s)))) sh (u_joinE σ p s)) := by
  refine k_C_of (ls0 := [(0, .ref 23), (1, .int (iI (p))), (2, .int (iI (s)))]) rfl pnX2 (fun v hv => k_cat1 rfl hv) (Nat.le_of_ble_eq_true rfl) rfl ?_
  obtain ⟨t0, t1, t2, t3, t4, t5, t6, t7, t8, t9, t10, t11⟩ := id hI
  have q1 := e_joiner_r σ p s
  have q2 := f_free_b hI p
  have q5 := f_few_r hI hC s (f_free σ p)
  refine k_aload_n dX2_faultOfJoining_0 0 rfl rfl (by decide) ?_
  refine k_iload_n dX2_faultOfJoining_1 1 rfl rfl ?_
  refine k_iload_n dX2_faultOfJoining_2 2 rfl rfl ?_
  refine k_callVr (st := []) (as := [.int (iI (p)), .int (iI (s))]) dX2_faultOfJoining_3 oX2_faultOfJoiner w_655 w_656 w_657 rfl (by omega) rfl (Nat.le_of_ble_eq_true rfl) (by decide) (s_23 hsh) rfl (c_faultOfJoiner hsh hI  ⟨by omega, by omega⟩ ⟨by omega, by omega⟩) ?_
  refine k_istore_n (ls' := [(0, .ref 23), (1, .int (iI (p))), (2, .int (iI (s))), (3, .int (iI (e_joiner σ p s)))]) dX2_faultOfJoining_6 rfl (by decide) rfl rfl ?_
  refine k_iload_n dX2_faultOfJoining_7 3 rfl rfl ?_
  refine k_if_eq (tgt := 13) dX2_faultOfJoining_8 rfl ⟨by omega, by omega⟩ (fun h_1 => ?_) (fun h_1 => ?_)
  · have q3 := e_joiner_0 (by omega : e_joiner σ p s = 0)
    have q4 : e_joiner σ p s = 0 := by omega
    refine k_aload_n dX2_faultOfJoining_13 0 rfl rfl (by decide) ?_
    refine k_get (kf := 0) (v := .ref 1) dX2_faultOfJoining_14 kcX2 w_262 (by decide) (by decide) (s_23 hsh) rfl rfl ?_
    refine k_iload_n dX2_faultOfJoining_17 1 rfl rfl ?_
    refine k_callVr (st := []) (as := [.int (iI (p))]) dX2_faultOfJoining_18 oX5_freeBlocks w_660 w_661 w_662 rfl (by omega) rfl (Nat.le_of_ble_eq_true rfl) (by decide) (s_1 hsh) rfl (c_freeBlocks hsh hI ⟨by omega, by omega⟩ (by omega)) ?_
    refine k_istore (ls' := [(0, .ref 23), (1, .int (iI (p))), (2, .int (iI (s))), (3, .int (iI (e_joiner σ p s))), (4, .int (iI (f_free σ p)))]) dX2_faultOfJoining_21 (by decide) rfl rfl ?_
    refine k_aload_n dX2_faultOfJoining_23 0 rfl rfl (by decide) ?_
    refine k_get (kf := 2) (v := .ref 14) dX2_faultOfJoining_24 kcX2 w_264 (by decide) (by decide) (s_23 hsh) rfl rfl ?_
    refine k_iload_n dX2_faultOfJoining_27 2 rfl rfl ?_
    refine k_iload dX2_faultOfJoining_28 4 rfl ?_
    refine k_callVr (st := []) (as := [.int (iI (s)), .int (iI (f_free σ p))]) dX2_faultOfJoining_30 oX1_fewestMoves w_664 w_665 w_666 rfl (by omega) rfl (Nat.le_of_ble_eq_true rfl) (by decide) (s_14 hsh) rfl (c_fewestMoves hsh hI hC ⟨by omega, by omega⟩ ⟨by omega, by omega⟩ (by omega)) ?_
    refine k_iconst (v := (-1)) dX2_faultOfJoining_33 rfl ?_
    refine k_icmp_eq (tgt := 41) dX2_faultOfJoining_34 rfl ⟨by omega, by omega⟩ ⟨by decide, by decide⟩ (fun h_2 => ?_) (fun h_2 => ?_)
    · refine k_aload_n dX2_faultOfJoining_41 0 rfl rfl (by decide) ?_
      refine k_iload_n dX2_faultOfJoining_42 2 rfl rfl ?_
      refine k_iload dX2_faultOfJoining_43 4 rfl ?_
      refine k_callVr (st := []) (as := [.int (iI (s)), .int (iI (f_free σ p))]) dX2_faultOfJoining_45 oX2_refusal w_686 w_688 w_18 rfl (by omega) rfl (Nat.le_of_ble_eq_true rfl) (by decide) (s_23 hsh) rfl (c_refusal hsh ((u_few_pl _).ty hI) ⟨by omega, by omega⟩ ⟨by omega, by omega⟩ (by omega)) ?_
      exact k_reti dX2_faultOfJoining_48 rfl (by unfold u_joinE; rw [if_pos (by assumption)]; unfold u_seek; rw [if_pos h_2]; exact congrArg (fun z => k_up (u_few σ s) 23 (k_u1 (σ 23) 4 z)) ((u_few_pl s).reason s (f_free σ p))) (by unfold e_join; rw [if_pos (by assumption)]; unfold e_seek; first | rw [if_pos h_2] | rw [if_neg h_2])
    · refine k_iconst (v := 0) dX2_faultOfJoining_37 rfl ?_
      refine k_goto (tgt := 48) dX2_faultOfJoining_38 rfl ?_
      exact k_reti dX2_faultOfJoining_48 rfl (by unfold u_joinE; rw [if_pos (by assumption)]; unfold u_seek; rw [if_neg h_2]) (by unfold e_join; rw [if_pos (by assumption)]; unfold e_seek; first | rw [if_pos h_2] | rw [if_neg h_2])
  · refine k_iload_n dX2_faultOfJoining_11 3 rfl rfl ?_
    exact k_reti dX2_faultOfJoining_12 rfl (by unfold u_joinE; first | exact (if_neg (by omega)).symm | exact (if_pos (by omega)).symm) (by unfold e_join; first | exact (if_neg (by omega)).symm | (rw [if_neg (by omega)]; rfl))
set_option maxHeartbeats 4000000 in
theorem c_faultOfChanging (hsh : k_Main sh) (hI : k_Ty σ) (hC : k_Ch σ) {p a b : Int} (hp : -2147483648 ≤ p ∧ p < 2147483648) (ha : -2147483648 ≤ a ∧ a < 2147483648) (hb : -2147483648 ≤ b ∧ b < 2147483648) : k_C E mX2_faultOfChanging 6 [.ref 23, .int (iI (p)), .int (iI (a)), .int (iI (b))] sh σ 0 0 (k_ret (some (.int (iI (e_change σ p a b)))) sh (u_changeE σ p a b)) := by
  refine k_C_of (ls0 := [(0, .ref 23), (1, .int (iI (p))), (2, .int (iI (a))), (3, .int (iI (b)))]) rfl pnX2 (fun v hv => k_cat1 rfl hv) (Nat.le_of_ble_eq_true rfl) rfl ?_
  obtain ⟨t0, t1, t2, t3, t4, t5, t6, t7, t8, t9, t10, t11⟩ := id hI
  have q1 := f_taken_r hI p a
  have q1b := f_taken_r hI p b
  have q2 := f_free_b hI p
  have q5 := f_few_r hI hC b (f_freeQ σ p a)
  refine k_aload_n dX2_faultOfChanging_0 0 rfl rfl (by decide) ?_
  refine k_get (kf := 0) (v := .ref 1) dX2_faultOfChanging_1 kcX2 w_262 (by decide) (by decide) (s_23 hsh) rfl rfl ?_
  refine k_iload_n dX2_faultOfChanging_4 1 rfl rfl ?_
  refine k_callVr (st := []) (as := [.int (iI (p))]) dX2_faultOfChanging_5 oX5_hasPupil w_443 w_444 w_445 rfl (by omega) rfl (Nat.le_of_ble_eq_true rfl) (by decide) (s_1 hsh) rfl (c_hasPupil hsh hI ⟨by omega, by omega⟩) ?_
  refine k_if_eq (tgt := 33) dX2_faultOfChanging_8 rfl (zb_kr _) (fun h_1 => ?_) (fun h_1 => ?_)
  · have h_1 := zb_0.mp h_1
    refine k_iconst (v := 1) dX2_faultOfChanging_33 rfl ?_
    exact k_reti dX2_faultOfChanging_34 rfl (by unfold u_changeE; rw [if_neg]; unfold e_chg; (repeat' split) <;> first | omega | (exfalso; omega) | decide) (by unfold e_change e_chg; (repeat' split) <;> first | rfl | omega | (exfalso; omega))
  · have h_1 := zb_n0.mp h_1
    refine k_aload_n dX2_faultOfChanging_11 0 rfl rfl (by decide) ?_
    refine k_get (kf := 0) (v := .ref 1) dX2_faultOfChanging_12 kcX2 w_262 (by decide) (by decide) (s_23 hsh) rfl rfl ?_
    refine k_iload_n dX2_faultOfChanging_15 2 rfl rfl ?_
    refine k_callVr (st := []) (as := [.int (iI (a))]) dX2_faultOfChanging_16 oX5_hasSubject w_648 w_488 w_489 rfl (by omega) rfl (Nat.le_of_ble_eq_true rfl) (by decide) (s_1 hsh) rfl (c_hasSubject hsh hI ⟨by omega, by omega⟩) ?_
    refine k_if_eq (tgt := 33) dX2_faultOfChanging_19 rfl (zb_kr _) (fun h_2 => ?_) (fun h_2 => ?_)
    · have h_2 := zb_0.mp h_2
      refine k_iconst (v := 1) dX2_faultOfChanging_33 rfl ?_
      exact k_reti dX2_faultOfChanging_34 rfl (by unfold u_changeE; rw [if_neg]; unfold e_chg; (repeat' split) <;> first | omega | (exfalso; omega) | decide) (by unfold e_change e_chg; (repeat' split) <;> first | rfl | omega | (exfalso; omega))
    · have h_2 := zb_n0.mp h_2
      refine k_aload_n dX2_faultOfChanging_22 0 rfl rfl (by decide) ?_
      refine k_get (kf := 0) (v := .ref 1) dX2_faultOfChanging_23 kcX2 w_262 (by decide) (by decide) (s_23 hsh) rfl rfl ?_
      refine k_iload_n dX2_faultOfChanging_26 3 rfl rfl ?_
      refine k_callVr (st := []) (as := [.int (iI (b))]) dX2_faultOfChanging_27 oX5_hasSubject w_648 w_488 w_489 rfl (by omega) rfl (Nat.le_of_ble_eq_true rfl) (by decide) (s_1 hsh) rfl (c_hasSubject hsh hI ⟨by omega, by omega⟩) ?_
      refine k_if_ne (tgt := 35) dX2_faultOfChanging_30 rfl (zb_kr _) (fun h_3 => ?_) (fun h_3 => ?_)
      · have h_3 := zb_n0.mp h_3
        refine k_aload_n dX2_faultOfChanging_35 0 rfl rfl (by decide) ?_
        refine k_get (kf := 0) (v := .ref 1) dX2_faultOfChanging_36 kcX2 w_262 (by decide) (by decide) (s_23 hsh) rfl rfl ?_
        refine k_iload_n dX2_faultOfChanging_39 1 rfl rfl ?_
        refine k_iload_n dX2_faultOfChanging_40 2 rfl rfl ?_
        refine k_callVr (st := []) (as := [.int (iI (p)), .int (iI (a))]) dX2_faultOfChanging_41 oX5_blockTaken w_659 w_535 w_536 rfl (by omega) rfl (Nat.le_of_ble_eq_true rfl) (by decide) (s_1 hsh) rfl (c_blockTaken hsh hI ⟨by omega, by omega⟩ ⟨by omega, by omega⟩ (by omega)) ?_
        refine k_istore (ls' := [(0, .ref 23), (1, .int (iI (p))), (2, .int (iI (a))), (3, .int (iI (b))), (4, .int (iI (f_taken σ p a)))]) dX2_faultOfChanging_44 (by decide) rfl rfl ?_
        refine k_iload dX2_faultOfChanging_46 4 rfl ?_
        refine k_iconst (v := (-1)) dX2_faultOfChanging_48 rfl ?_
        refine k_icmp_eq (tgt := 65) dX2_faultOfChanging_49 rfl ⟨by omega, by omega⟩ ⟨by decide, by decide⟩ (fun h_4 => ?_) (fun h_4 => ?_)
        · refine k_iconst (v := 3) dX2_faultOfChanging_65 rfl ?_
          exact k_reti dX2_faultOfChanging_66 rfl (by unfold u_changeE; rw [if_neg]; unfold e_chg; (repeat' split) <;> first | omega | (exfalso; omega) | decide) (by unfold e_change e_chg; (repeat' split) <;> first | rfl | omega | (exfalso; omega))
        · refine k_aload_n dX2_faultOfChanging_52 0 rfl rfl (by decide) ?_
          refine k_get (kf := 0) (v := .ref 1) dX2_faultOfChanging_53 kcX2 w_262 (by decide) (by decide) (s_23 hsh) rfl rfl ?_
          refine k_iload_n dX2_faultOfChanging_56 1 rfl rfl ?_
          refine k_iload_n dX2_faultOfChanging_57 3 rfl rfl ?_
          refine k_callVr (st := []) (as := [.int (iI (p)), .int (iI (b))]) dX2_faultOfChanging_58 oX5_blockTaken w_659 w_535 w_536 rfl (by omega) rfl (Nat.le_of_ble_eq_true rfl) (by decide) (s_1 hsh) rfl (c_blockTaken hsh hI ⟨by omega, by omega⟩ ⟨by omega, by omega⟩ (by omega)) ?_
          refine k_iconst (v := (-1)) dX2_faultOfChanging_61 rfl ?_
          refine k_icmp_eq (tgt := 67) dX2_faultOfChanging_62 rfl ⟨by omega, by omega⟩ ⟨by decide, by decide⟩ (fun h_5 => ?_) (fun h_5 => ?_)
          · have q4 : e_chg σ p a b = 0 := by rw [e_chg, if_pos (by omega), if_neg (by omega)]
            have q7 := z_one_pos (f_taken σ p a)
            have q8 : z_one (f_taken σ p a) < 16 := z_one_lt 4 (by omega) (by omega)
            have q9 : 0 ≤ f_freeQ σ p a ∧ f_freeQ σ p a < 16 := ⟨z_or_nn _ _, z_or_lt 4 q2.2 q8⟩
            refine k_aload_n dX2_faultOfChanging_67 0 rfl rfl (by decide) ?_
            refine k_get (kf := 0) (v := .ref 1) dX2_faultOfChanging_68 kcX2 w_262 (by decide) (by decide) (s_23 hsh) rfl rfl ?_
            refine k_iload_n dX2_faultOfChanging_71 1 rfl rfl ?_
            refine k_callVr (st := []) (as := [.int (iI (p))]) dX2_faultOfChanging_72 oX5_freeBlocks w_660 w_661 w_662 rfl (by omega) rfl (Nat.le_of_ble_eq_true rfl) (by decide) (s_1 hsh) rfl (c_freeBlocks hsh hI ⟨by omega, by omega⟩ (by omega)) ?_
            refine k_iconst (v := 1) dX2_faultOfChanging_75 rfl ?_
            refine k_iload dX2_faultOfChanging_76 4 rfl ?_
            refine k_ishl (v := (iI (z_one (f_taken σ p a)))) dX2_faultOfChanging_78 (z_oneI (by omega) (by omega)) ?_
            refine k_ior (v := (iI (z_or (f_free σ p) (z_one (f_taken σ p a))))) dX2_faultOfChanging_79 (z_orI (by omega) (Int.le_of_lt (z_one_pos _))) ?_
            refine k_eqst (congrArg (fun z : Int => Value.int (iI z) :: []) (show f_freeQ σ p a = z_or (f_free σ p) (z_one (f_taken σ p a)) from rfl)) ?_
            refine k_istore (ls' := [(0, .ref 23), (1, .int (iI (p))), (2, .int (iI (a))), (3, .int (iI (b))), (4, .int (iI (f_taken σ p a))), (5, .int (iI (f_freeQ σ p a)))]) dX2_faultOfChanging_80 (by decide) rfl rfl ?_
            refine k_aload_n dX2_faultOfChanging_82 0 rfl rfl (by decide) ?_
            refine k_get (kf := 2) (v := .ref 14) dX2_faultOfChanging_83 kcX2 w_264 (by decide) (by decide) (s_23 hsh) rfl rfl ?_
            refine k_iload_n dX2_faultOfChanging_86 3 rfl rfl ?_
            refine k_iload dX2_faultOfChanging_87 5 rfl ?_
            refine k_callVr (st := []) (as := [.int (iI (b)), .int (iI (f_freeQ σ p a))]) dX2_faultOfChanging_89 oX1_fewestMoves w_664 w_665 w_666 rfl (by omega) rfl (Nat.le_of_ble_eq_true rfl) (by decide) (s_14 hsh) rfl (c_fewestMoves hsh hI hC ⟨by omega, by omega⟩ ⟨by omega, by omega⟩ (by omega)) ?_
            refine k_iconst (v := (-1)) dX2_faultOfChanging_92 rfl ?_
            refine k_icmp_eq (tgt := 100) dX2_faultOfChanging_93 rfl ⟨by omega, by omega⟩ ⟨by decide, by decide⟩ (fun h_6 => ?_) (fun h_6 => ?_)
            · refine k_aload_n dX2_faultOfChanging_100 0 rfl rfl (by decide) ?_
              refine k_iload_n dX2_faultOfChanging_101 3 rfl rfl ?_
              refine k_iload dX2_faultOfChanging_102 5 rfl ?_
              refine k_callVr (st := []) (as := [.int (iI (b)), .int (iI (f_freeQ σ p a))]) dX2_faultOfChanging_104 oX2_refusal w_686 w_688 w_18 rfl (by omega) rfl (Nat.le_of_ble_eq_true rfl) (by decide) (s_23 hsh) rfl (c_refusal hsh ((u_few_pl _).ty hI) ⟨by omega, by omega⟩ ⟨by omega, by omega⟩ (by omega)) ?_
              exact k_reti dX2_faultOfChanging_107 rfl (by unfold u_changeE; rw [if_pos (by assumption)]; unfold u_seek; rw [if_pos h_6]; exact congrArg (fun z => k_up (u_few σ b) 23 (k_u1 (σ 23) 4 z)) ((u_few_pl b).reason b (f_freeQ σ p a))) (by unfold e_change; rw [if_pos (by assumption)]; unfold e_seek; first | rw [if_pos h_6] | rw [if_neg h_6])
            · refine k_iconst (v := 0) dX2_faultOfChanging_96 rfl ?_
              refine k_goto (tgt := 107) dX2_faultOfChanging_97 rfl ?_
              exact k_reti dX2_faultOfChanging_107 rfl (by unfold u_changeE; rw [if_pos (by assumption)]; unfold u_seek; rw [if_neg h_6]) (by unfold e_change; rw [if_pos (by assumption)]; unfold e_seek; first | rw [if_pos h_6] | rw [if_neg h_6])
          · refine k_iconst (v := 3) dX2_faultOfChanging_65 rfl ?_
            exact k_reti dX2_faultOfChanging_66 rfl (by unfold u_changeE; rw [if_neg]; unfold e_chg; (repeat' split) <;> first | omega | (exfalso; omega) | decide) (by unfold e_change e_chg; (repeat' split) <;> first | rfl | omega | (exfalso; omega))
      · have h_3 := zb_0.mp h_3
        refine k_iconst (v := 1) dX2_faultOfChanging_33 rfl ?_
        exact k_reti dX2_faultOfChanging_34 rfl (by unfold u_changeE; rw [if_neg]; unfold e_chg; (repeat' split) <;> first | omega | (exfalso; omega) | decide) (by unfold e_change e_chg; (repeat' split) <;> first | rfl | omega | (exfalso; omega))
end K_Y
