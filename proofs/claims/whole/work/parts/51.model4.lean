/-! ===== THE MODEL: its face but the texts ===== -/
section K_M4
variable {E : k_E} {M : k_M} {dp pc k n : Nat} {ls : List (Nat × Value)} {st : List Value} {sh : List k_Sh} {σ : Nat → Nat → Int} {r : Nat → Int} {Q : k_Q}
theorem iI_zero {a : Int} (h : -4294967296 < a ∧ a < 4294967296) : iI a = iI 0 ↔ a = 0 := by
  refine ⟨fun e => ?_, fun e => by rw [e]⟩
  have h1 : (iI a).toInt = 0 := by rw [e]; decide
  have h2 : (iI a).toInt = a.bmod (2 ^ 32) := Int32.toInt_ofInt
  rw [h2] at h1
  have h4 := Int.dvd_of_bmod_eq_zero h1
  obtain ⟨c, hc⟩ := h4
  omega
theorem k_if_neW {a off : Int} {tgt : Nat} (hd : decode M.2.1 pc = .ok (.ifCond .ne off, 3)) (ht : (pc : Int) + off = (tgt : Int)) (ha : -4294967296 < a ∧ a < 4294967296) (kt : ¬ a = 0 → k_V E M dp tgt ls st sh σ k n Q) (kf : a = 0 → k_V E M dp (pc + 3) ls st sh σ k n Q) : k_V E M dp pc ls (.int (iI a) :: st) sh σ k n Q := by
  intro N0 ad0 p e R s m args below meth c H locs cells slots lsC ad mc ms C X hl
  exact lv_if_ne C.1 C.2.1 hd ht (fun q => (kt (fun z => q ((iI_zero ha).mpr z))) N0 ad0 p e R s m args below meth c H locs cells slots lsC ad mc ms C X hl) (fun q => (kf ((iI_zero ha).mp q)) N0 ad0 p e R s m args below meth c H locs cells slots lsC ad mc ms C X hl)
theorem k_retcP {e e' : Int} {R : Prop} {σ' : Nat → Nat → Int} (hd : decode M.2.1 pc = .ok (.ireturn, 1)) (hr : M.2.2.2.1 = some .char) (hn : narrow .char (.int (iI e)) = .int (iI e)) (hσ : σ' = σ) (he : e = e') (hR : R) : k_V E M dp pc ls [.int (iI e)] sh σ' k n (k_retP (some (.int (iI e'))) sh σ R) := k_ret_z hd hr hn ⟨by rw [he], rfl, hσ, hR⟩
theorem k_Mo_mix {r g : Nat → Int} (h : k_Mo r) (hg : k_Mo g) (j : Nat) : k_Mo (k_u1 r j (g j)) := by
  obtain ⟨g0, g1, g2, g3, g4, g5, g6, g7, g8, g9⟩ := hg
  refine k_Mo_u h ⟨g4 j, fun e => by subst e; exact g0, fun e => by subst e; exact g1, fun e => by subst e; exact g2.1, fun e => by subst e; exact g3.2, fun a b => g5 j a b, fun a b => g6 j a b, fun a b => g7 j a b, fun a b => g8 j a b, fun a => g9 j a⟩
theorem k_Mo_mixU {r f : Nat → Int} {u k m : Nat} (h : k_Mo r) (hg : k_Mo (fun j => f (153 * u + j))) (e : m = 153 * u + k) : k_Mo (k_u1 r k (f m)) := by
  subst e
  exact k_Mo_mix h hg k
theorem dX8_failureKind_24 : decode cX8_failureKind 24 = .ok (.ireturn, 1) := by decide +kernel
theorem m_wp0 {r : Nat → Int} {s o : Int} (h : m_wrongPair r s o = 0) : (0 ≤ s ∧ s < r 0) ∧ 0 ≤ o ∧ o < r 0 := by
  unfold m_wrongPair at h
  by_cases a : 0 ≤ s ∧ s < r 0
  · by_cases b : 0 ≤ o ∧ o < r 0
    · exact ⟨a, b⟩
    · rw [if_pos a, if_neg b] at h
      cases h
  · rw [if_neg a] at h
    cases h
abbrev R_ends (t : Int × (Nat → Nat → Int)) : Prop := (-1 ≤ t.1 ∧ t.1 ≤ 1000) ∧ k_MA t.2
def r_ends_99 (σ : Nat → Nat → Int) (v : Int) (x : Int) (y : Int) (x99 : (Nat → Int)) : Int × (Nat → Nat → Int) := (v, (k_up (k_up σ 123 (k_u1 (k_u1 (σ 123) 5 (((σ 123) 5) + 1)) 7 (0))) 128 x99))
def b_ends_99 (σ : Nat → Nat → Int) (v : Int) (x : Int) (y : Int) (i99 : Nat) (x99 : (Nat → Int)) : (Nat → Int) := (k_u1 x99 ((153 * ((σ 123) 5)) + ((i99 : Int))).toNat ((σ 125) ((i99 : Int)).toNat))
def r_ends_99_2 (σ : Nat → Nat → Int) (v : Int) (x : Int) (y : Int) (x59 : (Nat → Int)) (x99 : (Nat → Int)) : Int × (Nat → Nat → Int) := (v, (k_up (k_up σ 123 (k_u1 (k_u1 (k_u1 (σ 123) 5 (((σ 123) 5) - 1)) 5 ((((σ 123) 5) - 1) + 1)) 7 (0))) 128 x99))
def b_ends_99_2 (σ : Nat → Nat → Int) (v : Int) (x : Int) (y : Int) (x59 : (Nat → Int)) (i99 : Nat) (x99 : (Nat → Int)) : (Nat → Int) := (k_u1 x99 ((153 * (((σ 123) 5) - 1)) + ((i99 : Int))).toNat ((σ 125) ((i99 : Int)).toNat))
def r_ends_59 (σ : Nat → Nat → Int) (v : Int) (x : Int) (y : Int) (x59 : (Nat → Int)) : Int × (Nat → Nat → Int) := (r_ends_99_2 σ v x y x59) (k_it (b_ends_99_2 σ v x y x59) (153) 0 (x59))
def b_ends_59 (σ : Nat → Nat → Int) (v : Int) (x : Int) (y : Int) (i59 : Nat) (x59 : (Nat → Int)) : (Nat → Int) := (k_u1 x59 ((i59 : Int)).toNat (x59 (((i59 : Int)) + 153).toNat))
def m_ends (σ : Nat → Nat → Int) (v : Int) (x : Int) (y : Int) : Int × (Nat → Nat → Int) := if ((σ 123) 8) = 0 then if ((σ 123) 5) = 8 then (r_ends_59 σ v x y) (k_it (b_ends_59 σ v x y) ((153 * (((σ 123) 5) - 1)).toNat) 0 ((σ 128))) else (r_ends_99 σ v x y) (k_it (b_ends_99 σ v x y) (153) 0 ((σ 128))) else if ((σ 123) 8) = x then (0, (k_up σ 123 (k_u1 (σ 123) 7 (1)))) else if ((σ 123) 8) = y then (0, (k_up σ 123 (k_u1 (σ 123) 7 (2)))) else (0, (k_up σ 123 (k_u1 (σ 123) 7 (3))))
set_option maxRecDepth 100000 in
set_option maxHeartbeats 4000000 in
theorem c8_ends (hsh : k_Main sh) (hMA : k_MA σ) {v x y : Int} (h_v : -1 ≤ v ∧ v ≤ 1000) (h_x : 0 ≤ x ∧ x ≤ 4) (h_y : 0 ≤ y ∧ y ≤ 4) : k_C E mX8_ends 2 [.ref 123, .int (iI (v)), .int (iI (x)), .int (iI (y))] sh σ 0 0 ((k_pP sh R_ends) (m_ends σ v x y)) := by
  refine k_C_of (ls0 := [(0, .ref 123), (1, .int (iI (v))), (2, .int (iI (x))), (3, .int (iI (y)))]) rfl pnX8 (fun v hv => k_cat1 rfl hv) (Nat.le_of_ble_eq_true rfl) rfl ?_
  obtain ⟨⟨t0, t0b⟩, ⟨t1, t1b⟩, ⟨t2, t2b⟩, ⟨t3, t3b⟩, -⟩ := id hMA.2.1
  obtain ⟨⟨f19_0, g19_0⟩, ⟨f19_1, g19_1⟩, ⟨f19_2, g19_2⟩, ⟨f19_3, g19_3⟩, ⟨f19_4, g19_4⟩, ⟨f19_5, g19_5⟩, ⟨f19_6, g19_6⟩, ⟨f19_7, g19_7⟩, ⟨f19_8, g19_8⟩, ⟨f19_9, g19_9⟩, ⟨f19_10, g19_10⟩, ⟨f19_11, g19_11⟩, ⟨f19_12, g19_12⟩, ⟨f19_13, g19_13⟩⟩ := id hMA.1
  unfold m_ends
  refine k_aload_n dX8_ends_0 0 rfl rfl (by decide) ?_
  refine k_get (kf := 8) (v := .int (iI ((σ 123) 8))) dX8_ends_1 kcX8 w_1755 (by decide) (by decide) (s_123 hsh) rfl rfl ?_
  refine k_if_eq (tgt := 37) dX8_ends_4 rfl ⟨by omega, by omega⟩ (fun h1 => ?_) (fun h1 => ?_)
  · refine k_ift (F := (k_pP sh R_ends)) h1 ?_
    refine k_aload_n dX8_ends_37 0 rfl rfl (by decide) ?_
    refine k_get (kf := 5) (v := .int (iI ((σ 123) 5))) dX8_ends_38 kcX8 w_1752 (by decide) (by decide) (s_123 hsh) rfl rfl ?_
    refine k_bipush (v := 8) dX8_ends_41 (by decide) ?_
    refine k_icmp_ne (tgt := 96) dX8_ends_43 rfl ⟨by omega, by omega⟩ ⟨by decide, by decide⟩ (fun h2 => ?_) (fun h2 => ?_)
    · refine k_iff (F := (k_pP sh R_ends)) h2 ?_
      refine k_iconst (v := 0) dX8_ends_96 rfl ?_
      refine k_istore (ls' := [(0, .ref 123), (1, .int (iI (v))), (2, .int (iI (x))), (3, .int (iI (y))), (4, .int (iI (0)))]) dX8_ends_97 (by decide) rfl rfl ?_
      refine k_eqσ (σ' := (k_up σ 128 (σ 128))) ((show k_up σ 128 (σ 128) = (k_up σ 128 (σ 128)) from rfl).symm.trans (k_up_self _ _)) ?_
      refine k_loop (α := (Nat → Int)) (P := fun (i99 : Nat) (x99 : (Nat → Int)) Q => k_V E mX8_ends _ 99 [(0, .ref 123), (1, .int (iI (v))), (2, .int (iI (x))), (3, .int (iI (y))), (4, .int (iI ((i99 : Int))))] [] sh (k_up σ 128 x99) _ _ Q) (J := fun (i99 : Nat) (x99 : (Nat → Int)) => True) (153) (b_ends_99 σ v x y) ((σ 128)) (F := fun t => (k_pP sh R_ends) ((r_ends_99 σ v x y) t)) (show True from True.intro) ?_ ?_
      · intro x99 hJ99
        show k_V E mX8_ends _ 99 [(0, .ref 123), (1, .int (iI (v))), (2, .int (iI (x))), (3, .int (iI (y))), (4, .int (iI (((153 : Nat) : Int))))] [] sh (k_up σ 128 x99) _ _ ((k_pP sh R_ends) ((r_ends_99 σ v x y) x99))
        unfold r_ends_99
        refine k_iload dX8_ends_99 4 rfl ?_
        refine k_sipush (v := 153) dX8_ends_101 (by decide) ?_
        refine k_icmp_ge (tgt := 136) dX8_ends_104 rfl ⟨by omega, by omega⟩ ⟨by decide, by decide⟩ (fun h4 => ?_) (fun h4 => absurd h4 (by omega))
        refine k_aload_n dX8_ends_136 0 rfl rfl (by decide) ?_
        refine k_dup dX8_ends_137 rfl ?_
        refine k_get (kf := 5) (v := .int (iI ((σ 123) 5))) dX8_ends_138 kcX8 w_1752 (by decide) (by decide) (s_123 hsh) rfl rfl ?_
        refine k_iconst (v := 1) dX8_ends_141 rfl ?_
        refine k_iadd dX8_ends_142 ?_
        refine k_putfW (kf := 5) dX8_ends_143 kcX8 w_1752 (by decide) (by decide) (s_123 hsh) rfl rfl rfl rfl ?_
        refine k_eqσ (σ' := (k_up (k_up σ 123 (k_u1 (σ 123) 5 (((σ 123) 5) + 1))) 128 x99)) (show k_up (k_up σ 128 x99) 123 (k_u1 (σ 123) 5 (((σ 123) 5) + 1)) = _ from (k_up_comm (by decide))).symm ?_
        refine k_aload_n dX8_ends_146 0 rfl rfl (by decide) ?_
        refine k_iload_n dX8_ends_147 1 rfl rfl ?_
        refine k_callVr (st := []) (as := [.int (iI (v))]) dX8_ends_148 oX8_tells w_1854 w_1856 w_32 rfl (by omega) rfl (Nat.le_of_ble_eq_true rfl) (by decide) (s_123 hsh) rfl (c8_tells hsh) ?_
        refine k_eqσ (σ' := (k_up (k_up σ 123 (k_u1 (k_u1 (σ 123) 5 (((σ 123) 5) + 1)) 7 (0))) 128 x99)) ((show k_up (k_up (k_up σ 123 (k_u1 (σ 123) 5 (((σ 123) 5) + 1))) 128 x99) 123 (k_u1 (k_u1 (σ 123) 5 (((σ 123) 5) + 1)) 7 (0)) = (k_up (k_up σ 123 (k_u1 (k_u1 (σ 123) 5 (((σ 123) 5) + 1)) 7 (0))) 128 x99) from ((k_up_comm (by decide)).trans (congrArg (fun s => k_up s 128 _) k_up_up)))).symm ?_
        exact k_retiP dX8_ends_151 rfl rfl rfl (show (-1 ≤ v ∧ v ≤ 1000) ∧ k_MA (k_up (k_up σ 123 (k_u1 (k_u1 (σ 123) 5 (((σ 123) 5) + 1)) 7 (0))) 128 x99) from ⟨by omega, ⟨(show k_F0 (k_u1 (k_u1 (σ 123) 5 (((σ 123) 5) + 1)) 7 (0)) from (k_F0_u (show k_F0 (k_u1 (σ 123) 5 (((σ 123) 5) + 1)) from (k_F0_u (hMA).1 (by omega))) (by omega))), (hMA).2.1, (hMA).2.2.1, (hMA).2.2.2.1, (hMA).2.2.2.2.1, (hMA).2.2.2.2.2.1, (hMA).2.2.2.2.2.2.1, (hMA).2.2.2.2.2.2.2.1, (hMA).2.2.2.2.2.2.2.2.1, (hMA).2.2.2.2.2.2.2.2.2.1, (hMA).2.2.2.2.2.2.2.2.2.2.1, (hMA).2.2.2.2.2.2.2.2.2.2.2.1, (hMA).2.2.2.2.2.2.2.2.2.2.2.2⟩⟩)
      · intro n99 i99 x99 hi99 hJ99 ih99
        show k_V E mX8_ends _ 99 [(0, .ref 123), (1, .int (iI (v))), (2, .int (iI (x))), (3, .int (iI (y))), (4, .int (iI ((i99 : Int))))] [] sh (k_up σ 128 x99) _ _ ((fun t => (k_pP sh R_ends) ((r_ends_99 σ v x y) (k_it (b_ends_99 σ v x y) n99 (i99 + 1) t))) ((b_ends_99 σ v x y) i99 x99))
        unfold b_ends_99
        refine k_iload dX8_ends_99 4 rfl ?_
        refine k_sipush (v := 153) dX8_ends_101 (by decide) ?_
        refine k_icmp_ge (tgt := 136) dX8_ends_104 rfl ⟨by omega, by omega⟩ ⟨by decide, by decide⟩ (fun h6 => absurd h6 (by omega)) (fun h6 => ?_)
        refine k_aload_n dX8_ends_107 0 rfl rfl (by decide) ?_
        refine k_get (kf := 4) (v := .ref 128) dX8_ends_108 kcX8 w_1751 (by decide) (by decide) (s_123 hsh) rfl rfl ?_
        refine k_sipush (v := 153) dX8_ends_111 (by decide) ?_
        refine k_aload_n dX8_ends_114 0 rfl rfl (by decide) ?_
        refine k_get (kf := 5) (v := .int (iI ((σ 123) 5))) dX8_ends_115 kcX8 w_1752 (by decide) (by decide) (s_123 hsh) rfl rfl ?_
        refine k_imul dX8_ends_118 ?_
        refine k_iload dX8_ends_119 4 rfl ?_
        refine k_iadd dX8_ends_121 ?_
        refine k_aload_n dX8_ends_122 0 rfl rfl (by decide) ?_
        refine k_get (kf := 1) (v := .ref 125) dX8_ends_123 kcX8 w_1748 (by decide) (by decide) (s_123 hsh) rfl rfl ?_
        refine k_iload dX8_ends_126 4 rfl ?_
        refine k_iald dX8_ends_128 (by decide) (s_125 hsh) (by omega) (by omega) (by decide) ?_
        refine k_eqst (st' := [.int (iI ((σ 125) ((i99 : Int)).toNat)), .int (iI ((153 * ((σ 123) 5)) + ((i99 : Int)))), .ref 128]) rfl ?_
        refine k_iastW dX8_ends_129 (by decide) (s_128 hsh) (by omega) (by omega) (by decide) ?_
        refine k_eqσ (σ' := (k_up σ 128 (k_u1 x99 ((153 * ((σ 123) 5)) + ((i99 : Int))).toNat ((σ 125) ((i99 : Int)).toNat)))) (show k_up (k_up σ 128 x99) 128 (k_u1 x99 ((153 * ((σ 123) 5)) + ((i99 : Int))).toNat ((σ 125) ((i99 : Int)).toNat)) = _ from k_up_up).symm ?_
        refine k_iinc (ls' := [(0, .ref 123), (1, .int (iI (v))), (2, .int (iI (x))), (3, .int (iI (y))), (4, .int (iI ((i99 : Int) + 1)))]) dX8_ends_130 4 rfl (by decide) rfl rfl ?_
        refine k_goto (tgt := 99) dX8_ends_133 rfl ?_
        exact ih99 ((k_u1 x99 ((153 * ((σ 123) 5)) + ((i99 : Int))).toNat ((σ 125) ((i99 : Int)).toNat))) (show True from True.intro)
    · refine k_ift (F := (k_pP sh R_ends)) h2 ?_
      refine k_aload_n dX8_ends_46 0 rfl rfl (by decide) ?_
      refine k_dup dX8_ends_47 rfl ?_
      refine k_get (kf := 5) (v := .int (iI ((σ 123) 5))) dX8_ends_48 kcX8 w_1752 (by decide) (by decide) (s_123 hsh) rfl rfl ?_
      refine k_iconst (v := 1) dX8_ends_51 rfl ?_
      refine k_isub dX8_ends_52 ?_
      refine k_putfW (kf := 5) dX8_ends_53 kcX8 w_1752 (by decide) (by decide) (s_123 hsh) rfl rfl rfl rfl ?_
      refine k_eqσ (σ' := (k_up σ 123 (k_u1 (σ 123) 5 (((σ 123) 5) - 1)))) rfl ?_
      refine k_iconst (v := 0) dX8_ends_56 rfl ?_
      refine k_istore (ls' := [(0, .ref 123), (1, .int (iI (v))), (2, .int (iI (x))), (3, .int (iI (y))), (4, .int (iI (0)))]) dX8_ends_57 (by decide) rfl rfl ?_
      refine k_eqσ (σ' := (k_up (k_up σ 123 (k_u1 (σ 123) 5 (((σ 123) 5) - 1))) 128 (σ 128))) ((show k_up (k_up σ 123 (k_u1 (σ 123) 5 (((σ 123) 5) - 1))) 128 (σ 128) = (k_up (k_up σ 123 (k_u1 (σ 123) 5 (((σ 123) 5) - 1))) 128 (σ 128)) from rfl).symm.trans (k_up_self _ _)) ?_
      refine k_loop (α := (Nat → Int)) (P := fun (i59 : Nat) (x59 : (Nat → Int)) Q => k_V E mX8_ends _ 59 [(0, .ref 123), (1, .int (iI (v))), (2, .int (iI (x))), (3, .int (iI (y))), (4, .int (iI ((i59 : Int))))] [] sh (k_up (k_up σ 123 (k_u1 (σ 123) 5 (((σ 123) 5) - 1))) 128 x59) _ _ Q) (J := fun (i59 : Nat) (x59 : (Nat → Int)) => True) ((153 * (((σ 123) 5) - 1)).toNat) (b_ends_59 σ v x y) ((σ 128)) (F := fun t => (k_pP sh R_ends) ((r_ends_59 σ v x y) t)) (show True from True.intro) ?_ ?_
      · intro x59 hJ59
        show k_V E mX8_ends _ 59 [(0, .ref 123), (1, .int (iI (v))), (2, .int (iI (x))), (3, .int (iI (y))), (4, .int (iI ((((153 * (((σ 123) 5) - 1)).toNat : Nat) : Int))))] [] sh (k_up (k_up σ 123 (k_u1 (σ 123) 5 (((σ 123) 5) - 1))) 128 x59) _ _ ((k_pP sh R_ends) ((r_ends_59 σ v x y) x59))
        unfold r_ends_59
        refine k_iload dX8_ends_59 4 rfl ?_
        refine k_sipush (v := 153) dX8_ends_61 (by decide) ?_
        refine k_aload_n dX8_ends_64 0 rfl rfl (by decide) ?_
        refine k_get (kf := 5) (v := .int (iI (((σ 123) 5) - 1))) dX8_ends_65 kcX8 w_1752 (by decide) (by decide) (s_123 hsh) rfl rfl ?_
        refine k_imul dX8_ends_68 ?_
        refine k_icmp_ge (tgt := 96) dX8_ends_69 rfl ⟨by omega, by omega⟩ ⟨by omega, by omega⟩ (fun h8 => ?_) (fun h8 => absurd h8 (by omega))
        refine k_iconst (v := 0) dX8_ends_96 rfl ?_
        refine k_istore (ls' := [(0, .ref 123), (1, .int (iI (v))), (2, .int (iI (x))), (3, .int (iI (y))), (4, .int (iI (0)))]) dX8_ends_97 (by decide) rfl rfl ?_
        refine k_loop (α := (Nat → Int)) (P := fun (i99 : Nat) (x99 : (Nat → Int)) Q => k_V E mX8_ends _ 99 [(0, .ref 123), (1, .int (iI (v))), (2, .int (iI (x))), (3, .int (iI (y))), (4, .int (iI ((i99 : Int))))] [] sh (k_up (k_up σ 123 (k_u1 (σ 123) 5 (((σ 123) 5) - 1))) 128 x99) _ _ Q) (J := fun (i99 : Nat) (x99 : (Nat → Int)) => True) (153) (b_ends_99_2 σ v x y x59) (x59) (F := fun t => (k_pP sh R_ends) ((r_ends_99_2 σ v x y x59) t)) (show True from True.intro) ?_ ?_
        · intro x99 hJ99
          show k_V E mX8_ends _ 99 [(0, .ref 123), (1, .int (iI (v))), (2, .int (iI (x))), (3, .int (iI (y))), (4, .int (iI (((153 : Nat) : Int))))] [] sh (k_up (k_up σ 123 (k_u1 (σ 123) 5 (((σ 123) 5) - 1))) 128 x99) _ _ ((k_pP sh R_ends) ((r_ends_99_2 σ v x y x59) x99))
          unfold r_ends_99_2
          refine k_iload dX8_ends_99 4 rfl ?_
          refine k_sipush (v := 153) dX8_ends_101 (by decide) ?_
          refine k_icmp_ge (tgt := 136) dX8_ends_104 rfl ⟨by omega, by omega⟩ ⟨by decide, by decide⟩ (fun h10 => ?_) (fun h10 => absurd h10 (by omega))
          refine k_aload_n dX8_ends_136 0 rfl rfl (by decide) ?_
          refine k_dup dX8_ends_137 rfl ?_
          refine k_get (kf := 5) (v := .int (iI (((σ 123) 5) - 1))) dX8_ends_138 kcX8 w_1752 (by decide) (by decide) (s_123 hsh) rfl rfl ?_
          refine k_iconst (v := 1) dX8_ends_141 rfl ?_
          refine k_iadd dX8_ends_142 ?_
          refine k_putfW (kf := 5) dX8_ends_143 kcX8 w_1752 (by decide) (by decide) (s_123 hsh) rfl rfl rfl rfl ?_
          refine k_eqσ (σ' := (k_up (k_up σ 123 (k_u1 (k_u1 (σ 123) 5 (((σ 123) 5) - 1)) 5 ((((σ 123) 5) - 1) + 1))) 128 x99)) (show k_up (k_up (k_up σ 123 (k_u1 (σ 123) 5 (((σ 123) 5) - 1))) 128 x99) 123 (k_u1 (k_u1 (σ 123) 5 (((σ 123) 5) - 1)) 5 ((((σ 123) 5) - 1) + 1)) = _ from ((k_up_comm (by decide)).trans (congrArg (fun s => k_up s 128 _) k_up_up))).symm ?_
          refine k_aload_n dX8_ends_146 0 rfl rfl (by decide) ?_
          refine k_iload_n dX8_ends_147 1 rfl rfl ?_
          refine k_callVr (st := []) (as := [.int (iI (v))]) dX8_ends_148 oX8_tells w_1854 w_1856 w_32 rfl (by omega) rfl (Nat.le_of_ble_eq_true rfl) (by decide) (s_123 hsh) rfl (c8_tells hsh) ?_
          refine k_eqσ (σ' := (k_up (k_up σ 123 (k_u1 (k_u1 (k_u1 (σ 123) 5 (((σ 123) 5) - 1)) 5 ((((σ 123) 5) - 1) + 1)) 7 (0))) 128 x99)) ((show k_up (k_up (k_up σ 123 (k_u1 (k_u1 (σ 123) 5 (((σ 123) 5) - 1)) 5 ((((σ 123) 5) - 1) + 1))) 128 x99) 123 (k_u1 (k_u1 (k_u1 (σ 123) 5 (((σ 123) 5) - 1)) 5 ((((σ 123) 5) - 1) + 1)) 7 (0)) = (k_up (k_up σ 123 (k_u1 (k_u1 (k_u1 (σ 123) 5 (((σ 123) 5) - 1)) 5 ((((σ 123) 5) - 1) + 1)) 7 (0))) 128 x99) from ((k_up_comm (by decide)).trans (congrArg (fun s => k_up s 128 _) k_up_up)))).symm ?_
          exact k_retiP dX8_ends_151 rfl rfl rfl (show (-1 ≤ v ∧ v ≤ 1000) ∧ k_MA (k_up (k_up σ 123 (k_u1 (k_u1 (k_u1 (σ 123) 5 (((σ 123) 5) - 1)) 5 ((((σ 123) 5) - 1) + 1)) 7 (0))) 128 x99) from ⟨by omega, ⟨(show k_F0 (k_u1 (k_u1 (k_u1 (σ 123) 5 (((σ 123) 5) - 1)) 5 ((((σ 123) 5) - 1) + 1)) 7 (0)) from (k_F0_u (show k_F0 (k_u1 (k_u1 (σ 123) 5 (((σ 123) 5) - 1)) 5 ((((σ 123) 5) - 1) + 1)) from (k_F0_u (show k_F0 (k_u1 (σ 123) 5 (((σ 123) 5) - 1)) from (k_F0_u (hMA).1 (by omega))) (by omega))) (by omega))), (hMA).2.1, (hMA).2.2.1, (hMA).2.2.2.1, (hMA).2.2.2.2.1, (hMA).2.2.2.2.2.1, (hMA).2.2.2.2.2.2.1, (hMA).2.2.2.2.2.2.2.1, (hMA).2.2.2.2.2.2.2.2.1, (hMA).2.2.2.2.2.2.2.2.2.1, (hMA).2.2.2.2.2.2.2.2.2.2.1, (hMA).2.2.2.2.2.2.2.2.2.2.2.1, (hMA).2.2.2.2.2.2.2.2.2.2.2.2⟩⟩)
        · intro n99 i99 x99 hi99 hJ99 ih99
          show k_V E mX8_ends _ 99 [(0, .ref 123), (1, .int (iI (v))), (2, .int (iI (x))), (3, .int (iI (y))), (4, .int (iI ((i99 : Int))))] [] sh (k_up (k_up σ 123 (k_u1 (σ 123) 5 (((σ 123) 5) - 1))) 128 x99) _ _ ((fun t => (k_pP sh R_ends) ((r_ends_99_2 σ v x y x59) (k_it (b_ends_99_2 σ v x y x59) n99 (i99 + 1) t))) ((b_ends_99_2 σ v x y x59) i99 x99))
          unfold b_ends_99_2
          refine k_iload dX8_ends_99 4 rfl ?_
          refine k_sipush (v := 153) dX8_ends_101 (by decide) ?_
          refine k_icmp_ge (tgt := 136) dX8_ends_104 rfl ⟨by omega, by omega⟩ ⟨by decide, by decide⟩ (fun h12 => absurd h12 (by omega)) (fun h12 => ?_)
          refine k_aload_n dX8_ends_107 0 rfl rfl (by decide) ?_
          refine k_get (kf := 4) (v := .ref 128) dX8_ends_108 kcX8 w_1751 (by decide) (by decide) (s_123 hsh) rfl rfl ?_
          refine k_sipush (v := 153) dX8_ends_111 (by decide) ?_
          refine k_aload_n dX8_ends_114 0 rfl rfl (by decide) ?_
          refine k_get (kf := 5) (v := .int (iI (((σ 123) 5) - 1))) dX8_ends_115 kcX8 w_1752 (by decide) (by decide) (s_123 hsh) rfl rfl ?_
          refine k_imul dX8_ends_118 ?_
          refine k_iload dX8_ends_119 4 rfl ?_
          refine k_iadd dX8_ends_121 ?_
          refine k_aload_n dX8_ends_122 0 rfl rfl (by decide) ?_
          refine k_get (kf := 1) (v := .ref 125) dX8_ends_123 kcX8 w_1748 (by decide) (by decide) (s_123 hsh) rfl rfl ?_
          refine k_iload dX8_ends_126 4 rfl ?_
          refine k_iald dX8_ends_128 (by decide) (s_125 hsh) (by omega) (by omega) (by decide) ?_
          refine k_eqst (st' := [.int (iI ((σ 125) ((i99 : Int)).toNat)), .int (iI ((153 * (((σ 123) 5) - 1)) + ((i99 : Int)))), .ref 128]) rfl ?_
          refine k_iastW dX8_ends_129 (by decide) (s_128 hsh) (by omega) (by omega) (by decide) ?_
          refine k_eqσ (σ' := (k_up (k_up σ 123 (k_u1 (σ 123) 5 (((σ 123) 5) - 1))) 128 (k_u1 x99 ((153 * (((σ 123) 5) - 1)) + ((i99 : Int))).toNat ((σ 125) ((i99 : Int)).toNat)))) (show k_up (k_up (k_up σ 123 (k_u1 (σ 123) 5 (((σ 123) 5) - 1))) 128 x99) 128 (k_u1 x99 ((153 * (((σ 123) 5) - 1)) + ((i99 : Int))).toNat ((σ 125) ((i99 : Int)).toNat)) = _ from k_up_up).symm ?_
          refine k_iinc (ls' := [(0, .ref 123), (1, .int (iI (v))), (2, .int (iI (x))), (3, .int (iI (y))), (4, .int (iI ((i99 : Int) + 1)))]) dX8_ends_130 4 rfl (by decide) rfl rfl ?_
          refine k_goto (tgt := 99) dX8_ends_133 rfl ?_
          exact ih99 ((k_u1 x99 ((153 * (((σ 123) 5) - 1)) + ((i99 : Int))).toNat ((σ 125) ((i99 : Int)).toNat))) (show True from True.intro)
      · intro n59 i59 x59 hi59 hJ59 ih59
        show k_V E mX8_ends _ 59 [(0, .ref 123), (1, .int (iI (v))), (2, .int (iI (x))), (3, .int (iI (y))), (4, .int (iI ((i59 : Int))))] [] sh (k_up (k_up σ 123 (k_u1 (σ 123) 5 (((σ 123) 5) - 1))) 128 x59) _ _ ((fun t => (k_pP sh R_ends) ((r_ends_59 σ v x y) (k_it (b_ends_59 σ v x y) n59 (i59 + 1) t))) ((b_ends_59 σ v x y) i59 x59))
        unfold b_ends_59
        refine k_iload dX8_ends_59 4 rfl ?_
        refine k_sipush (v := 153) dX8_ends_61 (by decide) ?_
        refine k_aload_n dX8_ends_64 0 rfl rfl (by decide) ?_
        refine k_get (kf := 5) (v := .int (iI (((σ 123) 5) - 1))) dX8_ends_65 kcX8 w_1752 (by decide) (by decide) (s_123 hsh) rfl rfl ?_
        refine k_imul dX8_ends_68 ?_
        refine k_icmp_ge (tgt := 96) dX8_ends_69 rfl ⟨by omega, by omega⟩ ⟨by omega, by omega⟩ (fun h13 => absurd h13 (by omega)) (fun h13 => ?_)
        refine k_aload_n dX8_ends_72 0 rfl rfl (by decide) ?_
        refine k_get (kf := 4) (v := .ref 128) dX8_ends_73 kcX8 w_1751 (by decide) (by decide) (s_123 hsh) rfl rfl ?_
        refine k_iload dX8_ends_76 4 rfl ?_
        refine k_aload_n dX8_ends_78 0 rfl rfl (by decide) ?_
        refine k_get (kf := 4) (v := .ref 128) dX8_ends_79 kcX8 w_1751 (by decide) (by decide) (s_123 hsh) rfl rfl ?_
        refine k_iload dX8_ends_82 4 rfl ?_
        refine k_sipush (v := 153) dX8_ends_84 (by decide) ?_
        refine k_iadd dX8_ends_87 ?_
        refine k_iald dX8_ends_88 (by decide) (s_128 hsh) (by omega) (by omega) (by decide) ?_
        refine k_eqst (st' := [.int (iI (x59 (((i59 : Int)) + 153).toNat)), .int (iI ((i59 : Int))), .ref 128]) rfl ?_
        refine k_iastW dX8_ends_89 (by decide) (s_128 hsh) (by omega) (by omega) (by decide) ?_
        refine k_eqσ (σ' := (k_up (k_up σ 123 (k_u1 (σ 123) 5 (((σ 123) 5) - 1))) 128 (k_u1 x59 ((i59 : Int)).toNat (x59 (((i59 : Int)) + 153).toNat)))) (show k_up (k_up (k_up σ 123 (k_u1 (σ 123) 5 (((σ 123) 5) - 1))) 128 x59) 128 (k_u1 x59 ((i59 : Int)).toNat (x59 (((i59 : Int)) + 153).toNat)) = _ from k_up_up).symm ?_
        refine k_iinc (ls' := [(0, .ref 123), (1, .int (iI (v))), (2, .int (iI (x))), (3, .int (iI (y))), (4, .int (iI ((i59 : Int) + 1)))]) dX8_ends_90 4 rfl (by decide) rfl rfl ?_
        refine k_goto (tgt := 59) dX8_ends_93 rfl ?_
        exact ih59 ((k_u1 x59 ((i59 : Int)).toNat (x59 (((i59 : Int)) + 153).toNat))) (show True from True.intro)
  · refine k_iff (F := (k_pP sh R_ends)) h1 ?_
    refine k_aload_n dX8_ends_7 0 rfl rfl (by decide) ?_
    refine k_aload_n dX8_ends_8 0 rfl rfl (by decide) ?_
    refine k_get (kf := 8) (v := .int (iI ((σ 123) 8))) dX8_ends_9 kcX8 w_1755 (by decide) (by decide) (s_123 hsh) rfl rfl ?_
    refine k_iload_n dX8_ends_12 2 rfl rfl ?_
    refine k_icmp_ne (tgt := 20) dX8_ends_13 rfl ⟨by omega, by omega⟩ ⟨by omega, by omega⟩ (fun h14 => ?_) (fun h14 => ?_)
    · refine k_iff (F := (k_pP sh R_ends)) h14 ?_
      refine k_aload_n dX8_ends_20 0 rfl rfl (by decide) ?_
      refine k_get (kf := 8) (v := .int (iI ((σ 123) 8))) dX8_ends_21 kcX8 w_1755 (by decide) (by decide) (s_123 hsh) rfl rfl ?_
      refine k_iload_n dX8_ends_24 3 rfl rfl ?_
      refine k_icmp_ne (tgt := 32) dX8_ends_25 rfl ⟨by omega, by omega⟩ ⟨by omega, by omega⟩ (fun h15 => ?_) (fun h15 => ?_)
      · refine k_iff (F := (k_pP sh R_ends)) h15 ?_
        refine k_iconst (v := 3) dX8_ends_32 rfl ?_
        refine k_callVr (st := []) (as := [.int (iI (3))]) dX8_ends_33 oX8_fails w_1850 w_1852 w_31 rfl (by omega) rfl (Nat.le_of_ble_eq_true rfl) (by decide) (s_123 hsh) rfl (c8_fails hsh) ?_
        refine k_eqσ (σ' := (k_up σ 123 (k_u1 (σ 123) 7 (3)))) ((show k_up σ 123 (k_u1 (σ 123) 7 (3)) = (k_up σ 123 (k_u1 (σ 123) 7 (3))) from rfl)).symm ?_
        exact k_retiP dX8_ends_36 rfl rfl rfl (show (-1 ≤ (0 : Int) ∧ (0 : Int) ≤ 1000) ∧ k_MA (k_up σ 123 (k_u1 (σ 123) 7 (3))) from ⟨by omega, ⟨(show k_F0 (k_u1 (σ 123) 7 (3)) from (k_F0_u (hMA).1 (by omega))), (hMA).2.1, (hMA).2.2.1, (hMA).2.2.2.1, (hMA).2.2.2.2.1, (hMA).2.2.2.2.2.1, (hMA).2.2.2.2.2.2.1, (hMA).2.2.2.2.2.2.2.1, (hMA).2.2.2.2.2.2.2.2.1, (hMA).2.2.2.2.2.2.2.2.2.1, (hMA).2.2.2.2.2.2.2.2.2.2.1, (hMA).2.2.2.2.2.2.2.2.2.2.2.1, (hMA).2.2.2.2.2.2.2.2.2.2.2.2⟩⟩)
      · refine k_ift (F := (k_pP sh R_ends)) h15 ?_
        refine k_iconst (v := 2) dX8_ends_28 rfl ?_
        refine k_goto (tgt := 33) dX8_ends_29 rfl ?_
        refine k_callVr (st := []) (as := [.int (iI (2))]) dX8_ends_33 oX8_fails w_1850 w_1852 w_31 rfl (by omega) rfl (Nat.le_of_ble_eq_true rfl) (by decide) (s_123 hsh) rfl (c8_fails hsh) ?_
        refine k_eqσ (σ' := (k_up σ 123 (k_u1 (σ 123) 7 (2)))) ((show k_up σ 123 (k_u1 (σ 123) 7 (2)) = (k_up σ 123 (k_u1 (σ 123) 7 (2))) from rfl)).symm ?_
        exact k_retiP dX8_ends_36 rfl rfl rfl (show (-1 ≤ (0 : Int) ∧ (0 : Int) ≤ 1000) ∧ k_MA (k_up σ 123 (k_u1 (σ 123) 7 (2))) from ⟨by omega, ⟨(show k_F0 (k_u1 (σ 123) 7 (2)) from (k_F0_u (hMA).1 (by omega))), (hMA).2.1, (hMA).2.2.1, (hMA).2.2.2.1, (hMA).2.2.2.2.1, (hMA).2.2.2.2.2.1, (hMA).2.2.2.2.2.2.1, (hMA).2.2.2.2.2.2.2.1, (hMA).2.2.2.2.2.2.2.2.1, (hMA).2.2.2.2.2.2.2.2.2.1, (hMA).2.2.2.2.2.2.2.2.2.2.1, (hMA).2.2.2.2.2.2.2.2.2.2.2.1, (hMA).2.2.2.2.2.2.2.2.2.2.2.2⟩⟩)
    · refine k_ift (F := (k_pP sh R_ends)) h14 ?_
      refine k_iconst (v := 1) dX8_ends_16 rfl ?_
      refine k_goto (tgt := 33) dX8_ends_17 rfl ?_
      refine k_callVr (st := []) (as := [.int (iI (1))]) dX8_ends_33 oX8_fails w_1850 w_1852 w_31 rfl (by omega) rfl (Nat.le_of_ble_eq_true rfl) (by decide) (s_123 hsh) rfl (c8_fails hsh) ?_
      refine k_eqσ (σ' := (k_up σ 123 (k_u1 (σ 123) 7 (1)))) ((show k_up σ 123 (k_u1 (σ 123) 7 (1)) = (k_up σ 123 (k_u1 (σ 123) 7 (1))) from rfl)).symm ?_
      exact k_retiP dX8_ends_36 rfl rfl rfl (show (-1 ≤ (0 : Int) ∧ (0 : Int) ≤ 1000) ∧ k_MA (k_up σ 123 (k_u1 (σ 123) 7 (1))) from ⟨by omega, ⟨(show k_F0 (k_u1 (σ 123) 7 (1)) from (k_F0_u (hMA).1 (by omega))), (hMA).2.1, (hMA).2.2.1, (hMA).2.2.2.1, (hMA).2.2.2.2.1, (hMA).2.2.2.2.2.1, (hMA).2.2.2.2.2.2.1, (hMA).2.2.2.2.2.2.2.1, (hMA).2.2.2.2.2.2.2.2.1, (hMA).2.2.2.2.2.2.2.2.2.1, (hMA).2.2.2.2.2.2.2.2.2.2.1, (hMA).2.2.2.2.2.2.2.2.2.2.2.1, (hMA).2.2.2.2.2.2.2.2.2.2.2.2⟩⟩)
abbrev R_addSubject (t : Int × (Nat → Nat → Int)) : Prop := (-1 ≤ t.1 ∧ t.1 ≤ 1000) ∧ k_MA t.2
def m_addSubject (σ : Nat → Nat → Int) (z : Int) : Int × (Nat → Nat → Int) := ((m_ends (m_addSubjectNow (k_up (k_up σ 123 (k_u1 (σ 123) 8 (0))) 125 (σ 124)) z).2 ((m_addSubjectNow (k_up (k_up σ 123 (k_u1 (σ 123) 8 (0))) 125 (σ 124)) z).1) 2 3).1, (m_ends (m_addSubjectNow (k_up (k_up σ 123 (k_u1 (σ 123) 8 (0))) 125 (σ 124)) z).2 ((m_addSubjectNow (k_up (k_up σ 123 (k_u1 (σ 123) 8 (0))) 125 (σ 124)) z).1) 2 3).2)
set_option maxRecDepth 100000 in
set_option maxHeartbeats 4000000 in
theorem c8_addSubject (hsh : k_Main sh) (hMA : k_MA σ) {z : Int} (h_z : -2147483648 ≤ z ∧ z < 2147483648) : k_C E mX8_addSubject 6 [.ref 123, .int (iI (z))] sh σ 0 0 ((k_pP sh R_addSubject) (m_addSubject σ z)) := by
  refine k_C_of (ls0 := [(0, .ref 123), (1, .int (iI (z)))]) rfl pnX8 (fun v hv => k_cat1 rfl hv) (Nat.le_of_ble_eq_true rfl) rfl ?_
  obtain ⟨⟨t0, t0b⟩, ⟨t1, t1b⟩, ⟨t2, t2b⟩, ⟨t3, t3b⟩, -⟩ := id hMA.2.1
  obtain ⟨⟨f10_0, g10_0⟩, ⟨f10_1, g10_1⟩, ⟨f10_2, g10_2⟩, ⟨f10_3, g10_3⟩, ⟨f10_4, g10_4⟩, ⟨f10_5, g10_5⟩, ⟨f10_6, g10_6⟩, ⟨f10_7, g10_7⟩, ⟨f10_8, g10_8⟩, ⟨f10_9, g10_9⟩, ⟨f10_10, g10_10⟩, ⟨f10_11, g10_11⟩, ⟨f10_12, g10_12⟩, ⟨f10_13, g10_13⟩⟩ := id hMA.1
  unfold m_addSubject
  refine k_aload_n dX8_addSubject_0 0 rfl rfl (by decide) ?_
  refine k_callVr (st := []) (as := []) dX8_addSubject_1 oX8_begins w_1873 w_1875 w_33 rfl (by omega) rfl (Nat.le_of_ble_eq_true rfl) (by decide) (s_123 hsh) rfl (c8_begins hsh) ?_
  refine k_eqσ (σ' := (k_up (k_up σ 123 (k_u1 (σ 123) 8 (0))) 125 (σ 124))) (((congrArg (fun s => k_up s 125 (σ 124)) (show k_up σ 123 (k_u1 (σ 123) 8 (0)) = (k_up σ 123 (k_u1 (σ 123) 8 (0))) from rfl)).trans (show k_up (k_up σ 123 (k_u1 (σ 123) 8 (0))) 125 (σ 124) = (k_up (k_up σ 123 (k_u1 (σ 123) 8 (0))) 125 (σ 124)) from rfl))).symm ?_
  refine k_aload_n dX8_addSubject_4 0 rfl rfl (by decide) ?_
  refine k_aload_n dX8_addSubject_5 0 rfl rfl (by decide) ?_
  refine k_iload_n dX8_addSubject_6 1 rfl rfl ?_
  refine k_callVrP (st := [.ref 123]) (as := [.int (iI (z))]) dX8_addSubject_7 oX8_addSubjectNow w_1877 w_1879 w_34 rfl (by omega) rfl (Nat.le_of_ble_eq_true rfl) (by decide) (s_123 hsh) rfl (c8_addSubjectNow (σ := (k_up (k_up σ 123 (k_u1 (σ 123) 8 (0))) 125 (σ 124))) hsh (show k_MA (k_up (k_up σ 123 (k_u1 (σ 123) 8 (0))) 125 (σ 124)) from ⟨(show k_F0 (k_u1 (σ 123) 8 (0)) from (k_F0_u (hMA).1 (by omega))), (hMA).2.1, (hMA).2.2.1, (hMA).2.2.2.1, (hMA).2.2.2.2.1, (hMA).2.2.2.2.2.1, (hMA).2.2.2.2.2.2.1, (hMA).2.2.2.2.2.2.2.1, (hMA).2.2.2.2.2.2.2.2.1, (hMA).2.2.2.2.2.2.2.2.2.1, (hMA).2.2.2.2.2.2.2.2.2.2.1, (hMA).2.2.2.2.2.2.2.2.2.2.2.1, (hMA).2.2.2.2.2.2.2.2.2.2.2.2⟩) (by omega)) (fun z2 => ?_)
  have z2 : (-1 ≤ (m_addSubjectNow (k_up (k_up σ 123 (k_u1 (σ 123) 8 (0))) 125 (σ 124)) z).1 ∧ (m_addSubjectNow (k_up (k_up σ 123 (k_u1 (σ 123) 8 (0))) 125 (σ 124)) z).1 ≤ 1000) ∧ k_MA (m_addSubjectNow (k_up (k_up σ 123 (k_u1 (σ 123) 8 (0))) 125 (σ 124)) z).2 := z2
  have z3 := z2.1
  obtain ⟨⟨y4_0, y4_0b⟩, ⟨y4_1, y4_1b⟩, ⟨y4_2, y4_2b⟩, ⟨y4_3, y4_3b⟩, -⟩ := id ((z2.2)).2.1
  obtain ⟨⟨f5_0, g5_0⟩, ⟨f5_1, g5_1⟩, ⟨f5_2, g5_2⟩, ⟨f5_3, g5_3⟩, ⟨f5_4, g5_4⟩, ⟨f5_5, g5_5⟩, ⟨f5_6, g5_6⟩, ⟨f5_7, g5_7⟩, ⟨f5_8, g5_8⟩, ⟨f5_9, g5_9⟩, ⟨f5_10, g5_10⟩, ⟨f5_11, g5_11⟩, ⟨f5_12, g5_12⟩, ⟨f5_13, g5_13⟩⟩ := id ((z2.2)).1
  refine k_iconst (v := 2) dX8_addSubject_10 rfl ?_
  refine k_iconst (v := 3) dX8_addSubject_11 rfl ?_
  refine k_callVrP (st := []) (as := [.int (iI ((m_addSubjectNow (k_up (k_up σ 123 (k_u1 (σ 123) 8 (0))) 125 (σ 124)) z).1)), .int (iI (2)), .int (iI (3))]) dX8_addSubject_12 oX8_ends w_1888 w_1890 w_36 rfl (by omega) rfl (Nat.le_of_ble_eq_true rfl) (by decide) (s_123 hsh) rfl (c8_ends (σ := (m_addSubjectNow (k_up (k_up σ 123 (k_u1 (σ 123) 8 (0))) 125 (σ 124)) z).2) hsh (show k_MA (m_addSubjectNow (k_up (k_up σ 123 (k_u1 (σ 123) 8 (0))) 125 (σ 124)) z).2 from ⟨((z2.2)).1, ((z2.2)).2.1, ((z2.2)).2.2.1, ((z2.2)).2.2.2.1, ((z2.2)).2.2.2.2.1, ((z2.2)).2.2.2.2.2.1, ((z2.2)).2.2.2.2.2.2.1, ((z2.2)).2.2.2.2.2.2.2.1, ((z2.2)).2.2.2.2.2.2.2.2.1, ((z2.2)).2.2.2.2.2.2.2.2.2.1, ((z2.2)).2.2.2.2.2.2.2.2.2.2.1, ((z2.2)).2.2.2.2.2.2.2.2.2.2.2.1, ((z2.2)).2.2.2.2.2.2.2.2.2.2.2.2⟩) (by omega) (by omega) (by omega)) (fun z6 => ?_)
  have z6 : (-1 ≤ (m_ends (m_addSubjectNow (k_up (k_up σ 123 (k_u1 (σ 123) 8 (0))) 125 (σ 124)) z).2 ((m_addSubjectNow (k_up (k_up σ 123 (k_u1 (σ 123) 8 (0))) 125 (σ 124)) z).1) 2 3).1 ∧ (m_ends (m_addSubjectNow (k_up (k_up σ 123 (k_u1 (σ 123) 8 (0))) 125 (σ 124)) z).2 ((m_addSubjectNow (k_up (k_up σ 123 (k_u1 (σ 123) 8 (0))) 125 (σ 124)) z).1) 2 3).1 ≤ 1000) ∧ k_MA (m_ends (m_addSubjectNow (k_up (k_up σ 123 (k_u1 (σ 123) 8 (0))) 125 (σ 124)) z).2 ((m_addSubjectNow (k_up (k_up σ 123 (k_u1 (σ 123) 8 (0))) 125 (σ 124)) z).1) 2 3).2 := z6
  have z7 := z6.1
  obtain ⟨⟨y8_0, y8_0b⟩, ⟨y8_1, y8_1b⟩, ⟨y8_2, y8_2b⟩, ⟨y8_3, y8_3b⟩, -⟩ := id ((z6.2)).2.1
  obtain ⟨⟨f9_0, g9_0⟩, ⟨f9_1, g9_1⟩, ⟨f9_2, g9_2⟩, ⟨f9_3, g9_3⟩, ⟨f9_4, g9_4⟩, ⟨f9_5, g9_5⟩, ⟨f9_6, g9_6⟩, ⟨f9_7, g9_7⟩, ⟨f9_8, g9_8⟩, ⟨f9_9, g9_9⟩, ⟨f9_10, g9_10⟩, ⟨f9_11, g9_11⟩, ⟨f9_12, g9_12⟩, ⟨f9_13, g9_13⟩⟩ := id ((z6.2)).1
  exact k_retiP dX8_addSubject_15 rfl rfl rfl (show (-1 ≤ (m_ends (m_addSubjectNow (k_up (k_up σ 123 (k_u1 (σ 123) 8 (0))) 125 (σ 124)) z).2 ((m_addSubjectNow (k_up (k_up σ 123 (k_u1 (σ 123) 8 (0))) 125 (σ 124)) z).1) 2 3).1 ∧ (m_ends (m_addSubjectNow (k_up (k_up σ 123 (k_u1 (σ 123) 8 (0))) 125 (σ 124)) z).2 ((m_addSubjectNow (k_up (k_up σ 123 (k_u1 (σ 123) 8 (0))) 125 (σ 124)) z).1) 2 3).1 ≤ 1000) ∧ k_MA (m_ends (m_addSubjectNow (k_up (k_up σ 123 (k_u1 (σ 123) 8 (0))) 125 (σ 124)) z).2 ((m_addSubjectNow (k_up (k_up σ 123 (k_u1 (σ 123) 8 (0))) 125 (σ 124)) z).1) 2 3).2 from ⟨by omega, ⟨((z6.2)).1, ((z6.2)).2.1, ((z6.2)).2.2.1, ((z6.2)).2.2.2.1, ((z6.2)).2.2.2.2.1, ((z6.2)).2.2.2.2.2.1, ((z6.2)).2.2.2.2.2.2.1, ((z6.2)).2.2.2.2.2.2.2.1, ((z6.2)).2.2.2.2.2.2.2.2.1, ((z6.2)).2.2.2.2.2.2.2.2.2.1, ((z6.2)).2.2.2.2.2.2.2.2.2.2.1, ((z6.2)).2.2.2.2.2.2.2.2.2.2.2.1, ((z6.2)).2.2.2.2.2.2.2.2.2.2.2.2⟩⟩)
abbrev R_setSize (t : Int × (Nat → Nat → Int)) : Prop := (-1 ≤ t.1 ∧ t.1 ≤ 1000) ∧ k_MA t.2
def m_setSize (σ : Nat → Nat → Int) (s : Int) (z : Int) : Int × (Nat → Nat → Int) := ((m_ends (m_setSizeNow (k_up (k_up σ 123 (k_u1 (σ 123) 8 (0))) 125 (σ 124)) s z).2 ((m_setSizeNow (k_up (k_up σ 123 (k_u1 (σ 123) 8 (0))) 125 (σ 124)) s z).1) 1 2).1, (m_ends (m_setSizeNow (k_up (k_up σ 123 (k_u1 (σ 123) 8 (0))) 125 (σ 124)) s z).2 ((m_setSizeNow (k_up (k_up σ 123 (k_u1 (σ 123) 8 (0))) 125 (σ 124)) s z).1) 1 2).2)
set_option maxRecDepth 100000 in
set_option maxHeartbeats 4000000 in
theorem c8_setSize (hsh : k_Main sh) (hMA : k_MA σ) {s z : Int} (h_s : -2147483648 ≤ s ∧ s < 2147483648) (h_z : -2147483648 ≤ z ∧ z < 2147483648) : k_C E mX8_setSize 6 [.ref 123, .int (iI (s)), .int (iI (z))] sh σ 0 0 ((k_pP sh R_setSize) (m_setSize σ s z)) := by
  refine k_C_of (ls0 := [(0, .ref 123), (1, .int (iI (s))), (2, .int (iI (z)))]) rfl pnX8 (fun v hv => k_cat1 rfl hv) (Nat.le_of_ble_eq_true rfl) rfl ?_
  obtain ⟨⟨t0, t0b⟩, ⟨t1, t1b⟩, ⟨t2, t2b⟩, ⟨t3, t3b⟩, -⟩ := id hMA.2.1
  obtain ⟨⟨f10_0, g10_0⟩, ⟨f10_1, g10_1⟩, ⟨f10_2, g10_2⟩, ⟨f10_3, g10_3⟩, ⟨f10_4, g10_4⟩, ⟨f10_5, g10_5⟩, ⟨f10_6, g10_6⟩, ⟨f10_7, g10_7⟩, ⟨f10_8, g10_8⟩, ⟨f10_9, g10_9⟩, ⟨f10_10, g10_10⟩, ⟨f10_11, g10_11⟩, ⟨f10_12, g10_12⟩, ⟨f10_13, g10_13⟩⟩ := id hMA.1
  unfold m_setSize
  refine k_aload_n dX8_setSize_0 0 rfl rfl (by decide) ?_
  refine k_callVr (st := []) (as := []) dX8_setSize_1 oX8_begins w_1873 w_1875 w_33 rfl (by omega) rfl (Nat.le_of_ble_eq_true rfl) (by decide) (s_123 hsh) rfl (c8_begins hsh) ?_
  refine k_eqσ (σ' := (k_up (k_up σ 123 (k_u1 (σ 123) 8 (0))) 125 (σ 124))) (((congrArg (fun s => k_up s 125 (σ 124)) (show k_up σ 123 (k_u1 (σ 123) 8 (0)) = (k_up σ 123 (k_u1 (σ 123) 8 (0))) from rfl)).trans (show k_up (k_up σ 123 (k_u1 (σ 123) 8 (0))) 125 (σ 124) = (k_up (k_up σ 123 (k_u1 (σ 123) 8 (0))) 125 (σ 124)) from rfl))).symm ?_
  refine k_aload_n dX8_setSize_4 0 rfl rfl (by decide) ?_
  refine k_aload_n dX8_setSize_5 0 rfl rfl (by decide) ?_
  refine k_iload_n dX8_setSize_6 1 rfl rfl ?_
  refine k_iload_n dX8_setSize_7 2 rfl rfl ?_
  refine k_callVrP (st := [.ref 123]) (as := [.int (iI (s)), .int (iI (z))]) dX8_setSize_8 oX8_setSizeNow w_1896 w_1898 w_37 rfl (by omega) rfl (Nat.le_of_ble_eq_true rfl) (by decide) (s_123 hsh) rfl (c8_setSizeNow (σ := (k_up (k_up σ 123 (k_u1 (σ 123) 8 (0))) 125 (σ 124))) hsh (show k_MA (k_up (k_up σ 123 (k_u1 (σ 123) 8 (0))) 125 (σ 124)) from ⟨(show k_F0 (k_u1 (σ 123) 8 (0)) from (k_F0_u (hMA).1 (by omega))), (hMA).2.1, (hMA).2.2.1, (hMA).2.2.2.1, (hMA).2.2.2.2.1, (hMA).2.2.2.2.2.1, (hMA).2.2.2.2.2.2.1, (hMA).2.2.2.2.2.2.2.1, (hMA).2.2.2.2.2.2.2.2.1, (hMA).2.2.2.2.2.2.2.2.2.1, (hMA).2.2.2.2.2.2.2.2.2.2.1, (hMA).2.2.2.2.2.2.2.2.2.2.2.1, (hMA).2.2.2.2.2.2.2.2.2.2.2.2⟩) (by omega) (by omega)) (fun z2 => ?_)
  have z2 : (-1 ≤ (m_setSizeNow (k_up (k_up σ 123 (k_u1 (σ 123) 8 (0))) 125 (σ 124)) s z).1 ∧ (m_setSizeNow (k_up (k_up σ 123 (k_u1 (σ 123) 8 (0))) 125 (σ 124)) s z).1 ≤ 1000) ∧ k_MA (m_setSizeNow (k_up (k_up σ 123 (k_u1 (σ 123) 8 (0))) 125 (σ 124)) s z).2 := z2
  have z3 := z2.1
  obtain ⟨⟨y4_0, y4_0b⟩, ⟨y4_1, y4_1b⟩, ⟨y4_2, y4_2b⟩, ⟨y4_3, y4_3b⟩, -⟩ := id ((z2.2)).2.1
  obtain ⟨⟨f5_0, g5_0⟩, ⟨f5_1, g5_1⟩, ⟨f5_2, g5_2⟩, ⟨f5_3, g5_3⟩, ⟨f5_4, g5_4⟩, ⟨f5_5, g5_5⟩, ⟨f5_6, g5_6⟩, ⟨f5_7, g5_7⟩, ⟨f5_8, g5_8⟩, ⟨f5_9, g5_9⟩, ⟨f5_10, g5_10⟩, ⟨f5_11, g5_11⟩, ⟨f5_12, g5_12⟩, ⟨f5_13, g5_13⟩⟩ := id ((z2.2)).1
  refine k_iconst (v := 1) dX8_setSize_11 rfl ?_
  refine k_iconst (v := 2) dX8_setSize_12 rfl ?_
  refine k_callVrP (st := []) (as := [.int (iI ((m_setSizeNow (k_up (k_up σ 123 (k_u1 (σ 123) 8 (0))) 125 (σ 124)) s z).1)), .int (iI (1)), .int (iI (2))]) dX8_setSize_13 oX8_ends w_1888 w_1890 w_36 rfl (by omega) rfl (Nat.le_of_ble_eq_true rfl) (by decide) (s_123 hsh) rfl (c8_ends (σ := (m_setSizeNow (k_up (k_up σ 123 (k_u1 (σ 123) 8 (0))) 125 (σ 124)) s z).2) hsh (show k_MA (m_setSizeNow (k_up (k_up σ 123 (k_u1 (σ 123) 8 (0))) 125 (σ 124)) s z).2 from ⟨((z2.2)).1, ((z2.2)).2.1, ((z2.2)).2.2.1, ((z2.2)).2.2.2.1, ((z2.2)).2.2.2.2.1, ((z2.2)).2.2.2.2.2.1, ((z2.2)).2.2.2.2.2.2.1, ((z2.2)).2.2.2.2.2.2.2.1, ((z2.2)).2.2.2.2.2.2.2.2.1, ((z2.2)).2.2.2.2.2.2.2.2.2.1, ((z2.2)).2.2.2.2.2.2.2.2.2.2.1, ((z2.2)).2.2.2.2.2.2.2.2.2.2.2.1, ((z2.2)).2.2.2.2.2.2.2.2.2.2.2.2⟩) (by omega) (by omega) (by omega)) (fun z6 => ?_)
  have z6 : (-1 ≤ (m_ends (m_setSizeNow (k_up (k_up σ 123 (k_u1 (σ 123) 8 (0))) 125 (σ 124)) s z).2 ((m_setSizeNow (k_up (k_up σ 123 (k_u1 (σ 123) 8 (0))) 125 (σ 124)) s z).1) 1 2).1 ∧ (m_ends (m_setSizeNow (k_up (k_up σ 123 (k_u1 (σ 123) 8 (0))) 125 (σ 124)) s z).2 ((m_setSizeNow (k_up (k_up σ 123 (k_u1 (σ 123) 8 (0))) 125 (σ 124)) s z).1) 1 2).1 ≤ 1000) ∧ k_MA (m_ends (m_setSizeNow (k_up (k_up σ 123 (k_u1 (σ 123) 8 (0))) 125 (σ 124)) s z).2 ((m_setSizeNow (k_up (k_up σ 123 (k_u1 (σ 123) 8 (0))) 125 (σ 124)) s z).1) 1 2).2 := z6
  have z7 := z6.1
  obtain ⟨⟨y8_0, y8_0b⟩, ⟨y8_1, y8_1b⟩, ⟨y8_2, y8_2b⟩, ⟨y8_3, y8_3b⟩, -⟩ := id ((z6.2)).2.1
  obtain ⟨⟨f9_0, g9_0⟩, ⟨f9_1, g9_1⟩, ⟨f9_2, g9_2⟩, ⟨f9_3, g9_3⟩, ⟨f9_4, g9_4⟩, ⟨f9_5, g9_5⟩, ⟨f9_6, g9_6⟩, ⟨f9_7, g9_7⟩, ⟨f9_8, g9_8⟩, ⟨f9_9, g9_9⟩, ⟨f9_10, g9_10⟩, ⟨f9_11, g9_11⟩, ⟨f9_12, g9_12⟩, ⟨f9_13, g9_13⟩⟩ := id ((z6.2)).1
  exact k_retiP dX8_setSize_16 rfl rfl rfl (show (-1 ≤ (m_ends (m_setSizeNow (k_up (k_up σ 123 (k_u1 (σ 123) 8 (0))) 125 (σ 124)) s z).2 ((m_setSizeNow (k_up (k_up σ 123 (k_u1 (σ 123) 8 (0))) 125 (σ 124)) s z).1) 1 2).1 ∧ (m_ends (m_setSizeNow (k_up (k_up σ 123 (k_u1 (σ 123) 8 (0))) 125 (σ 124)) s z).2 ((m_setSizeNow (k_up (k_up σ 123 (k_u1 (σ 123) 8 (0))) 125 (σ 124)) s z).1) 1 2).1 ≤ 1000) ∧ k_MA (m_ends (m_setSizeNow (k_up (k_up σ 123 (k_u1 (σ 123) 8 (0))) 125 (σ 124)) s z).2 ((m_setSizeNow (k_up (k_up σ 123 (k_u1 (σ 123) 8 (0))) 125 (σ 124)) s z).1) 1 2).2 from ⟨by omega, ⟨((z6.2)).1, ((z6.2)).2.1, ((z6.2)).2.2.1, ((z6.2)).2.2.2.1, ((z6.2)).2.2.2.2.1, ((z6.2)).2.2.2.2.2.1, ((z6.2)).2.2.2.2.2.2.1, ((z6.2)).2.2.2.2.2.2.2.1, ((z6.2)).2.2.2.2.2.2.2.2.1, ((z6.2)).2.2.2.2.2.2.2.2.2.1, ((z6.2)).2.2.2.2.2.2.2.2.2.2.1, ((z6.2)).2.2.2.2.2.2.2.2.2.2.2.1, ((z6.2)).2.2.2.2.2.2.2.2.2.2.2.2⟩⟩)
abbrev R_setBlockCount (t : Int × (Nat → Nat → Int)) : Prop := (-1 ≤ t.1 ∧ t.1 ≤ 1000) ∧ k_MA t.2
def m_setBlockCount (σ : Nat → Nat → Int) (c : Int) : Int × (Nat → Nat → Int) := ((m_ends (m_setBlockCountNow (k_up (k_up σ 123 (k_u1 (σ 123) 8 (0))) 125 (σ 124)) c).2 ((m_setBlockCountNow (k_up (k_up σ 123 (k_u1 (σ 123) 8 (0))) 125 (σ 124)) c).1) 2 3).1, (m_ends (m_setBlockCountNow (k_up (k_up σ 123 (k_u1 (σ 123) 8 (0))) 125 (σ 124)) c).2 ((m_setBlockCountNow (k_up (k_up σ 123 (k_u1 (σ 123) 8 (0))) 125 (σ 124)) c).1) 2 3).2)
set_option maxRecDepth 100000 in
set_option maxHeartbeats 4000000 in
theorem c8_setBlockCount (hsh : k_Main sh) (hMA : k_MA σ) {c : Int} (h_c : -2147483648 ≤ c ∧ c < 2147483648) : k_C E mX8_setBlockCount 6 [.ref 123, .int (iI (c))] sh σ 0 0 ((k_pP sh R_setBlockCount) (m_setBlockCount σ c)) := by
  refine k_C_of (ls0 := [(0, .ref 123), (1, .int (iI (c)))]) rfl pnX8 (fun v hv => k_cat1 rfl hv) (Nat.le_of_ble_eq_true rfl) rfl ?_
  obtain ⟨⟨t0, t0b⟩, ⟨t1, t1b⟩, ⟨t2, t2b⟩, ⟨t3, t3b⟩, -⟩ := id hMA.2.1
  obtain ⟨⟨f10_0, g10_0⟩, ⟨f10_1, g10_1⟩, ⟨f10_2, g10_2⟩, ⟨f10_3, g10_3⟩, ⟨f10_4, g10_4⟩, ⟨f10_5, g10_5⟩, ⟨f10_6, g10_6⟩, ⟨f10_7, g10_7⟩, ⟨f10_8, g10_8⟩, ⟨f10_9, g10_9⟩, ⟨f10_10, g10_10⟩, ⟨f10_11, g10_11⟩, ⟨f10_12, g10_12⟩, ⟨f10_13, g10_13⟩⟩ := id hMA.1
  unfold m_setBlockCount
  refine k_aload_n dX8_setBlockCount_0 0 rfl rfl (by decide) ?_
  refine k_callVr (st := []) (as := []) dX8_setBlockCount_1 oX8_begins w_1873 w_1875 w_33 rfl (by omega) rfl (Nat.le_of_ble_eq_true rfl) (by decide) (s_123 hsh) rfl (c8_begins hsh) ?_
  refine k_eqσ (σ' := (k_up (k_up σ 123 (k_u1 (σ 123) 8 (0))) 125 (σ 124))) (((congrArg (fun s => k_up s 125 (σ 124)) (show k_up σ 123 (k_u1 (σ 123) 8 (0)) = (k_up σ 123 (k_u1 (σ 123) 8 (0))) from rfl)).trans (show k_up (k_up σ 123 (k_u1 (σ 123) 8 (0))) 125 (σ 124) = (k_up (k_up σ 123 (k_u1 (σ 123) 8 (0))) 125 (σ 124)) from rfl))).symm ?_
  refine k_aload_n dX8_setBlockCount_4 0 rfl rfl (by decide) ?_
  refine k_aload_n dX8_setBlockCount_5 0 rfl rfl (by decide) ?_
  refine k_iload_n dX8_setBlockCount_6 1 rfl rfl ?_
  refine k_callVrP (st := [.ref 123]) (as := [.int (iI (c))]) dX8_setBlockCount_7 oX8_setBlockCountNow w_1924 w_1926 w_41 rfl (by omega) rfl (Nat.le_of_ble_eq_true rfl) (by decide) (s_123 hsh) rfl (c8_setBlockCountNow (σ := (k_up (k_up σ 123 (k_u1 (σ 123) 8 (0))) 125 (σ 124))) hsh (show k_MA (k_up (k_up σ 123 (k_u1 (σ 123) 8 (0))) 125 (σ 124)) from ⟨(show k_F0 (k_u1 (σ 123) 8 (0)) from (k_F0_u (hMA).1 (by omega))), (hMA).2.1, (hMA).2.2.1, (hMA).2.2.2.1, (hMA).2.2.2.2.1, (hMA).2.2.2.2.2.1, (hMA).2.2.2.2.2.2.1, (hMA).2.2.2.2.2.2.2.1, (hMA).2.2.2.2.2.2.2.2.1, (hMA).2.2.2.2.2.2.2.2.2.1, (hMA).2.2.2.2.2.2.2.2.2.2.1, (hMA).2.2.2.2.2.2.2.2.2.2.2.1, (hMA).2.2.2.2.2.2.2.2.2.2.2.2⟩) (by omega)) (fun z2 => ?_)
  have z2 : (-1 ≤ (m_setBlockCountNow (k_up (k_up σ 123 (k_u1 (σ 123) 8 (0))) 125 (σ 124)) c).1 ∧ (m_setBlockCountNow (k_up (k_up σ 123 (k_u1 (σ 123) 8 (0))) 125 (σ 124)) c).1 ≤ 1000) ∧ k_MA (m_setBlockCountNow (k_up (k_up σ 123 (k_u1 (σ 123) 8 (0))) 125 (σ 124)) c).2 := z2
  have z3 := z2.1
  obtain ⟨⟨y4_0, y4_0b⟩, ⟨y4_1, y4_1b⟩, ⟨y4_2, y4_2b⟩, ⟨y4_3, y4_3b⟩, -⟩ := id ((z2.2)).2.1
  obtain ⟨⟨f5_0, g5_0⟩, ⟨f5_1, g5_1⟩, ⟨f5_2, g5_2⟩, ⟨f5_3, g5_3⟩, ⟨f5_4, g5_4⟩, ⟨f5_5, g5_5⟩, ⟨f5_6, g5_6⟩, ⟨f5_7, g5_7⟩, ⟨f5_8, g5_8⟩, ⟨f5_9, g5_9⟩, ⟨f5_10, g5_10⟩, ⟨f5_11, g5_11⟩, ⟨f5_12, g5_12⟩, ⟨f5_13, g5_13⟩⟩ := id ((z2.2)).1
  refine k_iconst (v := 2) dX8_setBlockCount_10 rfl ?_
  refine k_iconst (v := 3) dX8_setBlockCount_11 rfl ?_
  refine k_callVrP (st := []) (as := [.int (iI ((m_setBlockCountNow (k_up (k_up σ 123 (k_u1 (σ 123) 8 (0))) 125 (σ 124)) c).1)), .int (iI (2)), .int (iI (3))]) dX8_setBlockCount_12 oX8_ends w_1888 w_1890 w_36 rfl (by omega) rfl (Nat.le_of_ble_eq_true rfl) (by decide) (s_123 hsh) rfl (c8_ends (σ := (m_setBlockCountNow (k_up (k_up σ 123 (k_u1 (σ 123) 8 (0))) 125 (σ 124)) c).2) hsh (show k_MA (m_setBlockCountNow (k_up (k_up σ 123 (k_u1 (σ 123) 8 (0))) 125 (σ 124)) c).2 from ⟨((z2.2)).1, ((z2.2)).2.1, ((z2.2)).2.2.1, ((z2.2)).2.2.2.1, ((z2.2)).2.2.2.2.1, ((z2.2)).2.2.2.2.2.1, ((z2.2)).2.2.2.2.2.2.1, ((z2.2)).2.2.2.2.2.2.2.1, ((z2.2)).2.2.2.2.2.2.2.2.1, ((z2.2)).2.2.2.2.2.2.2.2.2.1, ((z2.2)).2.2.2.2.2.2.2.2.2.2.1, ((z2.2)).2.2.2.2.2.2.2.2.2.2.2.1, ((z2.2)).2.2.2.2.2.2.2.2.2.2.2.2⟩) (by omega) (by omega) (by omega)) (fun z6 => ?_)
  have z6 : (-1 ≤ (m_ends (m_setBlockCountNow (k_up (k_up σ 123 (k_u1 (σ 123) 8 (0))) 125 (σ 124)) c).2 ((m_setBlockCountNow (k_up (k_up σ 123 (k_u1 (σ 123) 8 (0))) 125 (σ 124)) c).1) 2 3).1 ∧ (m_ends (m_setBlockCountNow (k_up (k_up σ 123 (k_u1 (σ 123) 8 (0))) 125 (σ 124)) c).2 ((m_setBlockCountNow (k_up (k_up σ 123 (k_u1 (σ 123) 8 (0))) 125 (σ 124)) c).1) 2 3).1 ≤ 1000) ∧ k_MA (m_ends (m_setBlockCountNow (k_up (k_up σ 123 (k_u1 (σ 123) 8 (0))) 125 (σ 124)) c).2 ((m_setBlockCountNow (k_up (k_up σ 123 (k_u1 (σ 123) 8 (0))) 125 (σ 124)) c).1) 2 3).2 := z6
  have z7 := z6.1
  obtain ⟨⟨y8_0, y8_0b⟩, ⟨y8_1, y8_1b⟩, ⟨y8_2, y8_2b⟩, ⟨y8_3, y8_3b⟩, -⟩ := id ((z6.2)).2.1
  obtain ⟨⟨f9_0, g9_0⟩, ⟨f9_1, g9_1⟩, ⟨f9_2, g9_2⟩, ⟨f9_3, g9_3⟩, ⟨f9_4, g9_4⟩, ⟨f9_5, g9_5⟩, ⟨f9_6, g9_6⟩, ⟨f9_7, g9_7⟩, ⟨f9_8, g9_8⟩, ⟨f9_9, g9_9⟩, ⟨f9_10, g9_10⟩, ⟨f9_11, g9_11⟩, ⟨f9_12, g9_12⟩, ⟨f9_13, g9_13⟩⟩ := id ((z6.2)).1
  exact k_retiP dX8_setBlockCount_15 rfl rfl rfl (show (-1 ≤ (m_ends (m_setBlockCountNow (k_up (k_up σ 123 (k_u1 (σ 123) 8 (0))) 125 (σ 124)) c).2 ((m_setBlockCountNow (k_up (k_up σ 123 (k_u1 (σ 123) 8 (0))) 125 (σ 124)) c).1) 2 3).1 ∧ (m_ends (m_setBlockCountNow (k_up (k_up σ 123 (k_u1 (σ 123) 8 (0))) 125 (σ 124)) c).2 ((m_setBlockCountNow (k_up (k_up σ 123 (k_u1 (σ 123) 8 (0))) 125 (σ 124)) c).1) 2 3).1 ≤ 1000) ∧ k_MA (m_ends (m_setBlockCountNow (k_up (k_up σ 123 (k_u1 (σ 123) 8 (0))) 125 (σ 124)) c).2 ((m_setBlockCountNow (k_up (k_up σ 123 (k_u1 (σ 123) 8 (0))) 125 (σ 124)) c).1) 2 3).2 from ⟨by omega, ⟨((z6.2)).1, ((z6.2)).2.1, ((z6.2)).2.2.1, ((z6.2)).2.2.2.1, ((z6.2)).2.2.2.2.1, ((z6.2)).2.2.2.2.2.1, ((z6.2)).2.2.2.2.2.2.1, ((z6.2)).2.2.2.2.2.2.2.1, ((z6.2)).2.2.2.2.2.2.2.2.1, ((z6.2)).2.2.2.2.2.2.2.2.2.1, ((z6.2)).2.2.2.2.2.2.2.2.2.2.1, ((z6.2)).2.2.2.2.2.2.2.2.2.2.2.1, ((z6.2)).2.2.2.2.2.2.2.2.2.2.2.2⟩⟩)
abbrev R_openClass (t : Int × (Nat → Nat → Int)) : Prop := (-1 ≤ t.1 ∧ t.1 ≤ 1000) ∧ k_MA t.2
def m_openClass (σ : Nat → Nat → Int) (s : Int) (b : Int) : Int × (Nat → Nat → Int) := ((m_ends (m_openClassNow (k_up (k_up σ 123 (k_u1 (σ 123) 8 (0))) 125 (σ 124)) s b).2 ((m_openClassNow (k_up (k_up σ 123 (k_u1 (σ 123) 8 (0))) 125 (σ 124)) s b).1) 1 3).1, (m_ends (m_openClassNow (k_up (k_up σ 123 (k_u1 (σ 123) 8 (0))) 125 (σ 124)) s b).2 ((m_openClassNow (k_up (k_up σ 123 (k_u1 (σ 123) 8 (0))) 125 (σ 124)) s b).1) 1 3).2)
set_option maxRecDepth 100000 in
set_option maxHeartbeats 4000000 in
theorem c8_openClass (hsh : k_Main sh) (hMA : k_MA σ) {s b : Int} (h_s : -2147483648 ≤ s ∧ s < 2147483648) (h_b : -2147483648 ≤ b ∧ b < 2147483648) : k_C E mX8_openClass 6 [.ref 123, .int (iI (s)), .int (iI (b))] sh σ 0 0 ((k_pP sh R_openClass) (m_openClass σ s b)) := by
  refine k_C_of (ls0 := [(0, .ref 123), (1, .int (iI (s))), (2, .int (iI (b)))]) rfl pnX8 (fun v hv => k_cat1 rfl hv) (Nat.le_of_ble_eq_true rfl) rfl ?_
  obtain ⟨⟨t0, t0b⟩, ⟨t1, t1b⟩, ⟨t2, t2b⟩, ⟨t3, t3b⟩, -⟩ := id hMA.2.1
  obtain ⟨⟨f10_0, g10_0⟩, ⟨f10_1, g10_1⟩, ⟨f10_2, g10_2⟩, ⟨f10_3, g10_3⟩, ⟨f10_4, g10_4⟩, ⟨f10_5, g10_5⟩, ⟨f10_6, g10_6⟩, ⟨f10_7, g10_7⟩, ⟨f10_8, g10_8⟩, ⟨f10_9, g10_9⟩, ⟨f10_10, g10_10⟩, ⟨f10_11, g10_11⟩, ⟨f10_12, g10_12⟩, ⟨f10_13, g10_13⟩⟩ := id hMA.1
  unfold m_openClass
  refine k_aload_n dX8_openClass_0 0 rfl rfl (by decide) ?_
  refine k_callVr (st := []) (as := []) dX8_openClass_1 oX8_begins w_1873 w_1875 w_33 rfl (by omega) rfl (Nat.le_of_ble_eq_true rfl) (by decide) (s_123 hsh) rfl (c8_begins hsh) ?_
  refine k_eqσ (σ' := (k_up (k_up σ 123 (k_u1 (σ 123) 8 (0))) 125 (σ 124))) (((congrArg (fun s => k_up s 125 (σ 124)) (show k_up σ 123 (k_u1 (σ 123) 8 (0)) = (k_up σ 123 (k_u1 (σ 123) 8 (0))) from rfl)).trans (show k_up (k_up σ 123 (k_u1 (σ 123) 8 (0))) 125 (σ 124) = (k_up (k_up σ 123 (k_u1 (σ 123) 8 (0))) 125 (σ 124)) from rfl))).symm ?_
  refine k_aload_n dX8_openClass_4 0 rfl rfl (by decide) ?_
  refine k_aload_n dX8_openClass_5 0 rfl rfl (by decide) ?_
  refine k_iload_n dX8_openClass_6 1 rfl rfl ?_
  refine k_iload_n dX8_openClass_7 2 rfl rfl ?_
  refine k_callVrP (st := [.ref 123]) (as := [.int (iI (s)), .int (iI (b))]) dX8_openClass_8 oX8_openClassNow w_1940 w_1942 w_43 rfl (by omega) rfl (Nat.le_of_ble_eq_true rfl) (by decide) (s_123 hsh) rfl (c8_openClassNow (σ := (k_up (k_up σ 123 (k_u1 (σ 123) 8 (0))) 125 (σ 124))) hsh (show k_MA (k_up (k_up σ 123 (k_u1 (σ 123) 8 (0))) 125 (σ 124)) from ⟨(show k_F0 (k_u1 (σ 123) 8 (0)) from (k_F0_u (hMA).1 (by omega))), (hMA).2.1, (hMA).2.2.1, (hMA).2.2.2.1, (hMA).2.2.2.2.1, (hMA).2.2.2.2.2.1, (hMA).2.2.2.2.2.2.1, (hMA).2.2.2.2.2.2.2.1, (hMA).2.2.2.2.2.2.2.2.1, (hMA).2.2.2.2.2.2.2.2.2.1, (hMA).2.2.2.2.2.2.2.2.2.2.1, (hMA).2.2.2.2.2.2.2.2.2.2.2.1, (hMA).2.2.2.2.2.2.2.2.2.2.2.2⟩) (by omega) (by omega)) (fun z2 => ?_)
  have z2 : (-1 ≤ (m_openClassNow (k_up (k_up σ 123 (k_u1 (σ 123) 8 (0))) 125 (σ 124)) s b).1 ∧ (m_openClassNow (k_up (k_up σ 123 (k_u1 (σ 123) 8 (0))) 125 (σ 124)) s b).1 ≤ 1000) ∧ k_MA (m_openClassNow (k_up (k_up σ 123 (k_u1 (σ 123) 8 (0))) 125 (σ 124)) s b).2 := z2
  have z3 := z2.1
  obtain ⟨⟨y4_0, y4_0b⟩, ⟨y4_1, y4_1b⟩, ⟨y4_2, y4_2b⟩, ⟨y4_3, y4_3b⟩, -⟩ := id ((z2.2)).2.1
  obtain ⟨⟨f5_0, g5_0⟩, ⟨f5_1, g5_1⟩, ⟨f5_2, g5_2⟩, ⟨f5_3, g5_3⟩, ⟨f5_4, g5_4⟩, ⟨f5_5, g5_5⟩, ⟨f5_6, g5_6⟩, ⟨f5_7, g5_7⟩, ⟨f5_8, g5_8⟩, ⟨f5_9, g5_9⟩, ⟨f5_10, g5_10⟩, ⟨f5_11, g5_11⟩, ⟨f5_12, g5_12⟩, ⟨f5_13, g5_13⟩⟩ := id ((z2.2)).1
  refine k_iconst (v := 1) dX8_openClass_11 rfl ?_
  refine k_iconst (v := 3) dX8_openClass_12 rfl ?_
  refine k_callVrP (st := []) (as := [.int (iI ((m_openClassNow (k_up (k_up σ 123 (k_u1 (σ 123) 8 (0))) 125 (σ 124)) s b).1)), .int (iI (1)), .int (iI (3))]) dX8_openClass_13 oX8_ends w_1888 w_1890 w_36 rfl (by omega) rfl (Nat.le_of_ble_eq_true rfl) (by decide) (s_123 hsh) rfl (c8_ends (σ := (m_openClassNow (k_up (k_up σ 123 (k_u1 (σ 123) 8 (0))) 125 (σ 124)) s b).2) hsh (show k_MA (m_openClassNow (k_up (k_up σ 123 (k_u1 (σ 123) 8 (0))) 125 (σ 124)) s b).2 from ⟨((z2.2)).1, ((z2.2)).2.1, ((z2.2)).2.2.1, ((z2.2)).2.2.2.1, ((z2.2)).2.2.2.2.1, ((z2.2)).2.2.2.2.2.1, ((z2.2)).2.2.2.2.2.2.1, ((z2.2)).2.2.2.2.2.2.2.1, ((z2.2)).2.2.2.2.2.2.2.2.1, ((z2.2)).2.2.2.2.2.2.2.2.2.1, ((z2.2)).2.2.2.2.2.2.2.2.2.2.1, ((z2.2)).2.2.2.2.2.2.2.2.2.2.2.1, ((z2.2)).2.2.2.2.2.2.2.2.2.2.2.2⟩) (by omega) (by omega) (by omega)) (fun z6 => ?_)
  have z6 : (-1 ≤ (m_ends (m_openClassNow (k_up (k_up σ 123 (k_u1 (σ 123) 8 (0))) 125 (σ 124)) s b).2 ((m_openClassNow (k_up (k_up σ 123 (k_u1 (σ 123) 8 (0))) 125 (σ 124)) s b).1) 1 3).1 ∧ (m_ends (m_openClassNow (k_up (k_up σ 123 (k_u1 (σ 123) 8 (0))) 125 (σ 124)) s b).2 ((m_openClassNow (k_up (k_up σ 123 (k_u1 (σ 123) 8 (0))) 125 (σ 124)) s b).1) 1 3).1 ≤ 1000) ∧ k_MA (m_ends (m_openClassNow (k_up (k_up σ 123 (k_u1 (σ 123) 8 (0))) 125 (σ 124)) s b).2 ((m_openClassNow (k_up (k_up σ 123 (k_u1 (σ 123) 8 (0))) 125 (σ 124)) s b).1) 1 3).2 := z6
  have z7 := z6.1
  obtain ⟨⟨y8_0, y8_0b⟩, ⟨y8_1, y8_1b⟩, ⟨y8_2, y8_2b⟩, ⟨y8_3, y8_3b⟩, -⟩ := id ((z6.2)).2.1
  obtain ⟨⟨f9_0, g9_0⟩, ⟨f9_1, g9_1⟩, ⟨f9_2, g9_2⟩, ⟨f9_3, g9_3⟩, ⟨f9_4, g9_4⟩, ⟨f9_5, g9_5⟩, ⟨f9_6, g9_6⟩, ⟨f9_7, g9_7⟩, ⟨f9_8, g9_8⟩, ⟨f9_9, g9_9⟩, ⟨f9_10, g9_10⟩, ⟨f9_11, g9_11⟩, ⟨f9_12, g9_12⟩, ⟨f9_13, g9_13⟩⟩ := id ((z6.2)).1
  exact k_retiP dX8_openClass_16 rfl rfl rfl (show (-1 ≤ (m_ends (m_openClassNow (k_up (k_up σ 123 (k_u1 (σ 123) 8 (0))) 125 (σ 124)) s b).2 ((m_openClassNow (k_up (k_up σ 123 (k_u1 (σ 123) 8 (0))) 125 (σ 124)) s b).1) 1 3).1 ∧ (m_ends (m_openClassNow (k_up (k_up σ 123 (k_u1 (σ 123) 8 (0))) 125 (σ 124)) s b).2 ((m_openClassNow (k_up (k_up σ 123 (k_u1 (σ 123) 8 (0))) 125 (σ 124)) s b).1) 1 3).1 ≤ 1000) ∧ k_MA (m_ends (m_openClassNow (k_up (k_up σ 123 (k_u1 (σ 123) 8 (0))) 125 (σ 124)) s b).2 ((m_openClassNow (k_up (k_up σ 123 (k_u1 (σ 123) 8 (0))) 125 (σ 124)) s b).1) 1 3).2 from ⟨by omega, ⟨((z6.2)).1, ((z6.2)).2.1, ((z6.2)).2.2.1, ((z6.2)).2.2.2.1, ((z6.2)).2.2.2.2.1, ((z6.2)).2.2.2.2.2.1, ((z6.2)).2.2.2.2.2.2.1, ((z6.2)).2.2.2.2.2.2.2.1, ((z6.2)).2.2.2.2.2.2.2.2.1, ((z6.2)).2.2.2.2.2.2.2.2.2.1, ((z6.2)).2.2.2.2.2.2.2.2.2.2.1, ((z6.2)).2.2.2.2.2.2.2.2.2.2.2.1, ((z6.2)).2.2.2.2.2.2.2.2.2.2.2.2⟩⟩)
abbrev R_closeClass (t : Int × (Nat → Nat → Int)) : Prop := (-1 ≤ t.1 ∧ t.1 ≤ 1000) ∧ k_MA t.2
def m_closeClass (σ : Nat → Nat → Int) (s : Int) (b : Int) : Int × (Nat → Nat → Int) := ((m_ends (m_closeClassNow (k_up (k_up σ 123 (k_u1 (σ 123) 8 (0))) 125 (σ 124)) s b).2 ((m_closeClassNow (k_up (k_up σ 123 (k_u1 (σ 123) 8 (0))) 125 (σ 124)) s b).1) 1 3).1, (m_ends (m_closeClassNow (k_up (k_up σ 123 (k_u1 (σ 123) 8 (0))) 125 (σ 124)) s b).2 ((m_closeClassNow (k_up (k_up σ 123 (k_u1 (σ 123) 8 (0))) 125 (σ 124)) s b).1) 1 3).2)
set_option maxRecDepth 100000 in
set_option maxHeartbeats 4000000 in
theorem c8_closeClass (hsh : k_Main sh) (hMA : k_MA σ) {s b : Int} (h_s : -2147483648 ≤ s ∧ s < 2147483648) (h_b : -2147483648 ≤ b ∧ b < 2147483648) : k_C E mX8_closeClass 6 [.ref 123, .int (iI (s)), .int (iI (b))] sh σ 0 0 ((k_pP sh R_closeClass) (m_closeClass σ s b)) := by
  refine k_C_of (ls0 := [(0, .ref 123), (1, .int (iI (s))), (2, .int (iI (b)))]) rfl pnX8 (fun v hv => k_cat1 rfl hv) (Nat.le_of_ble_eq_true rfl) rfl ?_
  obtain ⟨⟨t0, t0b⟩, ⟨t1, t1b⟩, ⟨t2, t2b⟩, ⟨t3, t3b⟩, -⟩ := id hMA.2.1
  obtain ⟨⟨f10_0, g10_0⟩, ⟨f10_1, g10_1⟩, ⟨f10_2, g10_2⟩, ⟨f10_3, g10_3⟩, ⟨f10_4, g10_4⟩, ⟨f10_5, g10_5⟩, ⟨f10_6, g10_6⟩, ⟨f10_7, g10_7⟩, ⟨f10_8, g10_8⟩, ⟨f10_9, g10_9⟩, ⟨f10_10, g10_10⟩, ⟨f10_11, g10_11⟩, ⟨f10_12, g10_12⟩, ⟨f10_13, g10_13⟩⟩ := id hMA.1
  unfold m_closeClass
  refine k_aload_n dX8_closeClass_0 0 rfl rfl (by decide) ?_
  refine k_callVr (st := []) (as := []) dX8_closeClass_1 oX8_begins w_1873 w_1875 w_33 rfl (by omega) rfl (Nat.le_of_ble_eq_true rfl) (by decide) (s_123 hsh) rfl (c8_begins hsh) ?_
  refine k_eqσ (σ' := (k_up (k_up σ 123 (k_u1 (σ 123) 8 (0))) 125 (σ 124))) (((congrArg (fun s => k_up s 125 (σ 124)) (show k_up σ 123 (k_u1 (σ 123) 8 (0)) = (k_up σ 123 (k_u1 (σ 123) 8 (0))) from rfl)).trans (show k_up (k_up σ 123 (k_u1 (σ 123) 8 (0))) 125 (σ 124) = (k_up (k_up σ 123 (k_u1 (σ 123) 8 (0))) 125 (σ 124)) from rfl))).symm ?_
  refine k_aload_n dX8_closeClass_4 0 rfl rfl (by decide) ?_
  refine k_aload_n dX8_closeClass_5 0 rfl rfl (by decide) ?_
  refine k_iload_n dX8_closeClass_6 1 rfl rfl ?_
  refine k_iload_n dX8_closeClass_7 2 rfl rfl ?_
  refine k_callVrP (st := [.ref 123]) (as := [.int (iI (s)), .int (iI (b))]) dX8_closeClass_8 oX8_closeClassNow w_1956 w_1958 w_46 rfl (by omega) rfl (Nat.le_of_ble_eq_true rfl) (by decide) (s_123 hsh) rfl (c8_closeClassNow (σ := (k_up (k_up σ 123 (k_u1 (σ 123) 8 (0))) 125 (σ 124))) hsh (show k_MA (k_up (k_up σ 123 (k_u1 (σ 123) 8 (0))) 125 (σ 124)) from ⟨(show k_F0 (k_u1 (σ 123) 8 (0)) from (k_F0_u (hMA).1 (by omega))), (hMA).2.1, (hMA).2.2.1, (hMA).2.2.2.1, (hMA).2.2.2.2.1, (hMA).2.2.2.2.2.1, (hMA).2.2.2.2.2.2.1, (hMA).2.2.2.2.2.2.2.1, (hMA).2.2.2.2.2.2.2.2.1, (hMA).2.2.2.2.2.2.2.2.2.1, (hMA).2.2.2.2.2.2.2.2.2.2.1, (hMA).2.2.2.2.2.2.2.2.2.2.2.1, (hMA).2.2.2.2.2.2.2.2.2.2.2.2⟩) (by omega) (by omega)) (fun z2 => ?_)
  have z2 : (-1 ≤ (m_closeClassNow (k_up (k_up σ 123 (k_u1 (σ 123) 8 (0))) 125 (σ 124)) s b).1 ∧ (m_closeClassNow (k_up (k_up σ 123 (k_u1 (σ 123) 8 (0))) 125 (σ 124)) s b).1 ≤ 1000) ∧ k_MA (m_closeClassNow (k_up (k_up σ 123 (k_u1 (σ 123) 8 (0))) 125 (σ 124)) s b).2 := z2
  have z3 := z2.1
  obtain ⟨⟨y4_0, y4_0b⟩, ⟨y4_1, y4_1b⟩, ⟨y4_2, y4_2b⟩, ⟨y4_3, y4_3b⟩, -⟩ := id ((z2.2)).2.1
  obtain ⟨⟨f5_0, g5_0⟩, ⟨f5_1, g5_1⟩, ⟨f5_2, g5_2⟩, ⟨f5_3, g5_3⟩, ⟨f5_4, g5_4⟩, ⟨f5_5, g5_5⟩, ⟨f5_6, g5_6⟩, ⟨f5_7, g5_7⟩, ⟨f5_8, g5_8⟩, ⟨f5_9, g5_9⟩, ⟨f5_10, g5_10⟩, ⟨f5_11, g5_11⟩, ⟨f5_12, g5_12⟩, ⟨f5_13, g5_13⟩⟩ := id ((z2.2)).1
  refine k_iconst (v := 1) dX8_closeClass_11 rfl ?_
  refine k_iconst (v := 3) dX8_closeClass_12 rfl ?_
  refine k_callVrP (st := []) (as := [.int (iI ((m_closeClassNow (k_up (k_up σ 123 (k_u1 (σ 123) 8 (0))) 125 (σ 124)) s b).1)), .int (iI (1)), .int (iI (3))]) dX8_closeClass_13 oX8_ends w_1888 w_1890 w_36 rfl (by omega) rfl (Nat.le_of_ble_eq_true rfl) (by decide) (s_123 hsh) rfl (c8_ends (σ := (m_closeClassNow (k_up (k_up σ 123 (k_u1 (σ 123) 8 (0))) 125 (σ 124)) s b).2) hsh (show k_MA (m_closeClassNow (k_up (k_up σ 123 (k_u1 (σ 123) 8 (0))) 125 (σ 124)) s b).2 from ⟨((z2.2)).1, ((z2.2)).2.1, ((z2.2)).2.2.1, ((z2.2)).2.2.2.1, ((z2.2)).2.2.2.2.1, ((z2.2)).2.2.2.2.2.1, ((z2.2)).2.2.2.2.2.2.1, ((z2.2)).2.2.2.2.2.2.2.1, ((z2.2)).2.2.2.2.2.2.2.2.1, ((z2.2)).2.2.2.2.2.2.2.2.2.1, ((z2.2)).2.2.2.2.2.2.2.2.2.2.1, ((z2.2)).2.2.2.2.2.2.2.2.2.2.2.1, ((z2.2)).2.2.2.2.2.2.2.2.2.2.2.2⟩) (by omega) (by omega) (by omega)) (fun z6 => ?_)
  have z6 : (-1 ≤ (m_ends (m_closeClassNow (k_up (k_up σ 123 (k_u1 (σ 123) 8 (0))) 125 (σ 124)) s b).2 ((m_closeClassNow (k_up (k_up σ 123 (k_u1 (σ 123) 8 (0))) 125 (σ 124)) s b).1) 1 3).1 ∧ (m_ends (m_closeClassNow (k_up (k_up σ 123 (k_u1 (σ 123) 8 (0))) 125 (σ 124)) s b).2 ((m_closeClassNow (k_up (k_up σ 123 (k_u1 (σ 123) 8 (0))) 125 (σ 124)) s b).1) 1 3).1 ≤ 1000) ∧ k_MA (m_ends (m_closeClassNow (k_up (k_up σ 123 (k_u1 (σ 123) 8 (0))) 125 (σ 124)) s b).2 ((m_closeClassNow (k_up (k_up σ 123 (k_u1 (σ 123) 8 (0))) 125 (σ 124)) s b).1) 1 3).2 := z6
  have z7 := z6.1
  obtain ⟨⟨y8_0, y8_0b⟩, ⟨y8_1, y8_1b⟩, ⟨y8_2, y8_2b⟩, ⟨y8_3, y8_3b⟩, -⟩ := id ((z6.2)).2.1
  obtain ⟨⟨f9_0, g9_0⟩, ⟨f9_1, g9_1⟩, ⟨f9_2, g9_2⟩, ⟨f9_3, g9_3⟩, ⟨f9_4, g9_4⟩, ⟨f9_5, g9_5⟩, ⟨f9_6, g9_6⟩, ⟨f9_7, g9_7⟩, ⟨f9_8, g9_8⟩, ⟨f9_9, g9_9⟩, ⟨f9_10, g9_10⟩, ⟨f9_11, g9_11⟩, ⟨f9_12, g9_12⟩, ⟨f9_13, g9_13⟩⟩ := id ((z6.2)).1
  exact k_retiP dX8_closeClass_16 rfl rfl rfl (show (-1 ≤ (m_ends (m_closeClassNow (k_up (k_up σ 123 (k_u1 (σ 123) 8 (0))) 125 (σ 124)) s b).2 ((m_closeClassNow (k_up (k_up σ 123 (k_u1 (σ 123) 8 (0))) 125 (σ 124)) s b).1) 1 3).1 ∧ (m_ends (m_closeClassNow (k_up (k_up σ 123 (k_u1 (σ 123) 8 (0))) 125 (σ 124)) s b).2 ((m_closeClassNow (k_up (k_up σ 123 (k_u1 (σ 123) 8 (0))) 125 (σ 124)) s b).1) 1 3).1 ≤ 1000) ∧ k_MA (m_ends (m_closeClassNow (k_up (k_up σ 123 (k_u1 (σ 123) 8 (0))) 125 (σ 124)) s b).2 ((m_closeClassNow (k_up (k_up σ 123 (k_u1 (σ 123) 8 (0))) 125 (σ 124)) s b).1) 1 3).2 from ⟨by omega, ⟨((z6.2)).1, ((z6.2)).2.1, ((z6.2)).2.2.1, ((z6.2)).2.2.2.1, ((z6.2)).2.2.2.2.1, ((z6.2)).2.2.2.2.2.1, ((z6.2)).2.2.2.2.2.2.1, ((z6.2)).2.2.2.2.2.2.2.1, ((z6.2)).2.2.2.2.2.2.2.2.1, ((z6.2)).2.2.2.2.2.2.2.2.2.1, ((z6.2)).2.2.2.2.2.2.2.2.2.2.1, ((z6.2)).2.2.2.2.2.2.2.2.2.2.2.1, ((z6.2)).2.2.2.2.2.2.2.2.2.2.2.2⟩⟩)
abbrev R_addPupil (t : Int × (Nat → Nat → Int)) : Prop := (-1 ≤ t.1 ∧ t.1 ≤ 1000) ∧ k_MA t.2
def m_addPupil (σ : Nat → Nat → Int) : Int × (Nat → Nat → Int) := ((m_ends (m_addPupilNow (k_up (k_up σ 123 (k_u1 (σ 123) 8 (0))) 125 (σ 124))).2 ((m_addPupilNow (k_up (k_up σ 123 (k_u1 (σ 123) 8 (0))) 125 (σ 124))).1) 3 0).1, (m_ends (m_addPupilNow (k_up (k_up σ 123 (k_u1 (σ 123) 8 (0))) 125 (σ 124))).2 ((m_addPupilNow (k_up (k_up σ 123 (k_u1 (σ 123) 8 (0))) 125 (σ 124))).1) 3 0).2)
set_option maxRecDepth 100000 in
set_option maxHeartbeats 4000000 in
theorem c8_addPupil (hsh : k_Main sh) (hMA : k_MA σ)  : k_C E mX8_addPupil 6 [.ref 123] sh σ 0 0 ((k_pP sh R_addPupil) (m_addPupil σ)) := by
  refine k_C_of (ls0 := [(0, .ref 123)]) rfl pnX8 (fun v hv => k_cat1 rfl hv) (Nat.le_of_ble_eq_true rfl) rfl ?_
  obtain ⟨⟨t0, t0b⟩, ⟨t1, t1b⟩, ⟨t2, t2b⟩, ⟨t3, t3b⟩, -⟩ := id hMA.2.1
  obtain ⟨⟨f10_0, g10_0⟩, ⟨f10_1, g10_1⟩, ⟨f10_2, g10_2⟩, ⟨f10_3, g10_3⟩, ⟨f10_4, g10_4⟩, ⟨f10_5, g10_5⟩, ⟨f10_6, g10_6⟩, ⟨f10_7, g10_7⟩, ⟨f10_8, g10_8⟩, ⟨f10_9, g10_9⟩, ⟨f10_10, g10_10⟩, ⟨f10_11, g10_11⟩, ⟨f10_12, g10_12⟩, ⟨f10_13, g10_13⟩⟩ := id hMA.1
  unfold m_addPupil
  refine k_aload_n dX8_addPupil_0 0 rfl rfl (by decide) ?_
  refine k_callVr (st := []) (as := []) dX8_addPupil_1 oX8_begins w_1873 w_1875 w_33 rfl (by omega) rfl (Nat.le_of_ble_eq_true rfl) (by decide) (s_123 hsh) rfl (c8_begins hsh) ?_
  refine k_eqσ (σ' := (k_up (k_up σ 123 (k_u1 (σ 123) 8 (0))) 125 (σ 124))) (((congrArg (fun s => k_up s 125 (σ 124)) (show k_up σ 123 (k_u1 (σ 123) 8 (0)) = (k_up σ 123 (k_u1 (σ 123) 8 (0))) from rfl)).trans (show k_up (k_up σ 123 (k_u1 (σ 123) 8 (0))) 125 (σ 124) = (k_up (k_up σ 123 (k_u1 (σ 123) 8 (0))) 125 (σ 124)) from rfl))).symm ?_
  refine k_aload_n dX8_addPupil_4 0 rfl rfl (by decide) ?_
  refine k_aload_n dX8_addPupil_5 0 rfl rfl (by decide) ?_
  refine k_callVrP (st := [.ref 123]) (as := []) dX8_addPupil_6 oX8_addPupilNow w_1976 w_1978 w_47 rfl (by omega) rfl (Nat.le_of_ble_eq_true rfl) (by decide) (s_123 hsh) rfl (c8_addPupilNow (σ := (k_up (k_up σ 123 (k_u1 (σ 123) 8 (0))) 125 (σ 124))) hsh (show k_MA (k_up (k_up σ 123 (k_u1 (σ 123) 8 (0))) 125 (σ 124)) from ⟨(show k_F0 (k_u1 (σ 123) 8 (0)) from (k_F0_u (hMA).1 (by omega))), (hMA).2.1, (hMA).2.2.1, (hMA).2.2.2.1, (hMA).2.2.2.2.1, (hMA).2.2.2.2.2.1, (hMA).2.2.2.2.2.2.1, (hMA).2.2.2.2.2.2.2.1, (hMA).2.2.2.2.2.2.2.2.1, (hMA).2.2.2.2.2.2.2.2.2.1, (hMA).2.2.2.2.2.2.2.2.2.2.1, (hMA).2.2.2.2.2.2.2.2.2.2.2.1, (hMA).2.2.2.2.2.2.2.2.2.2.2.2⟩)) (fun z2 => ?_)
  have z2 : (-1 ≤ (m_addPupilNow (k_up (k_up σ 123 (k_u1 (σ 123) 8 (0))) 125 (σ 124))).1 ∧ (m_addPupilNow (k_up (k_up σ 123 (k_u1 (σ 123) 8 (0))) 125 (σ 124))).1 ≤ 1000) ∧ k_MA (m_addPupilNow (k_up (k_up σ 123 (k_u1 (σ 123) 8 (0))) 125 (σ 124))).2 := z2
  have z3 := z2.1
  obtain ⟨⟨y4_0, y4_0b⟩, ⟨y4_1, y4_1b⟩, ⟨y4_2, y4_2b⟩, ⟨y4_3, y4_3b⟩, -⟩ := id ((z2.2)).2.1
  obtain ⟨⟨f5_0, g5_0⟩, ⟨f5_1, g5_1⟩, ⟨f5_2, g5_2⟩, ⟨f5_3, g5_3⟩, ⟨f5_4, g5_4⟩, ⟨f5_5, g5_5⟩, ⟨f5_6, g5_6⟩, ⟨f5_7, g5_7⟩, ⟨f5_8, g5_8⟩, ⟨f5_9, g5_9⟩, ⟨f5_10, g5_10⟩, ⟨f5_11, g5_11⟩, ⟨f5_12, g5_12⟩, ⟨f5_13, g5_13⟩⟩ := id ((z2.2)).1
  refine k_iconst (v := 3) dX8_addPupil_9 rfl ?_
  refine k_iconst (v := 0) dX8_addPupil_10 rfl ?_
  refine k_callVrP (st := []) (as := [.int (iI ((m_addPupilNow (k_up (k_up σ 123 (k_u1 (σ 123) 8 (0))) 125 (σ 124))).1)), .int (iI (3)), .int (iI (0))]) dX8_addPupil_11 oX8_ends w_1888 w_1890 w_36 rfl (by omega) rfl (Nat.le_of_ble_eq_true rfl) (by decide) (s_123 hsh) rfl (c8_ends (σ := (m_addPupilNow (k_up (k_up σ 123 (k_u1 (σ 123) 8 (0))) 125 (σ 124))).2) hsh (show k_MA (m_addPupilNow (k_up (k_up σ 123 (k_u1 (σ 123) 8 (0))) 125 (σ 124))).2 from ⟨((z2.2)).1, ((z2.2)).2.1, ((z2.2)).2.2.1, ((z2.2)).2.2.2.1, ((z2.2)).2.2.2.2.1, ((z2.2)).2.2.2.2.2.1, ((z2.2)).2.2.2.2.2.2.1, ((z2.2)).2.2.2.2.2.2.2.1, ((z2.2)).2.2.2.2.2.2.2.2.1, ((z2.2)).2.2.2.2.2.2.2.2.2.1, ((z2.2)).2.2.2.2.2.2.2.2.2.2.1, ((z2.2)).2.2.2.2.2.2.2.2.2.2.2.1, ((z2.2)).2.2.2.2.2.2.2.2.2.2.2.2⟩) (by omega) (by omega) (by omega)) (fun z6 => ?_)
  have z6 : (-1 ≤ (m_ends (m_addPupilNow (k_up (k_up σ 123 (k_u1 (σ 123) 8 (0))) 125 (σ 124))).2 ((m_addPupilNow (k_up (k_up σ 123 (k_u1 (σ 123) 8 (0))) 125 (σ 124))).1) 3 0).1 ∧ (m_ends (m_addPupilNow (k_up (k_up σ 123 (k_u1 (σ 123) 8 (0))) 125 (σ 124))).2 ((m_addPupilNow (k_up (k_up σ 123 (k_u1 (σ 123) 8 (0))) 125 (σ 124))).1) 3 0).1 ≤ 1000) ∧ k_MA (m_ends (m_addPupilNow (k_up (k_up σ 123 (k_u1 (σ 123) 8 (0))) 125 (σ 124))).2 ((m_addPupilNow (k_up (k_up σ 123 (k_u1 (σ 123) 8 (0))) 125 (σ 124))).1) 3 0).2 := z6
  have z7 := z6.1
  obtain ⟨⟨y8_0, y8_0b⟩, ⟨y8_1, y8_1b⟩, ⟨y8_2, y8_2b⟩, ⟨y8_3, y8_3b⟩, -⟩ := id ((z6.2)).2.1
  obtain ⟨⟨f9_0, g9_0⟩, ⟨f9_1, g9_1⟩, ⟨f9_2, g9_2⟩, ⟨f9_3, g9_3⟩, ⟨f9_4, g9_4⟩, ⟨f9_5, g9_5⟩, ⟨f9_6, g9_6⟩, ⟨f9_7, g9_7⟩, ⟨f9_8, g9_8⟩, ⟨f9_9, g9_9⟩, ⟨f9_10, g9_10⟩, ⟨f9_11, g9_11⟩, ⟨f9_12, g9_12⟩, ⟨f9_13, g9_13⟩⟩ := id ((z6.2)).1
  exact k_retiP dX8_addPupil_14 rfl rfl rfl (show (-1 ≤ (m_ends (m_addPupilNow (k_up (k_up σ 123 (k_u1 (σ 123) 8 (0))) 125 (σ 124))).2 ((m_addPupilNow (k_up (k_up σ 123 (k_u1 (σ 123) 8 (0))) 125 (σ 124))).1) 3 0).1 ∧ (m_ends (m_addPupilNow (k_up (k_up σ 123 (k_u1 (σ 123) 8 (0))) 125 (σ 124))).2 ((m_addPupilNow (k_up (k_up σ 123 (k_u1 (σ 123) 8 (0))) 125 (σ 124))).1) 3 0).1 ≤ 1000) ∧ k_MA (m_ends (m_addPupilNow (k_up (k_up σ 123 (k_u1 (σ 123) 8 (0))) 125 (σ 124))).2 ((m_addPupilNow (k_up (k_up σ 123 (k_u1 (σ 123) 8 (0))) 125 (σ 124))).1) 3 0).2 from ⟨by omega, ⟨((z6.2)).1, ((z6.2)).2.1, ((z6.2)).2.2.1, ((z6.2)).2.2.2.1, ((z6.2)).2.2.2.2.1, ((z6.2)).2.2.2.2.2.1, ((z6.2)).2.2.2.2.2.2.1, ((z6.2)).2.2.2.2.2.2.2.1, ((z6.2)).2.2.2.2.2.2.2.2.1, ((z6.2)).2.2.2.2.2.2.2.2.2.1, ((z6.2)).2.2.2.2.2.2.2.2.2.2.1, ((z6.2)).2.2.2.2.2.2.2.2.2.2.2.1, ((z6.2)).2.2.2.2.2.2.2.2.2.2.2.2⟩⟩)
abbrev R_addWish (t : Int × (Nat → Nat → Int)) : Prop := (-1 ≤ t.1 ∧ t.1 ≤ 1000) ∧ k_MA t.2
def m_addWish (σ : Nat → Nat → Int) (p : Int) (s : Int) : Int × (Nat → Nat → Int) := ((m_ends (m_addWishNow (k_up (k_up σ 123 (k_u1 (σ 123) 8 (0))) 125 (σ 124)) p s).2 ((m_addWishNow (k_up (k_up σ 123 (k_u1 (σ 123) 8 (0))) 125 (σ 124)) p s).1) 1 3).1, (m_ends (m_addWishNow (k_up (k_up σ 123 (k_u1 (σ 123) 8 (0))) 125 (σ 124)) p s).2 ((m_addWishNow (k_up (k_up σ 123 (k_u1 (σ 123) 8 (0))) 125 (σ 124)) p s).1) 1 3).2)
set_option maxRecDepth 100000 in
set_option maxHeartbeats 4000000 in
theorem c8_addWish (hsh : k_Main sh) (hMA : k_MA σ) {p s : Int} (h_p : -2147483648 ≤ p ∧ p < 2147483648) (h_s : -2147483648 ≤ s ∧ s < 2147483648) : k_C E mX8_addWish 6 [.ref 123, .int (iI (p)), .int (iI (s))] sh σ 0 0 ((k_pP sh R_addWish) (m_addWish σ p s)) := by
  refine k_C_of (ls0 := [(0, .ref 123), (1, .int (iI (p))), (2, .int (iI (s)))]) rfl pnX8 (fun v hv => k_cat1 rfl hv) (Nat.le_of_ble_eq_true rfl) rfl ?_
  obtain ⟨⟨t0, t0b⟩, ⟨t1, t1b⟩, ⟨t2, t2b⟩, ⟨t3, t3b⟩, -⟩ := id hMA.2.1
  obtain ⟨⟨f10_0, g10_0⟩, ⟨f10_1, g10_1⟩, ⟨f10_2, g10_2⟩, ⟨f10_3, g10_3⟩, ⟨f10_4, g10_4⟩, ⟨f10_5, g10_5⟩, ⟨f10_6, g10_6⟩, ⟨f10_7, g10_7⟩, ⟨f10_8, g10_8⟩, ⟨f10_9, g10_9⟩, ⟨f10_10, g10_10⟩, ⟨f10_11, g10_11⟩, ⟨f10_12, g10_12⟩, ⟨f10_13, g10_13⟩⟩ := id hMA.1
  unfold m_addWish
  refine k_aload_n dX8_addWish_0 0 rfl rfl (by decide) ?_
  refine k_callVr (st := []) (as := []) dX8_addWish_1 oX8_begins w_1873 w_1875 w_33 rfl (by omega) rfl (Nat.le_of_ble_eq_true rfl) (by decide) (s_123 hsh) rfl (c8_begins hsh) ?_
  refine k_eqσ (σ' := (k_up (k_up σ 123 (k_u1 (σ 123) 8 (0))) 125 (σ 124))) (((congrArg (fun s => k_up s 125 (σ 124)) (show k_up σ 123 (k_u1 (σ 123) 8 (0)) = (k_up σ 123 (k_u1 (σ 123) 8 (0))) from rfl)).trans (show k_up (k_up σ 123 (k_u1 (σ 123) 8 (0))) 125 (σ 124) = (k_up (k_up σ 123 (k_u1 (σ 123) 8 (0))) 125 (σ 124)) from rfl))).symm ?_
  refine k_aload_n dX8_addWish_4 0 rfl rfl (by decide) ?_
  refine k_aload_n dX8_addWish_5 0 rfl rfl (by decide) ?_
  refine k_iload_n dX8_addWish_6 1 rfl rfl ?_
  refine k_iload_n dX8_addWish_7 2 rfl rfl ?_
  refine k_callVrP (st := [.ref 123]) (as := [.int (iI (p)), .int (iI (s))]) dX8_addWish_8 oX8_addWishNow w_1988 w_1990 w_48 rfl (by omega) rfl (Nat.le_of_ble_eq_true rfl) (by decide) (s_123 hsh) rfl (c8_addWishNow (σ := (k_up (k_up σ 123 (k_u1 (σ 123) 8 (0))) 125 (σ 124))) hsh (show k_MA (k_up (k_up σ 123 (k_u1 (σ 123) 8 (0))) 125 (σ 124)) from ⟨(show k_F0 (k_u1 (σ 123) 8 (0)) from (k_F0_u (hMA).1 (by omega))), (hMA).2.1, (hMA).2.2.1, (hMA).2.2.2.1, (hMA).2.2.2.2.1, (hMA).2.2.2.2.2.1, (hMA).2.2.2.2.2.2.1, (hMA).2.2.2.2.2.2.2.1, (hMA).2.2.2.2.2.2.2.2.1, (hMA).2.2.2.2.2.2.2.2.2.1, (hMA).2.2.2.2.2.2.2.2.2.2.1, (hMA).2.2.2.2.2.2.2.2.2.2.2.1, (hMA).2.2.2.2.2.2.2.2.2.2.2.2⟩) (by omega) (by omega)) (fun z2 => ?_)
  have z2 : (-1 ≤ (m_addWishNow (k_up (k_up σ 123 (k_u1 (σ 123) 8 (0))) 125 (σ 124)) p s).1 ∧ (m_addWishNow (k_up (k_up σ 123 (k_u1 (σ 123) 8 (0))) 125 (σ 124)) p s).1 ≤ 1000) ∧ k_MA (m_addWishNow (k_up (k_up σ 123 (k_u1 (σ 123) 8 (0))) 125 (σ 124)) p s).2 := z2
  have z3 := z2.1
  obtain ⟨⟨y4_0, y4_0b⟩, ⟨y4_1, y4_1b⟩, ⟨y4_2, y4_2b⟩, ⟨y4_3, y4_3b⟩, -⟩ := id ((z2.2)).2.1
  obtain ⟨⟨f5_0, g5_0⟩, ⟨f5_1, g5_1⟩, ⟨f5_2, g5_2⟩, ⟨f5_3, g5_3⟩, ⟨f5_4, g5_4⟩, ⟨f5_5, g5_5⟩, ⟨f5_6, g5_6⟩, ⟨f5_7, g5_7⟩, ⟨f5_8, g5_8⟩, ⟨f5_9, g5_9⟩, ⟨f5_10, g5_10⟩, ⟨f5_11, g5_11⟩, ⟨f5_12, g5_12⟩, ⟨f5_13, g5_13⟩⟩ := id ((z2.2)).1
  refine k_iconst (v := 1) dX8_addWish_11 rfl ?_
  refine k_iconst (v := 3) dX8_addWish_12 rfl ?_
  refine k_callVrP (st := []) (as := [.int (iI ((m_addWishNow (k_up (k_up σ 123 (k_u1 (σ 123) 8 (0))) 125 (σ 124)) p s).1)), .int (iI (1)), .int (iI (3))]) dX8_addWish_13 oX8_ends w_1888 w_1890 w_36 rfl (by omega) rfl (Nat.le_of_ble_eq_true rfl) (by decide) (s_123 hsh) rfl (c8_ends (σ := (m_addWishNow (k_up (k_up σ 123 (k_u1 (σ 123) 8 (0))) 125 (σ 124)) p s).2) hsh (show k_MA (m_addWishNow (k_up (k_up σ 123 (k_u1 (σ 123) 8 (0))) 125 (σ 124)) p s).2 from ⟨((z2.2)).1, ((z2.2)).2.1, ((z2.2)).2.2.1, ((z2.2)).2.2.2.1, ((z2.2)).2.2.2.2.1, ((z2.2)).2.2.2.2.2.1, ((z2.2)).2.2.2.2.2.2.1, ((z2.2)).2.2.2.2.2.2.2.1, ((z2.2)).2.2.2.2.2.2.2.2.1, ((z2.2)).2.2.2.2.2.2.2.2.2.1, ((z2.2)).2.2.2.2.2.2.2.2.2.2.1, ((z2.2)).2.2.2.2.2.2.2.2.2.2.2.1, ((z2.2)).2.2.2.2.2.2.2.2.2.2.2.2⟩) (by omega) (by omega) (by omega)) (fun z6 => ?_)
  have z6 : (-1 ≤ (m_ends (m_addWishNow (k_up (k_up σ 123 (k_u1 (σ 123) 8 (0))) 125 (σ 124)) p s).2 ((m_addWishNow (k_up (k_up σ 123 (k_u1 (σ 123) 8 (0))) 125 (σ 124)) p s).1) 1 3).1 ∧ (m_ends (m_addWishNow (k_up (k_up σ 123 (k_u1 (σ 123) 8 (0))) 125 (σ 124)) p s).2 ((m_addWishNow (k_up (k_up σ 123 (k_u1 (σ 123) 8 (0))) 125 (σ 124)) p s).1) 1 3).1 ≤ 1000) ∧ k_MA (m_ends (m_addWishNow (k_up (k_up σ 123 (k_u1 (σ 123) 8 (0))) 125 (σ 124)) p s).2 ((m_addWishNow (k_up (k_up σ 123 (k_u1 (σ 123) 8 (0))) 125 (σ 124)) p s).1) 1 3).2 := z6
  have z7 := z6.1
  obtain ⟨⟨y8_0, y8_0b⟩, ⟨y8_1, y8_1b⟩, ⟨y8_2, y8_2b⟩, ⟨y8_3, y8_3b⟩, -⟩ := id ((z6.2)).2.1
  obtain ⟨⟨f9_0, g9_0⟩, ⟨f9_1, g9_1⟩, ⟨f9_2, g9_2⟩, ⟨f9_3, g9_3⟩, ⟨f9_4, g9_4⟩, ⟨f9_5, g9_5⟩, ⟨f9_6, g9_6⟩, ⟨f9_7, g9_7⟩, ⟨f9_8, g9_8⟩, ⟨f9_9, g9_9⟩, ⟨f9_10, g9_10⟩, ⟨f9_11, g9_11⟩, ⟨f9_12, g9_12⟩, ⟨f9_13, g9_13⟩⟩ := id ((z6.2)).1
  exact k_retiP dX8_addWish_16 rfl rfl rfl (show (-1 ≤ (m_ends (m_addWishNow (k_up (k_up σ 123 (k_u1 (σ 123) 8 (0))) 125 (σ 124)) p s).2 ((m_addWishNow (k_up (k_up σ 123 (k_u1 (σ 123) 8 (0))) 125 (σ 124)) p s).1) 1 3).1 ∧ (m_ends (m_addWishNow (k_up (k_up σ 123 (k_u1 (σ 123) 8 (0))) 125 (σ 124)) p s).2 ((m_addWishNow (k_up (k_up σ 123 (k_u1 (σ 123) 8 (0))) 125 (σ 124)) p s).1) 1 3).1 ≤ 1000) ∧ k_MA (m_ends (m_addWishNow (k_up (k_up σ 123 (k_u1 (σ 123) 8 (0))) 125 (σ 124)) p s).2 ((m_addWishNow (k_up (k_up σ 123 (k_u1 (σ 123) 8 (0))) 125 (σ 124)) p s).1) 1 3).2 from ⟨by omega, ⟨((z6.2)).1, ((z6.2)).2.1, ((z6.2)).2.2.1, ((z6.2)).2.2.2.1, ((z6.2)).2.2.2.2.1, ((z6.2)).2.2.2.2.2.1, ((z6.2)).2.2.2.2.2.2.1, ((z6.2)).2.2.2.2.2.2.2.1, ((z6.2)).2.2.2.2.2.2.2.2.1, ((z6.2)).2.2.2.2.2.2.2.2.2.1, ((z6.2)).2.2.2.2.2.2.2.2.2.2.1, ((z6.2)).2.2.2.2.2.2.2.2.2.2.2.1, ((z6.2)).2.2.2.2.2.2.2.2.2.2.2.2⟩⟩)
abbrev R_setReserve (t : Int × (Nat → Nat → Int)) : Prop := (-1 ≤ t.1 ∧ t.1 ≤ 1000) ∧ k_MA t.2
def m_setReserve (σ : Nat → Nat → Int) (p : Int) (s : Int) : Int × (Nat → Nat → Int) := ((m_ends (m_setReserveNow (k_up (k_up σ 123 (k_u1 (σ 123) 8 (0))) 125 (σ 124)) p s).2 ((m_setReserveNow (k_up (k_up σ 123 (k_u1 (σ 123) 8 (0))) 125 (σ 124)) p s).1) 1 3).1, (m_ends (m_setReserveNow (k_up (k_up σ 123 (k_u1 (σ 123) 8 (0))) 125 (σ 124)) p s).2 ((m_setReserveNow (k_up (k_up σ 123 (k_u1 (σ 123) 8 (0))) 125 (σ 124)) p s).1) 1 3).2)
set_option maxRecDepth 100000 in
set_option maxHeartbeats 4000000 in
theorem c8_setReserve (hsh : k_Main sh) (hMA : k_MA σ) {p s : Int} (h_p : -2147483648 ≤ p ∧ p < 2147483648) (h_s : -2147483648 ≤ s ∧ s < 2147483648) : k_C E mX8_setReserve 6 [.ref 123, .int (iI (p)), .int (iI (s))] sh σ 0 0 ((k_pP sh R_setReserve) (m_setReserve σ p s)) := by
  refine k_C_of (ls0 := [(0, .ref 123), (1, .int (iI (p))), (2, .int (iI (s)))]) rfl pnX8 (fun v hv => k_cat1 rfl hv) (Nat.le_of_ble_eq_true rfl) rfl ?_
  obtain ⟨⟨t0, t0b⟩, ⟨t1, t1b⟩, ⟨t2, t2b⟩, ⟨t3, t3b⟩, -⟩ := id hMA.2.1
  obtain ⟨⟨f10_0, g10_0⟩, ⟨f10_1, g10_1⟩, ⟨f10_2, g10_2⟩, ⟨f10_3, g10_3⟩, ⟨f10_4, g10_4⟩, ⟨f10_5, g10_5⟩, ⟨f10_6, g10_6⟩, ⟨f10_7, g10_7⟩, ⟨f10_8, g10_8⟩, ⟨f10_9, g10_9⟩, ⟨f10_10, g10_10⟩, ⟨f10_11, g10_11⟩, ⟨f10_12, g10_12⟩, ⟨f10_13, g10_13⟩⟩ := id hMA.1
  unfold m_setReserve
  refine k_aload_n dX8_setReserve_0 0 rfl rfl (by decide) ?_
  refine k_callVr (st := []) (as := []) dX8_setReserve_1 oX8_begins w_1873 w_1875 w_33 rfl (by omega) rfl (Nat.le_of_ble_eq_true rfl) (by decide) (s_123 hsh) rfl (c8_begins hsh) ?_
  refine k_eqσ (σ' := (k_up (k_up σ 123 (k_u1 (σ 123) 8 (0))) 125 (σ 124))) (((congrArg (fun s => k_up s 125 (σ 124)) (show k_up σ 123 (k_u1 (σ 123) 8 (0)) = (k_up σ 123 (k_u1 (σ 123) 8 (0))) from rfl)).trans (show k_up (k_up σ 123 (k_u1 (σ 123) 8 (0))) 125 (σ 124) = (k_up (k_up σ 123 (k_u1 (σ 123) 8 (0))) 125 (σ 124)) from rfl))).symm ?_
  refine k_aload_n dX8_setReserve_4 0 rfl rfl (by decide) ?_
  refine k_aload_n dX8_setReserve_5 0 rfl rfl (by decide) ?_
  refine k_iload_n dX8_setReserve_6 1 rfl rfl ?_
  refine k_iload_n dX8_setReserve_7 2 rfl rfl ?_
  refine k_callVrP (st := [.ref 123]) (as := [.int (iI (p)), .int (iI (s))]) dX8_setReserve_8 oX8_setReserveNow w_2008 w_2010 w_52 rfl (by omega) rfl (Nat.le_of_ble_eq_true rfl) (by decide) (s_123 hsh) rfl (c8_setReserveNow (σ := (k_up (k_up σ 123 (k_u1 (σ 123) 8 (0))) 125 (σ 124))) hsh (show k_MA (k_up (k_up σ 123 (k_u1 (σ 123) 8 (0))) 125 (σ 124)) from ⟨(show k_F0 (k_u1 (σ 123) 8 (0)) from (k_F0_u (hMA).1 (by omega))), (hMA).2.1, (hMA).2.2.1, (hMA).2.2.2.1, (hMA).2.2.2.2.1, (hMA).2.2.2.2.2.1, (hMA).2.2.2.2.2.2.1, (hMA).2.2.2.2.2.2.2.1, (hMA).2.2.2.2.2.2.2.2.1, (hMA).2.2.2.2.2.2.2.2.2.1, (hMA).2.2.2.2.2.2.2.2.2.2.1, (hMA).2.2.2.2.2.2.2.2.2.2.2.1, (hMA).2.2.2.2.2.2.2.2.2.2.2.2⟩) (by omega) (by omega)) (fun z2 => ?_)
  have z2 : (-1 ≤ (m_setReserveNow (k_up (k_up σ 123 (k_u1 (σ 123) 8 (0))) 125 (σ 124)) p s).1 ∧ (m_setReserveNow (k_up (k_up σ 123 (k_u1 (σ 123) 8 (0))) 125 (σ 124)) p s).1 ≤ 1000) ∧ k_MA (m_setReserveNow (k_up (k_up σ 123 (k_u1 (σ 123) 8 (0))) 125 (σ 124)) p s).2 := z2
  have z3 := z2.1
  obtain ⟨⟨y4_0, y4_0b⟩, ⟨y4_1, y4_1b⟩, ⟨y4_2, y4_2b⟩, ⟨y4_3, y4_3b⟩, -⟩ := id ((z2.2)).2.1
  obtain ⟨⟨f5_0, g5_0⟩, ⟨f5_1, g5_1⟩, ⟨f5_2, g5_2⟩, ⟨f5_3, g5_3⟩, ⟨f5_4, g5_4⟩, ⟨f5_5, g5_5⟩, ⟨f5_6, g5_6⟩, ⟨f5_7, g5_7⟩, ⟨f5_8, g5_8⟩, ⟨f5_9, g5_9⟩, ⟨f5_10, g5_10⟩, ⟨f5_11, g5_11⟩, ⟨f5_12, g5_12⟩, ⟨f5_13, g5_13⟩⟩ := id ((z2.2)).1
  refine k_iconst (v := 1) dX8_setReserve_11 rfl ?_
  refine k_iconst (v := 3) dX8_setReserve_12 rfl ?_
  refine k_callVrP (st := []) (as := [.int (iI ((m_setReserveNow (k_up (k_up σ 123 (k_u1 (σ 123) 8 (0))) 125 (σ 124)) p s).1)), .int (iI (1)), .int (iI (3))]) dX8_setReserve_13 oX8_ends w_1888 w_1890 w_36 rfl (by omega) rfl (Nat.le_of_ble_eq_true rfl) (by decide) (s_123 hsh) rfl (c8_ends (σ := (m_setReserveNow (k_up (k_up σ 123 (k_u1 (σ 123) 8 (0))) 125 (σ 124)) p s).2) hsh (show k_MA (m_setReserveNow (k_up (k_up σ 123 (k_u1 (σ 123) 8 (0))) 125 (σ 124)) p s).2 from ⟨((z2.2)).1, ((z2.2)).2.1, ((z2.2)).2.2.1, ((z2.2)).2.2.2.1, ((z2.2)).2.2.2.2.1, ((z2.2)).2.2.2.2.2.1, ((z2.2)).2.2.2.2.2.2.1, ((z2.2)).2.2.2.2.2.2.2.1, ((z2.2)).2.2.2.2.2.2.2.2.1, ((z2.2)).2.2.2.2.2.2.2.2.2.1, ((z2.2)).2.2.2.2.2.2.2.2.2.2.1, ((z2.2)).2.2.2.2.2.2.2.2.2.2.2.1, ((z2.2)).2.2.2.2.2.2.2.2.2.2.2.2⟩) (by omega) (by omega) (by omega)) (fun z6 => ?_)
  have z6 : (-1 ≤ (m_ends (m_setReserveNow (k_up (k_up σ 123 (k_u1 (σ 123) 8 (0))) 125 (σ 124)) p s).2 ((m_setReserveNow (k_up (k_up σ 123 (k_u1 (σ 123) 8 (0))) 125 (σ 124)) p s).1) 1 3).1 ∧ (m_ends (m_setReserveNow (k_up (k_up σ 123 (k_u1 (σ 123) 8 (0))) 125 (σ 124)) p s).2 ((m_setReserveNow (k_up (k_up σ 123 (k_u1 (σ 123) 8 (0))) 125 (σ 124)) p s).1) 1 3).1 ≤ 1000) ∧ k_MA (m_ends (m_setReserveNow (k_up (k_up σ 123 (k_u1 (σ 123) 8 (0))) 125 (σ 124)) p s).2 ((m_setReserveNow (k_up (k_up σ 123 (k_u1 (σ 123) 8 (0))) 125 (σ 124)) p s).1) 1 3).2 := z6
  have z7 := z6.1
  obtain ⟨⟨y8_0, y8_0b⟩, ⟨y8_1, y8_1b⟩, ⟨y8_2, y8_2b⟩, ⟨y8_3, y8_3b⟩, -⟩ := id ((z6.2)).2.1
  obtain ⟨⟨f9_0, g9_0⟩, ⟨f9_1, g9_1⟩, ⟨f9_2, g9_2⟩, ⟨f9_3, g9_3⟩, ⟨f9_4, g9_4⟩, ⟨f9_5, g9_5⟩, ⟨f9_6, g9_6⟩, ⟨f9_7, g9_7⟩, ⟨f9_8, g9_8⟩, ⟨f9_9, g9_9⟩, ⟨f9_10, g9_10⟩, ⟨f9_11, g9_11⟩, ⟨f9_12, g9_12⟩, ⟨f9_13, g9_13⟩⟩ := id ((z6.2)).1
  exact k_retiP dX8_setReserve_16 rfl rfl rfl (show (-1 ≤ (m_ends (m_setReserveNow (k_up (k_up σ 123 (k_u1 (σ 123) 8 (0))) 125 (σ 124)) p s).2 ((m_setReserveNow (k_up (k_up σ 123 (k_u1 (σ 123) 8 (0))) 125 (σ 124)) p s).1) 1 3).1 ∧ (m_ends (m_setReserveNow (k_up (k_up σ 123 (k_u1 (σ 123) 8 (0))) 125 (σ 124)) p s).2 ((m_setReserveNow (k_up (k_up σ 123 (k_u1 (σ 123) 8 (0))) 125 (σ 124)) p s).1) 1 3).1 ≤ 1000) ∧ k_MA (m_ends (m_setReserveNow (k_up (k_up σ 123 (k_u1 (σ 123) 8 (0))) 125 (σ 124)) p s).2 ((m_setReserveNow (k_up (k_up σ 123 (k_u1 (σ 123) 8 (0))) 125 (σ 124)) p s).1) 1 3).2 from ⟨by omega, ⟨((z6.2)).1, ((z6.2)).2.1, ((z6.2)).2.2.1, ((z6.2)).2.2.2.1, ((z6.2)).2.2.2.2.1, ((z6.2)).2.2.2.2.2.1, ((z6.2)).2.2.2.2.2.2.1, ((z6.2)).2.2.2.2.2.2.2.1, ((z6.2)).2.2.2.2.2.2.2.2.1, ((z6.2)).2.2.2.2.2.2.2.2.2.1, ((z6.2)).2.2.2.2.2.2.2.2.2.2.1, ((z6.2)).2.2.2.2.2.2.2.2.2.2.2.1, ((z6.2)).2.2.2.2.2.2.2.2.2.2.2.2⟩⟩)
abbrev R_enrol (t : Int × (Nat → Nat → Int)) : Prop := (-1 ≤ t.1 ∧ t.1 ≤ 1000) ∧ k_MA t.2
def m_enrol (σ : Nat → Nat → Int) (p : Int) : Int × (Nat → Nat → Int) := ((m_ends (m_enrolNow (k_up (k_up σ 123 (k_u1 (σ 123) 8 (0))) 125 (σ 124)) p).2 ((m_enrolNow (k_up (k_up σ 123 (k_u1 (σ 123) 8 (0))) 125 (σ 124)) p).1) 1 3).1, (m_ends (m_enrolNow (k_up (k_up σ 123 (k_u1 (σ 123) 8 (0))) 125 (σ 124)) p).2 ((m_enrolNow (k_up (k_up σ 123 (k_u1 (σ 123) 8 (0))) 125 (σ 124)) p).1) 1 3).2)
set_option maxRecDepth 100000 in
set_option maxHeartbeats 4000000 in
theorem c8_enrol (hsh : k_Main sh) (hMA : k_MA σ) {p : Int} (h_p : -2147483648 ≤ p ∧ p < 2147483648) : k_C E mX8_enrol 8 [.ref 123, .int (iI (p))] sh σ 0 0 ((k_pP sh R_enrol) (m_enrol σ p)) := by
  refine k_C_of (ls0 := [(0, .ref 123), (1, .int (iI (p)))]) rfl pnX8 (fun v hv => k_cat1 rfl hv) (Nat.le_of_ble_eq_true rfl) rfl ?_
  obtain ⟨⟨t0, t0b⟩, ⟨t1, t1b⟩, ⟨t2, t2b⟩, ⟨t3, t3b⟩, -⟩ := id hMA.2.1
  obtain ⟨⟨f10_0, g10_0⟩, ⟨f10_1, g10_1⟩, ⟨f10_2, g10_2⟩, ⟨f10_3, g10_3⟩, ⟨f10_4, g10_4⟩, ⟨f10_5, g10_5⟩, ⟨f10_6, g10_6⟩, ⟨f10_7, g10_7⟩, ⟨f10_8, g10_8⟩, ⟨f10_9, g10_9⟩, ⟨f10_10, g10_10⟩, ⟨f10_11, g10_11⟩, ⟨f10_12, g10_12⟩, ⟨f10_13, g10_13⟩⟩ := id hMA.1
  unfold m_enrol
  refine k_aload_n dX8_enrol_0 0 rfl rfl (by decide) ?_
  refine k_callVr (st := []) (as := []) dX8_enrol_1 oX8_begins w_1873 w_1875 w_33 rfl (by omega) rfl (Nat.le_of_ble_eq_true rfl) (by decide) (s_123 hsh) rfl (c8_begins hsh) ?_
  refine k_eqσ (σ' := (k_up (k_up σ 123 (k_u1 (σ 123) 8 (0))) 125 (σ 124))) (((congrArg (fun s => k_up s 125 (σ 124)) (show k_up σ 123 (k_u1 (σ 123) 8 (0)) = (k_up σ 123 (k_u1 (σ 123) 8 (0))) from rfl)).trans (show k_up (k_up σ 123 (k_u1 (σ 123) 8 (0))) 125 (σ 124) = (k_up (k_up σ 123 (k_u1 (σ 123) 8 (0))) 125 (σ 124)) from rfl))).symm ?_
  refine k_aload_n dX8_enrol_4 0 rfl rfl (by decide) ?_
  refine k_aload_n dX8_enrol_5 0 rfl rfl (by decide) ?_
  refine k_iload_n dX8_enrol_6 1 rfl rfl ?_
  refine k_callVrP (st := [.ref 123]) (as := [.int (iI (p))]) dX8_enrol_7 oX8_enrolNow w_2040 w_2042 w_54 rfl (by omega) rfl (Nat.le_of_ble_eq_true rfl) (by decide) (s_123 hsh) rfl (c8_enrolNow (σ := (k_up (k_up σ 123 (k_u1 (σ 123) 8 (0))) 125 (σ 124))) hsh (show k_MA (k_up (k_up σ 123 (k_u1 (σ 123) 8 (0))) 125 (σ 124)) from ⟨(show k_F0 (k_u1 (σ 123) 8 (0)) from (k_F0_u (hMA).1 (by omega))), (hMA).2.1, (hMA).2.2.1, (hMA).2.2.2.1, (hMA).2.2.2.2.1, (hMA).2.2.2.2.2.1, (hMA).2.2.2.2.2.2.1, (hMA).2.2.2.2.2.2.2.1, (hMA).2.2.2.2.2.2.2.2.1, (hMA).2.2.2.2.2.2.2.2.2.1, (hMA).2.2.2.2.2.2.2.2.2.2.1, (hMA).2.2.2.2.2.2.2.2.2.2.2.1, (hMA).2.2.2.2.2.2.2.2.2.2.2.2⟩) (by omega)) (fun z2 => ?_)
  have z2 : (-1 ≤ (m_enrolNow (k_up (k_up σ 123 (k_u1 (σ 123) 8 (0))) 125 (σ 124)) p).1 ∧ (m_enrolNow (k_up (k_up σ 123 (k_u1 (σ 123) 8 (0))) 125 (σ 124)) p).1 ≤ 1000) ∧ k_MA (m_enrolNow (k_up (k_up σ 123 (k_u1 (σ 123) 8 (0))) 125 (σ 124)) p).2 := z2
  have z3 := z2.1
  obtain ⟨⟨y4_0, y4_0b⟩, ⟨y4_1, y4_1b⟩, ⟨y4_2, y4_2b⟩, ⟨y4_3, y4_3b⟩, -⟩ := id ((z2.2)).2.1
  obtain ⟨⟨f5_0, g5_0⟩, ⟨f5_1, g5_1⟩, ⟨f5_2, g5_2⟩, ⟨f5_3, g5_3⟩, ⟨f5_4, g5_4⟩, ⟨f5_5, g5_5⟩, ⟨f5_6, g5_6⟩, ⟨f5_7, g5_7⟩, ⟨f5_8, g5_8⟩, ⟨f5_9, g5_9⟩, ⟨f5_10, g5_10⟩, ⟨f5_11, g5_11⟩, ⟨f5_12, g5_12⟩, ⟨f5_13, g5_13⟩⟩ := id ((z2.2)).1
  refine k_iconst (v := 1) dX8_enrol_10 rfl ?_
  refine k_iconst (v := 3) dX8_enrol_11 rfl ?_
  refine k_callVrP (st := []) (as := [.int (iI ((m_enrolNow (k_up (k_up σ 123 (k_u1 (σ 123) 8 (0))) 125 (σ 124)) p).1)), .int (iI (1)), .int (iI (3))]) dX8_enrol_12 oX8_ends w_1888 w_1890 w_36 rfl (by omega) rfl (Nat.le_of_ble_eq_true rfl) (by decide) (s_123 hsh) rfl (c8_ends (σ := (m_enrolNow (k_up (k_up σ 123 (k_u1 (σ 123) 8 (0))) 125 (σ 124)) p).2) hsh (show k_MA (m_enrolNow (k_up (k_up σ 123 (k_u1 (σ 123) 8 (0))) 125 (σ 124)) p).2 from ⟨((z2.2)).1, ((z2.2)).2.1, ((z2.2)).2.2.1, ((z2.2)).2.2.2.1, ((z2.2)).2.2.2.2.1, ((z2.2)).2.2.2.2.2.1, ((z2.2)).2.2.2.2.2.2.1, ((z2.2)).2.2.2.2.2.2.2.1, ((z2.2)).2.2.2.2.2.2.2.2.1, ((z2.2)).2.2.2.2.2.2.2.2.2.1, ((z2.2)).2.2.2.2.2.2.2.2.2.2.1, ((z2.2)).2.2.2.2.2.2.2.2.2.2.2.1, ((z2.2)).2.2.2.2.2.2.2.2.2.2.2.2⟩) (by omega) (by omega) (by omega)) (fun z6 => ?_)
  have z6 : (-1 ≤ (m_ends (m_enrolNow (k_up (k_up σ 123 (k_u1 (σ 123) 8 (0))) 125 (σ 124)) p).2 ((m_enrolNow (k_up (k_up σ 123 (k_u1 (σ 123) 8 (0))) 125 (σ 124)) p).1) 1 3).1 ∧ (m_ends (m_enrolNow (k_up (k_up σ 123 (k_u1 (σ 123) 8 (0))) 125 (σ 124)) p).2 ((m_enrolNow (k_up (k_up σ 123 (k_u1 (σ 123) 8 (0))) 125 (σ 124)) p).1) 1 3).1 ≤ 1000) ∧ k_MA (m_ends (m_enrolNow (k_up (k_up σ 123 (k_u1 (σ 123) 8 (0))) 125 (σ 124)) p).2 ((m_enrolNow (k_up (k_up σ 123 (k_u1 (σ 123) 8 (0))) 125 (σ 124)) p).1) 1 3).2 := z6
  have z7 := z6.1
  obtain ⟨⟨y8_0, y8_0b⟩, ⟨y8_1, y8_1b⟩, ⟨y8_2, y8_2b⟩, ⟨y8_3, y8_3b⟩, -⟩ := id ((z6.2)).2.1
  obtain ⟨⟨f9_0, g9_0⟩, ⟨f9_1, g9_1⟩, ⟨f9_2, g9_2⟩, ⟨f9_3, g9_3⟩, ⟨f9_4, g9_4⟩, ⟨f9_5, g9_5⟩, ⟨f9_6, g9_6⟩, ⟨f9_7, g9_7⟩, ⟨f9_8, g9_8⟩, ⟨f9_9, g9_9⟩, ⟨f9_10, g9_10⟩, ⟨f9_11, g9_11⟩, ⟨f9_12, g9_12⟩, ⟨f9_13, g9_13⟩⟩ := id ((z6.2)).1
  exact k_retiP dX8_enrol_15 rfl rfl rfl (show (-1 ≤ (m_ends (m_enrolNow (k_up (k_up σ 123 (k_u1 (σ 123) 8 (0))) 125 (σ 124)) p).2 ((m_enrolNow (k_up (k_up σ 123 (k_u1 (σ 123) 8 (0))) 125 (σ 124)) p).1) 1 3).1 ∧ (m_ends (m_enrolNow (k_up (k_up σ 123 (k_u1 (σ 123) 8 (0))) 125 (σ 124)) p).2 ((m_enrolNow (k_up (k_up σ 123 (k_u1 (σ 123) 8 (0))) 125 (σ 124)) p).1) 1 3).1 ≤ 1000) ∧ k_MA (m_ends (m_enrolNow (k_up (k_up σ 123 (k_u1 (σ 123) 8 (0))) 125 (σ 124)) p).2 ((m_enrolNow (k_up (k_up σ 123 (k_u1 (σ 123) 8 (0))) 125 (σ 124)) p).1) 1 3).2 from ⟨by omega, ⟨((z6.2)).1, ((z6.2)).2.1, ((z6.2)).2.2.1, ((z6.2)).2.2.2.1, ((z6.2)).2.2.2.2.1, ((z6.2)).2.2.2.2.2.1, ((z6.2)).2.2.2.2.2.2.1, ((z6.2)).2.2.2.2.2.2.2.1, ((z6.2)).2.2.2.2.2.2.2.2.1, ((z6.2)).2.2.2.2.2.2.2.2.2.1, ((z6.2)).2.2.2.2.2.2.2.2.2.2.1, ((z6.2)).2.2.2.2.2.2.2.2.2.2.2.1, ((z6.2)).2.2.2.2.2.2.2.2.2.2.2.2⟩⟩)
abbrev R_withdraw (t : Int × (Nat → Nat → Int)) : Prop := (-1 ≤ t.1 ∧ t.1 ≤ 1000) ∧ k_MA t.2
def m_withdraw (σ : Nat → Nat → Int) (p : Int) : Int × (Nat → Nat → Int) := ((m_ends (m_withdrawNow (k_up (k_up σ 123 (k_u1 (σ 123) 8 (0))) 125 (σ 124)) p).2 ((m_withdrawNow (k_up (k_up σ 123 (k_u1 (σ 123) 8 (0))) 125 (σ 124)) p).1) 1 3).1, (m_ends (m_withdrawNow (k_up (k_up σ 123 (k_u1 (σ 123) 8 (0))) 125 (σ 124)) p).2 ((m_withdrawNow (k_up (k_up σ 123 (k_u1 (σ 123) 8 (0))) 125 (σ 124)) p).1) 1 3).2)
set_option maxRecDepth 100000 in
set_option maxHeartbeats 4000000 in
theorem c8_withdraw (hsh : k_Main sh) (hMA : k_MA σ) {p : Int} (h_p : -2147483648 ≤ p ∧ p < 2147483648) : k_C E mX8_withdraw 6 [.ref 123, .int (iI (p))] sh σ 0 0 ((k_pP sh R_withdraw) (m_withdraw σ p)) := by
  refine k_C_of (ls0 := [(0, .ref 123), (1, .int (iI (p)))]) rfl pnX8 (fun v hv => k_cat1 rfl hv) (Nat.le_of_ble_eq_true rfl) rfl ?_
  obtain ⟨⟨t0, t0b⟩, ⟨t1, t1b⟩, ⟨t2, t2b⟩, ⟨t3, t3b⟩, -⟩ := id hMA.2.1
  obtain ⟨⟨f10_0, g10_0⟩, ⟨f10_1, g10_1⟩, ⟨f10_2, g10_2⟩, ⟨f10_3, g10_3⟩, ⟨f10_4, g10_4⟩, ⟨f10_5, g10_5⟩, ⟨f10_6, g10_6⟩, ⟨f10_7, g10_7⟩, ⟨f10_8, g10_8⟩, ⟨f10_9, g10_9⟩, ⟨f10_10, g10_10⟩, ⟨f10_11, g10_11⟩, ⟨f10_12, g10_12⟩, ⟨f10_13, g10_13⟩⟩ := id hMA.1
  unfold m_withdraw
  refine k_aload_n dX8_withdraw_0 0 rfl rfl (by decide) ?_
  refine k_callVr (st := []) (as := []) dX8_withdraw_1 oX8_begins w_1873 w_1875 w_33 rfl (by omega) rfl (Nat.le_of_ble_eq_true rfl) (by decide) (s_123 hsh) rfl (c8_begins hsh) ?_
  refine k_eqσ (σ' := (k_up (k_up σ 123 (k_u1 (σ 123) 8 (0))) 125 (σ 124))) (((congrArg (fun s => k_up s 125 (σ 124)) (show k_up σ 123 (k_u1 (σ 123) 8 (0)) = (k_up σ 123 (k_u1 (σ 123) 8 (0))) from rfl)).trans (show k_up (k_up σ 123 (k_u1 (σ 123) 8 (0))) 125 (σ 124) = (k_up (k_up σ 123 (k_u1 (σ 123) 8 (0))) 125 (σ 124)) from rfl))).symm ?_
  refine k_aload_n dX8_withdraw_4 0 rfl rfl (by decide) ?_
  refine k_aload_n dX8_withdraw_5 0 rfl rfl (by decide) ?_
  refine k_iload_n dX8_withdraw_6 1 rfl rfl ?_
  refine k_callVrP (st := [.ref 123]) (as := [.int (iI (p))]) dX8_withdraw_7 oX8_withdrawNow w_2076 w_2078 w_61 rfl (by omega) rfl (Nat.le_of_ble_eq_true rfl) (by decide) (s_123 hsh) rfl (c8_withdrawNow (σ := (k_up (k_up σ 123 (k_u1 (σ 123) 8 (0))) 125 (σ 124))) hsh (show k_MA (k_up (k_up σ 123 (k_u1 (σ 123) 8 (0))) 125 (σ 124)) from ⟨(show k_F0 (k_u1 (σ 123) 8 (0)) from (k_F0_u (hMA).1 (by omega))), (hMA).2.1, (hMA).2.2.1, (hMA).2.2.2.1, (hMA).2.2.2.2.1, (hMA).2.2.2.2.2.1, (hMA).2.2.2.2.2.2.1, (hMA).2.2.2.2.2.2.2.1, (hMA).2.2.2.2.2.2.2.2.1, (hMA).2.2.2.2.2.2.2.2.2.1, (hMA).2.2.2.2.2.2.2.2.2.2.1, (hMA).2.2.2.2.2.2.2.2.2.2.2.1, (hMA).2.2.2.2.2.2.2.2.2.2.2.2⟩) (by omega)) (fun z2 => ?_)
  have z2 : (-1 ≤ (m_withdrawNow (k_up (k_up σ 123 (k_u1 (σ 123) 8 (0))) 125 (σ 124)) p).1 ∧ (m_withdrawNow (k_up (k_up σ 123 (k_u1 (σ 123) 8 (0))) 125 (σ 124)) p).1 ≤ 1000) ∧ k_MA (m_withdrawNow (k_up (k_up σ 123 (k_u1 (σ 123) 8 (0))) 125 (σ 124)) p).2 := z2
  have z3 := z2.1
  obtain ⟨⟨y4_0, y4_0b⟩, ⟨y4_1, y4_1b⟩, ⟨y4_2, y4_2b⟩, ⟨y4_3, y4_3b⟩, -⟩ := id ((z2.2)).2.1
  obtain ⟨⟨f5_0, g5_0⟩, ⟨f5_1, g5_1⟩, ⟨f5_2, g5_2⟩, ⟨f5_3, g5_3⟩, ⟨f5_4, g5_4⟩, ⟨f5_5, g5_5⟩, ⟨f5_6, g5_6⟩, ⟨f5_7, g5_7⟩, ⟨f5_8, g5_8⟩, ⟨f5_9, g5_9⟩, ⟨f5_10, g5_10⟩, ⟨f5_11, g5_11⟩, ⟨f5_12, g5_12⟩, ⟨f5_13, g5_13⟩⟩ := id ((z2.2)).1
  refine k_iconst (v := 1) dX8_withdraw_10 rfl ?_
  refine k_iconst (v := 3) dX8_withdraw_11 rfl ?_
  refine k_callVrP (st := []) (as := [.int (iI ((m_withdrawNow (k_up (k_up σ 123 (k_u1 (σ 123) 8 (0))) 125 (σ 124)) p).1)), .int (iI (1)), .int (iI (3))]) dX8_withdraw_12 oX8_ends w_1888 w_1890 w_36 rfl (by omega) rfl (Nat.le_of_ble_eq_true rfl) (by decide) (s_123 hsh) rfl (c8_ends (σ := (m_withdrawNow (k_up (k_up σ 123 (k_u1 (σ 123) 8 (0))) 125 (σ 124)) p).2) hsh (show k_MA (m_withdrawNow (k_up (k_up σ 123 (k_u1 (σ 123) 8 (0))) 125 (σ 124)) p).2 from ⟨((z2.2)).1, ((z2.2)).2.1, ((z2.2)).2.2.1, ((z2.2)).2.2.2.1, ((z2.2)).2.2.2.2.1, ((z2.2)).2.2.2.2.2.1, ((z2.2)).2.2.2.2.2.2.1, ((z2.2)).2.2.2.2.2.2.2.1, ((z2.2)).2.2.2.2.2.2.2.2.1, ((z2.2)).2.2.2.2.2.2.2.2.2.1, ((z2.2)).2.2.2.2.2.2.2.2.2.2.1, ((z2.2)).2.2.2.2.2.2.2.2.2.2.2.1, ((z2.2)).2.2.2.2.2.2.2.2.2.2.2.2⟩) (by omega) (by omega) (by omega)) (fun z6 => ?_)
  have z6 : (-1 ≤ (m_ends (m_withdrawNow (k_up (k_up σ 123 (k_u1 (σ 123) 8 (0))) 125 (σ 124)) p).2 ((m_withdrawNow (k_up (k_up σ 123 (k_u1 (σ 123) 8 (0))) 125 (σ 124)) p).1) 1 3).1 ∧ (m_ends (m_withdrawNow (k_up (k_up σ 123 (k_u1 (σ 123) 8 (0))) 125 (σ 124)) p).2 ((m_withdrawNow (k_up (k_up σ 123 (k_u1 (σ 123) 8 (0))) 125 (σ 124)) p).1) 1 3).1 ≤ 1000) ∧ k_MA (m_ends (m_withdrawNow (k_up (k_up σ 123 (k_u1 (σ 123) 8 (0))) 125 (σ 124)) p).2 ((m_withdrawNow (k_up (k_up σ 123 (k_u1 (σ 123) 8 (0))) 125 (σ 124)) p).1) 1 3).2 := z6
  have z7 := z6.1
  obtain ⟨⟨y8_0, y8_0b⟩, ⟨y8_1, y8_1b⟩, ⟨y8_2, y8_2b⟩, ⟨y8_3, y8_3b⟩, -⟩ := id ((z6.2)).2.1
  obtain ⟨⟨f9_0, g9_0⟩, ⟨f9_1, g9_1⟩, ⟨f9_2, g9_2⟩, ⟨f9_3, g9_3⟩, ⟨f9_4, g9_4⟩, ⟨f9_5, g9_5⟩, ⟨f9_6, g9_6⟩, ⟨f9_7, g9_7⟩, ⟨f9_8, g9_8⟩, ⟨f9_9, g9_9⟩, ⟨f9_10, g9_10⟩, ⟨f9_11, g9_11⟩, ⟨f9_12, g9_12⟩, ⟨f9_13, g9_13⟩⟩ := id ((z6.2)).1
  exact k_retiP dX8_withdraw_15 rfl rfl rfl (show (-1 ≤ (m_ends (m_withdrawNow (k_up (k_up σ 123 (k_u1 (σ 123) 8 (0))) 125 (σ 124)) p).2 ((m_withdrawNow (k_up (k_up σ 123 (k_u1 (σ 123) 8 (0))) 125 (σ 124)) p).1) 1 3).1 ∧ (m_ends (m_withdrawNow (k_up (k_up σ 123 (k_u1 (σ 123) 8 (0))) 125 (σ 124)) p).2 ((m_withdrawNow (k_up (k_up σ 123 (k_u1 (σ 123) 8 (0))) 125 (σ 124)) p).1) 1 3).1 ≤ 1000) ∧ k_MA (m_ends (m_withdrawNow (k_up (k_up σ 123 (k_u1 (σ 123) 8 (0))) 125 (σ 124)) p).2 ((m_withdrawNow (k_up (k_up σ 123 (k_u1 (σ 123) 8 (0))) 125 (σ 124)) p).1) 1 3).2 from ⟨by omega, ⟨((z6.2)).1, ((z6.2)).2.1, ((z6.2)).2.2.1, ((z6.2)).2.2.2.1, ((z6.2)).2.2.2.2.1, ((z6.2)).2.2.2.2.2.1, ((z6.2)).2.2.2.2.2.2.1, ((z6.2)).2.2.2.2.2.2.2.1, ((z6.2)).2.2.2.2.2.2.2.2.1, ((z6.2)).2.2.2.2.2.2.2.2.2.1, ((z6.2)).2.2.2.2.2.2.2.2.2.2.1, ((z6.2)).2.2.2.2.2.2.2.2.2.2.2.1, ((z6.2)).2.2.2.2.2.2.2.2.2.2.2.2⟩⟩)
abbrev R_join (t : Int × (Nat → Nat → Int)) : Prop := (-1 ≤ t.1 ∧ t.1 ≤ 1000) ∧ k_MA t.2
def m_join (σ : Nat → Nat → Int) (p : Int) (s : Int) : Int × (Nat → Nat → Int) := ((m_ends (m_joinNow (k_up (k_up σ 123 (k_u1 (σ 123) 8 (0))) 125 (σ 124)) p s).2 ((m_joinNow (k_up (k_up σ 123 (k_u1 (σ 123) 8 (0))) 125 (σ 124)) p s).1) 1 3).1, (m_ends (m_joinNow (k_up (k_up σ 123 (k_u1 (σ 123) 8 (0))) 125 (σ 124)) p s).2 ((m_joinNow (k_up (k_up σ 123 (k_u1 (σ 123) 8 (0))) 125 (σ 124)) p s).1) 1 3).2)
set_option maxRecDepth 100000 in
set_option maxHeartbeats 4000000 in
theorem c8_join (hsh : k_Main sh) (hMA : k_MA σ) {p s : Int} (h_p : -2147483648 ≤ p ∧ p < 2147483648) (h_s : -2147483648 ≤ s ∧ s < 2147483648) : k_C E mX8_join 8 [.ref 123, .int (iI (p)), .int (iI (s))] sh σ 0 0 ((k_pP sh R_join) (m_join σ p s)) := by
  refine k_C_of (ls0 := [(0, .ref 123), (1, .int (iI (p))), (2, .int (iI (s)))]) rfl pnX8 (fun v hv => k_cat1 rfl hv) (Nat.le_of_ble_eq_true rfl) rfl ?_
  obtain ⟨⟨t0, t0b⟩, ⟨t1, t1b⟩, ⟨t2, t2b⟩, ⟨t3, t3b⟩, -⟩ := id hMA.2.1
  obtain ⟨⟨f10_0, g10_0⟩, ⟨f10_1, g10_1⟩, ⟨f10_2, g10_2⟩, ⟨f10_3, g10_3⟩, ⟨f10_4, g10_4⟩, ⟨f10_5, g10_5⟩, ⟨f10_6, g10_6⟩, ⟨f10_7, g10_7⟩, ⟨f10_8, g10_8⟩, ⟨f10_9, g10_9⟩, ⟨f10_10, g10_10⟩, ⟨f10_11, g10_11⟩, ⟨f10_12, g10_12⟩, ⟨f10_13, g10_13⟩⟩ := id hMA.1
  unfold m_join
  refine k_aload_n dX8_join_0 0 rfl rfl (by decide) ?_
  refine k_callVr (st := []) (as := []) dX8_join_1 oX8_begins w_1873 w_1875 w_33 rfl (by omega) rfl (Nat.le_of_ble_eq_true rfl) (by decide) (s_123 hsh) rfl (c8_begins hsh) ?_
  refine k_eqσ (σ' := (k_up (k_up σ 123 (k_u1 (σ 123) 8 (0))) 125 (σ 124))) (((congrArg (fun s => k_up s 125 (σ 124)) (show k_up σ 123 (k_u1 (σ 123) 8 (0)) = (k_up σ 123 (k_u1 (σ 123) 8 (0))) from rfl)).trans (show k_up (k_up σ 123 (k_u1 (σ 123) 8 (0))) 125 (σ 124) = (k_up (k_up σ 123 (k_u1 (σ 123) 8 (0))) 125 (σ 124)) from rfl))).symm ?_
  refine k_aload_n dX8_join_4 0 rfl rfl (by decide) ?_
  refine k_aload_n dX8_join_5 0 rfl rfl (by decide) ?_
  refine k_iload_n dX8_join_6 1 rfl rfl ?_
  refine k_iload_n dX8_join_7 2 rfl rfl ?_
  refine k_callVrP (st := [.ref 123]) (as := [.int (iI (p)), .int (iI (s))]) dX8_join_8 oX8_joinNow w_2148 w_2150 w_70 rfl (by omega) rfl (Nat.le_of_ble_eq_true rfl) (by decide) (s_123 hsh) rfl (c8_joinNow (σ := (k_up (k_up σ 123 (k_u1 (σ 123) 8 (0))) 125 (σ 124))) hsh (show k_MA (k_up (k_up σ 123 (k_u1 (σ 123) 8 (0))) 125 (σ 124)) from ⟨(show k_F0 (k_u1 (σ 123) 8 (0)) from (k_F0_u (hMA).1 (by omega))), (hMA).2.1, (hMA).2.2.1, (hMA).2.2.2.1, (hMA).2.2.2.2.1, (hMA).2.2.2.2.2.1, (hMA).2.2.2.2.2.2.1, (hMA).2.2.2.2.2.2.2.1, (hMA).2.2.2.2.2.2.2.2.1, (hMA).2.2.2.2.2.2.2.2.2.1, (hMA).2.2.2.2.2.2.2.2.2.2.1, (hMA).2.2.2.2.2.2.2.2.2.2.2.1, (hMA).2.2.2.2.2.2.2.2.2.2.2.2⟩) (by omega) (by omega)) (fun z2 => ?_)
  have z2 : (-1 ≤ (m_joinNow (k_up (k_up σ 123 (k_u1 (σ 123) 8 (0))) 125 (σ 124)) p s).1 ∧ (m_joinNow (k_up (k_up σ 123 (k_u1 (σ 123) 8 (0))) 125 (σ 124)) p s).1 ≤ 1000) ∧ k_MA (m_joinNow (k_up (k_up σ 123 (k_u1 (σ 123) 8 (0))) 125 (σ 124)) p s).2 := z2
  have z3 := z2.1
  obtain ⟨⟨y4_0, y4_0b⟩, ⟨y4_1, y4_1b⟩, ⟨y4_2, y4_2b⟩, ⟨y4_3, y4_3b⟩, -⟩ := id ((z2.2)).2.1
  obtain ⟨⟨f5_0, g5_0⟩, ⟨f5_1, g5_1⟩, ⟨f5_2, g5_2⟩, ⟨f5_3, g5_3⟩, ⟨f5_4, g5_4⟩, ⟨f5_5, g5_5⟩, ⟨f5_6, g5_6⟩, ⟨f5_7, g5_7⟩, ⟨f5_8, g5_8⟩, ⟨f5_9, g5_9⟩, ⟨f5_10, g5_10⟩, ⟨f5_11, g5_11⟩, ⟨f5_12, g5_12⟩, ⟨f5_13, g5_13⟩⟩ := id ((z2.2)).1
  refine k_iconst (v := 1) dX8_join_11 rfl ?_
  refine k_iconst (v := 3) dX8_join_12 rfl ?_
  refine k_callVrP (st := []) (as := [.int (iI ((m_joinNow (k_up (k_up σ 123 (k_u1 (σ 123) 8 (0))) 125 (σ 124)) p s).1)), .int (iI (1)), .int (iI (3))]) dX8_join_13 oX8_ends w_1888 w_1890 w_36 rfl (by omega) rfl (Nat.le_of_ble_eq_true rfl) (by decide) (s_123 hsh) rfl (c8_ends (σ := (m_joinNow (k_up (k_up σ 123 (k_u1 (σ 123) 8 (0))) 125 (σ 124)) p s).2) hsh (show k_MA (m_joinNow (k_up (k_up σ 123 (k_u1 (σ 123) 8 (0))) 125 (σ 124)) p s).2 from ⟨((z2.2)).1, ((z2.2)).2.1, ((z2.2)).2.2.1, ((z2.2)).2.2.2.1, ((z2.2)).2.2.2.2.1, ((z2.2)).2.2.2.2.2.1, ((z2.2)).2.2.2.2.2.2.1, ((z2.2)).2.2.2.2.2.2.2.1, ((z2.2)).2.2.2.2.2.2.2.2.1, ((z2.2)).2.2.2.2.2.2.2.2.2.1, ((z2.2)).2.2.2.2.2.2.2.2.2.2.1, ((z2.2)).2.2.2.2.2.2.2.2.2.2.2.1, ((z2.2)).2.2.2.2.2.2.2.2.2.2.2.2⟩) (by omega) (by omega) (by omega)) (fun z6 => ?_)
  have z6 : (-1 ≤ (m_ends (m_joinNow (k_up (k_up σ 123 (k_u1 (σ 123) 8 (0))) 125 (σ 124)) p s).2 ((m_joinNow (k_up (k_up σ 123 (k_u1 (σ 123) 8 (0))) 125 (σ 124)) p s).1) 1 3).1 ∧ (m_ends (m_joinNow (k_up (k_up σ 123 (k_u1 (σ 123) 8 (0))) 125 (σ 124)) p s).2 ((m_joinNow (k_up (k_up σ 123 (k_u1 (σ 123) 8 (0))) 125 (σ 124)) p s).1) 1 3).1 ≤ 1000) ∧ k_MA (m_ends (m_joinNow (k_up (k_up σ 123 (k_u1 (σ 123) 8 (0))) 125 (σ 124)) p s).2 ((m_joinNow (k_up (k_up σ 123 (k_u1 (σ 123) 8 (0))) 125 (σ 124)) p s).1) 1 3).2 := z6
  have z7 := z6.1
  obtain ⟨⟨y8_0, y8_0b⟩, ⟨y8_1, y8_1b⟩, ⟨y8_2, y8_2b⟩, ⟨y8_3, y8_3b⟩, -⟩ := id ((z6.2)).2.1
  obtain ⟨⟨f9_0, g9_0⟩, ⟨f9_1, g9_1⟩, ⟨f9_2, g9_2⟩, ⟨f9_3, g9_3⟩, ⟨f9_4, g9_4⟩, ⟨f9_5, g9_5⟩, ⟨f9_6, g9_6⟩, ⟨f9_7, g9_7⟩, ⟨f9_8, g9_8⟩, ⟨f9_9, g9_9⟩, ⟨f9_10, g9_10⟩, ⟨f9_11, g9_11⟩, ⟨f9_12, g9_12⟩, ⟨f9_13, g9_13⟩⟩ := id ((z6.2)).1
  exact k_retiP dX8_join_16 rfl rfl rfl (show (-1 ≤ (m_ends (m_joinNow (k_up (k_up σ 123 (k_u1 (σ 123) 8 (0))) 125 (σ 124)) p s).2 ((m_joinNow (k_up (k_up σ 123 (k_u1 (σ 123) 8 (0))) 125 (σ 124)) p s).1) 1 3).1 ∧ (m_ends (m_joinNow (k_up (k_up σ 123 (k_u1 (σ 123) 8 (0))) 125 (σ 124)) p s).2 ((m_joinNow (k_up (k_up σ 123 (k_u1 (σ 123) 8 (0))) 125 (σ 124)) p s).1) 1 3).1 ≤ 1000) ∧ k_MA (m_ends (m_joinNow (k_up (k_up σ 123 (k_u1 (σ 123) 8 (0))) 125 (σ 124)) p s).2 ((m_joinNow (k_up (k_up σ 123 (k_u1 (σ 123) 8 (0))) 125 (σ 124)) p s).1) 1 3).2 from ⟨by omega, ⟨((z6.2)).1, ((z6.2)).2.1, ((z6.2)).2.2.1, ((z6.2)).2.2.2.1, ((z6.2)).2.2.2.2.1, ((z6.2)).2.2.2.2.2.1, ((z6.2)).2.2.2.2.2.2.1, ((z6.2)).2.2.2.2.2.2.2.1, ((z6.2)).2.2.2.2.2.2.2.2.1, ((z6.2)).2.2.2.2.2.2.2.2.2.1, ((z6.2)).2.2.2.2.2.2.2.2.2.2.1, ((z6.2)).2.2.2.2.2.2.2.2.2.2.2.1, ((z6.2)).2.2.2.2.2.2.2.2.2.2.2.2⟩⟩)
abbrev R_quit (t : Int × (Nat → Nat → Int)) : Prop := (-1 ≤ t.1 ∧ t.1 ≤ 1000) ∧ k_MA t.2
def m_quit (σ : Nat → Nat → Int) (p : Int) (s : Int) : Int × (Nat → Nat → Int) := ((m_ends (m_quitNow (k_up (k_up σ 123 (k_u1 (σ 123) 8 (0))) 125 (σ 124)) p s).2 ((m_quitNow (k_up (k_up σ 123 (k_u1 (σ 123) 8 (0))) 125 (σ 124)) p s).1) 1 3).1, (m_ends (m_quitNow (k_up (k_up σ 123 (k_u1 (σ 123) 8 (0))) 125 (σ 124)) p s).2 ((m_quitNow (k_up (k_up σ 123 (k_u1 (σ 123) 8 (0))) 125 (σ 124)) p s).1) 1 3).2)
set_option maxRecDepth 100000 in
set_option maxHeartbeats 4000000 in
theorem c8_quit (hsh : k_Main sh) (hMA : k_MA σ) {p s : Int} (h_p : -2147483648 ≤ p ∧ p < 2147483648) (h_s : -2147483648 ≤ s ∧ s < 2147483648) : k_C E mX8_quit 6 [.ref 123, .int (iI (p)), .int (iI (s))] sh σ 0 0 ((k_pP sh R_quit) (m_quit σ p s)) := by
  refine k_C_of (ls0 := [(0, .ref 123), (1, .int (iI (p))), (2, .int (iI (s)))]) rfl pnX8 (fun v hv => k_cat1 rfl hv) (Nat.le_of_ble_eq_true rfl) rfl ?_
  obtain ⟨⟨t0, t0b⟩, ⟨t1, t1b⟩, ⟨t2, t2b⟩, ⟨t3, t3b⟩, -⟩ := id hMA.2.1
  obtain ⟨⟨f10_0, g10_0⟩, ⟨f10_1, g10_1⟩, ⟨f10_2, g10_2⟩, ⟨f10_3, g10_3⟩, ⟨f10_4, g10_4⟩, ⟨f10_5, g10_5⟩, ⟨f10_6, g10_6⟩, ⟨f10_7, g10_7⟩, ⟨f10_8, g10_8⟩, ⟨f10_9, g10_9⟩, ⟨f10_10, g10_10⟩, ⟨f10_11, g10_11⟩, ⟨f10_12, g10_12⟩, ⟨f10_13, g10_13⟩⟩ := id hMA.1
  unfold m_quit
  refine k_aload_n dX8_quit_0 0 rfl rfl (by decide) ?_
  refine k_callVr (st := []) (as := []) dX8_quit_1 oX8_begins w_1873 w_1875 w_33 rfl (by omega) rfl (Nat.le_of_ble_eq_true rfl) (by decide) (s_123 hsh) rfl (c8_begins hsh) ?_
  refine k_eqσ (σ' := (k_up (k_up σ 123 (k_u1 (σ 123) 8 (0))) 125 (σ 124))) (((congrArg (fun s => k_up s 125 (σ 124)) (show k_up σ 123 (k_u1 (σ 123) 8 (0)) = (k_up σ 123 (k_u1 (σ 123) 8 (0))) from rfl)).trans (show k_up (k_up σ 123 (k_u1 (σ 123) 8 (0))) 125 (σ 124) = (k_up (k_up σ 123 (k_u1 (σ 123) 8 (0))) 125 (σ 124)) from rfl))).symm ?_
  refine k_aload_n dX8_quit_4 0 rfl rfl (by decide) ?_
  refine k_aload_n dX8_quit_5 0 rfl rfl (by decide) ?_
  refine k_iload_n dX8_quit_6 1 rfl rfl ?_
  refine k_iload_n dX8_quit_7 2 rfl rfl ?_
  refine k_callVrP (st := [.ref 123]) (as := [.int (iI (p)), .int (iI (s))]) dX8_quit_8 oX8_quitNow w_2160 w_2162 w_72 rfl (by omega) rfl (Nat.le_of_ble_eq_true rfl) (by decide) (s_123 hsh) rfl (c8_quitNow (σ := (k_up (k_up σ 123 (k_u1 (σ 123) 8 (0))) 125 (σ 124))) hsh (show k_MA (k_up (k_up σ 123 (k_u1 (σ 123) 8 (0))) 125 (σ 124)) from ⟨(show k_F0 (k_u1 (σ 123) 8 (0)) from (k_F0_u (hMA).1 (by omega))), (hMA).2.1, (hMA).2.2.1, (hMA).2.2.2.1, (hMA).2.2.2.2.1, (hMA).2.2.2.2.2.1, (hMA).2.2.2.2.2.2.1, (hMA).2.2.2.2.2.2.2.1, (hMA).2.2.2.2.2.2.2.2.1, (hMA).2.2.2.2.2.2.2.2.2.1, (hMA).2.2.2.2.2.2.2.2.2.2.1, (hMA).2.2.2.2.2.2.2.2.2.2.2.1, (hMA).2.2.2.2.2.2.2.2.2.2.2.2⟩) (by omega) (by omega)) (fun z2 => ?_)
  have z2 : (-1 ≤ (m_quitNow (k_up (k_up σ 123 (k_u1 (σ 123) 8 (0))) 125 (σ 124)) p s).1 ∧ (m_quitNow (k_up (k_up σ 123 (k_u1 (σ 123) 8 (0))) 125 (σ 124)) p s).1 ≤ 1000) ∧ k_MA (m_quitNow (k_up (k_up σ 123 (k_u1 (σ 123) 8 (0))) 125 (σ 124)) p s).2 := z2
  have z3 := z2.1
  obtain ⟨⟨y4_0, y4_0b⟩, ⟨y4_1, y4_1b⟩, ⟨y4_2, y4_2b⟩, ⟨y4_3, y4_3b⟩, -⟩ := id ((z2.2)).2.1
  obtain ⟨⟨f5_0, g5_0⟩, ⟨f5_1, g5_1⟩, ⟨f5_2, g5_2⟩, ⟨f5_3, g5_3⟩, ⟨f5_4, g5_4⟩, ⟨f5_5, g5_5⟩, ⟨f5_6, g5_6⟩, ⟨f5_7, g5_7⟩, ⟨f5_8, g5_8⟩, ⟨f5_9, g5_9⟩, ⟨f5_10, g5_10⟩, ⟨f5_11, g5_11⟩, ⟨f5_12, g5_12⟩, ⟨f5_13, g5_13⟩⟩ := id ((z2.2)).1
  refine k_iconst (v := 1) dX8_quit_11 rfl ?_
  refine k_iconst (v := 3) dX8_quit_12 rfl ?_
  refine k_callVrP (st := []) (as := [.int (iI ((m_quitNow (k_up (k_up σ 123 (k_u1 (σ 123) 8 (0))) 125 (σ 124)) p s).1)), .int (iI (1)), .int (iI (3))]) dX8_quit_13 oX8_ends w_1888 w_1890 w_36 rfl (by omega) rfl (Nat.le_of_ble_eq_true rfl) (by decide) (s_123 hsh) rfl (c8_ends (σ := (m_quitNow (k_up (k_up σ 123 (k_u1 (σ 123) 8 (0))) 125 (σ 124)) p s).2) hsh (show k_MA (m_quitNow (k_up (k_up σ 123 (k_u1 (σ 123) 8 (0))) 125 (σ 124)) p s).2 from ⟨((z2.2)).1, ((z2.2)).2.1, ((z2.2)).2.2.1, ((z2.2)).2.2.2.1, ((z2.2)).2.2.2.2.1, ((z2.2)).2.2.2.2.2.1, ((z2.2)).2.2.2.2.2.2.1, ((z2.2)).2.2.2.2.2.2.2.1, ((z2.2)).2.2.2.2.2.2.2.2.1, ((z2.2)).2.2.2.2.2.2.2.2.2.1, ((z2.2)).2.2.2.2.2.2.2.2.2.2.1, ((z2.2)).2.2.2.2.2.2.2.2.2.2.2.1, ((z2.2)).2.2.2.2.2.2.2.2.2.2.2.2⟩) (by omega) (by omega) (by omega)) (fun z6 => ?_)
  have z6 : (-1 ≤ (m_ends (m_quitNow (k_up (k_up σ 123 (k_u1 (σ 123) 8 (0))) 125 (σ 124)) p s).2 ((m_quitNow (k_up (k_up σ 123 (k_u1 (σ 123) 8 (0))) 125 (σ 124)) p s).1) 1 3).1 ∧ (m_ends (m_quitNow (k_up (k_up σ 123 (k_u1 (σ 123) 8 (0))) 125 (σ 124)) p s).2 ((m_quitNow (k_up (k_up σ 123 (k_u1 (σ 123) 8 (0))) 125 (σ 124)) p s).1) 1 3).1 ≤ 1000) ∧ k_MA (m_ends (m_quitNow (k_up (k_up σ 123 (k_u1 (σ 123) 8 (0))) 125 (σ 124)) p s).2 ((m_quitNow (k_up (k_up σ 123 (k_u1 (σ 123) 8 (0))) 125 (σ 124)) p s).1) 1 3).2 := z6
  have z7 := z6.1
  obtain ⟨⟨y8_0, y8_0b⟩, ⟨y8_1, y8_1b⟩, ⟨y8_2, y8_2b⟩, ⟨y8_3, y8_3b⟩, -⟩ := id ((z6.2)).2.1
  obtain ⟨⟨f9_0, g9_0⟩, ⟨f9_1, g9_1⟩, ⟨f9_2, g9_2⟩, ⟨f9_3, g9_3⟩, ⟨f9_4, g9_4⟩, ⟨f9_5, g9_5⟩, ⟨f9_6, g9_6⟩, ⟨f9_7, g9_7⟩, ⟨f9_8, g9_8⟩, ⟨f9_9, g9_9⟩, ⟨f9_10, g9_10⟩, ⟨f9_11, g9_11⟩, ⟨f9_12, g9_12⟩, ⟨f9_13, g9_13⟩⟩ := id ((z6.2)).1
  exact k_retiP dX8_quit_16 rfl rfl rfl (show (-1 ≤ (m_ends (m_quitNow (k_up (k_up σ 123 (k_u1 (σ 123) 8 (0))) 125 (σ 124)) p s).2 ((m_quitNow (k_up (k_up σ 123 (k_u1 (σ 123) 8 (0))) 125 (σ 124)) p s).1) 1 3).1 ∧ (m_ends (m_quitNow (k_up (k_up σ 123 (k_u1 (σ 123) 8 (0))) 125 (σ 124)) p s).2 ((m_quitNow (k_up (k_up σ 123 (k_u1 (σ 123) 8 (0))) 125 (σ 124)) p s).1) 1 3).1 ≤ 1000) ∧ k_MA (m_ends (m_quitNow (k_up (k_up σ 123 (k_u1 (σ 123) 8 (0))) 125 (σ 124)) p s).2 ((m_quitNow (k_up (k_up σ 123 (k_u1 (σ 123) 8 (0))) 125 (σ 124)) p s).1) 1 3).2 from ⟨by omega, ⟨((z6.2)).1, ((z6.2)).2.1, ((z6.2)).2.2.1, ((z6.2)).2.2.2.1, ((z6.2)).2.2.2.2.1, ((z6.2)).2.2.2.2.2.1, ((z6.2)).2.2.2.2.2.2.1, ((z6.2)).2.2.2.2.2.2.2.1, ((z6.2)).2.2.2.2.2.2.2.2.1, ((z6.2)).2.2.2.2.2.2.2.2.2.1, ((z6.2)).2.2.2.2.2.2.2.2.2.2.1, ((z6.2)).2.2.2.2.2.2.2.2.2.2.2.1, ((z6.2)).2.2.2.2.2.2.2.2.2.2.2.2⟩⟩)
abbrev R_change (t : Int × (Nat → Nat → Int)) : Prop := (-1 ≤ t.1 ∧ t.1 ≤ 1000) ∧ k_MA t.2
def m_change (σ : Nat → Nat → Int) (p : Int) (a : Int) (b : Int) : Int × (Nat → Nat → Int) := ((m_ends (m_changeNow (k_up (k_up σ 123 (k_u1 (σ 123) 8 (0))) 125 (σ 124)) p a b).2 ((m_changeNow (k_up (k_up σ 123 (k_u1 (σ 123) 8 (0))) 125 (σ 124)) p a b).1) 1 3).1, (m_ends (m_changeNow (k_up (k_up σ 123 (k_u1 (σ 123) 8 (0))) 125 (σ 124)) p a b).2 ((m_changeNow (k_up (k_up σ 123 (k_u1 (σ 123) 8 (0))) 125 (σ 124)) p a b).1) 1 3).2)
set_option maxRecDepth 100000 in
set_option maxHeartbeats 4000000 in
theorem c8_change (hsh : k_Main sh) (hMA : k_MA σ) {p a b : Int} (h_p : -2147483648 ≤ p ∧ p < 2147483648) (h_a : -2147483648 ≤ a ∧ a < 2147483648) (h_b : -2147483648 ≤ b ∧ b < 2147483648) : k_C E mX8_change 8 [.ref 123, .int (iI (p)), .int (iI (a)), .int (iI (b))] sh σ 0 0 ((k_pP sh R_change) (m_change σ p a b)) := by
  refine k_C_of (ls0 := [(0, .ref 123), (1, .int (iI (p))), (2, .int (iI (a))), (3, .int (iI (b)))]) rfl pnX8 (fun v hv => k_cat1 rfl hv) (Nat.le_of_ble_eq_true rfl) rfl ?_
  obtain ⟨⟨t0, t0b⟩, ⟨t1, t1b⟩, ⟨t2, t2b⟩, ⟨t3, t3b⟩, -⟩ := id hMA.2.1
  obtain ⟨⟨f10_0, g10_0⟩, ⟨f10_1, g10_1⟩, ⟨f10_2, g10_2⟩, ⟨f10_3, g10_3⟩, ⟨f10_4, g10_4⟩, ⟨f10_5, g10_5⟩, ⟨f10_6, g10_6⟩, ⟨f10_7, g10_7⟩, ⟨f10_8, g10_8⟩, ⟨f10_9, g10_9⟩, ⟨f10_10, g10_10⟩, ⟨f10_11, g10_11⟩, ⟨f10_12, g10_12⟩, ⟨f10_13, g10_13⟩⟩ := id hMA.1
  unfold m_change
  refine k_aload_n dX8_change_0 0 rfl rfl (by decide) ?_
  refine k_callVr (st := []) (as := []) dX8_change_1 oX8_begins w_1873 w_1875 w_33 rfl (by omega) rfl (Nat.le_of_ble_eq_true rfl) (by decide) (s_123 hsh) rfl (c8_begins hsh) ?_
  refine k_eqσ (σ' := (k_up (k_up σ 123 (k_u1 (σ 123) 8 (0))) 125 (σ 124))) (((congrArg (fun s => k_up s 125 (σ 124)) (show k_up σ 123 (k_u1 (σ 123) 8 (0)) = (k_up σ 123 (k_u1 (σ 123) 8 (0))) from rfl)).trans (show k_up (k_up σ 123 (k_u1 (σ 123) 8 (0))) 125 (σ 124) = (k_up (k_up σ 123 (k_u1 (σ 123) 8 (0))) 125 (σ 124)) from rfl))).symm ?_
  refine k_aload_n dX8_change_4 0 rfl rfl (by decide) ?_
  refine k_aload_n dX8_change_5 0 rfl rfl (by decide) ?_
  refine k_iload_n dX8_change_6 1 rfl rfl ?_
  refine k_iload_n dX8_change_7 2 rfl rfl ?_
  refine k_iload_n dX8_change_8 3 rfl rfl ?_
  refine k_callVrP (st := [.ref 123]) (as := [.int (iI (p)), .int (iI (a)), .int (iI (b))]) dX8_change_9 oX8_changeNow w_2168 w_2170 w_73 rfl (by omega) rfl (Nat.le_of_ble_eq_true rfl) (by decide) (s_123 hsh) rfl (c8_changeNow (σ := (k_up (k_up σ 123 (k_u1 (σ 123) 8 (0))) 125 (σ 124))) hsh (show k_MA (k_up (k_up σ 123 (k_u1 (σ 123) 8 (0))) 125 (σ 124)) from ⟨(show k_F0 (k_u1 (σ 123) 8 (0)) from (k_F0_u (hMA).1 (by omega))), (hMA).2.1, (hMA).2.2.1, (hMA).2.2.2.1, (hMA).2.2.2.2.1, (hMA).2.2.2.2.2.1, (hMA).2.2.2.2.2.2.1, (hMA).2.2.2.2.2.2.2.1, (hMA).2.2.2.2.2.2.2.2.1, (hMA).2.2.2.2.2.2.2.2.2.1, (hMA).2.2.2.2.2.2.2.2.2.2.1, (hMA).2.2.2.2.2.2.2.2.2.2.2.1, (hMA).2.2.2.2.2.2.2.2.2.2.2.2⟩) (by omega) (by omega) (by omega)) (fun z2 => ?_)
  have z2 : (-1 ≤ (m_changeNow (k_up (k_up σ 123 (k_u1 (σ 123) 8 (0))) 125 (σ 124)) p a b).1 ∧ (m_changeNow (k_up (k_up σ 123 (k_u1 (σ 123) 8 (0))) 125 (σ 124)) p a b).1 ≤ 1000) ∧ k_MA (m_changeNow (k_up (k_up σ 123 (k_u1 (σ 123) 8 (0))) 125 (σ 124)) p a b).2 := z2
  have z3 := z2.1
  obtain ⟨⟨y4_0, y4_0b⟩, ⟨y4_1, y4_1b⟩, ⟨y4_2, y4_2b⟩, ⟨y4_3, y4_3b⟩, -⟩ := id ((z2.2)).2.1
  obtain ⟨⟨f5_0, g5_0⟩, ⟨f5_1, g5_1⟩, ⟨f5_2, g5_2⟩, ⟨f5_3, g5_3⟩, ⟨f5_4, g5_4⟩, ⟨f5_5, g5_5⟩, ⟨f5_6, g5_6⟩, ⟨f5_7, g5_7⟩, ⟨f5_8, g5_8⟩, ⟨f5_9, g5_9⟩, ⟨f5_10, g5_10⟩, ⟨f5_11, g5_11⟩, ⟨f5_12, g5_12⟩, ⟨f5_13, g5_13⟩⟩ := id ((z2.2)).1
  refine k_iconst (v := 1) dX8_change_12 rfl ?_
  refine k_iconst (v := 3) dX8_change_13 rfl ?_
  refine k_callVrP (st := []) (as := [.int (iI ((m_changeNow (k_up (k_up σ 123 (k_u1 (σ 123) 8 (0))) 125 (σ 124)) p a b).1)), .int (iI (1)), .int (iI (3))]) dX8_change_14 oX8_ends w_1888 w_1890 w_36 rfl (by omega) rfl (Nat.le_of_ble_eq_true rfl) (by decide) (s_123 hsh) rfl (c8_ends (σ := (m_changeNow (k_up (k_up σ 123 (k_u1 (σ 123) 8 (0))) 125 (σ 124)) p a b).2) hsh (show k_MA (m_changeNow (k_up (k_up σ 123 (k_u1 (σ 123) 8 (0))) 125 (σ 124)) p a b).2 from ⟨((z2.2)).1, ((z2.2)).2.1, ((z2.2)).2.2.1, ((z2.2)).2.2.2.1, ((z2.2)).2.2.2.2.1, ((z2.2)).2.2.2.2.2.1, ((z2.2)).2.2.2.2.2.2.1, ((z2.2)).2.2.2.2.2.2.2.1, ((z2.2)).2.2.2.2.2.2.2.2.1, ((z2.2)).2.2.2.2.2.2.2.2.2.1, ((z2.2)).2.2.2.2.2.2.2.2.2.2.1, ((z2.2)).2.2.2.2.2.2.2.2.2.2.2.1, ((z2.2)).2.2.2.2.2.2.2.2.2.2.2.2⟩) (by omega) (by omega) (by omega)) (fun z6 => ?_)
  have z6 : (-1 ≤ (m_ends (m_changeNow (k_up (k_up σ 123 (k_u1 (σ 123) 8 (0))) 125 (σ 124)) p a b).2 ((m_changeNow (k_up (k_up σ 123 (k_u1 (σ 123) 8 (0))) 125 (σ 124)) p a b).1) 1 3).1 ∧ (m_ends (m_changeNow (k_up (k_up σ 123 (k_u1 (σ 123) 8 (0))) 125 (σ 124)) p a b).2 ((m_changeNow (k_up (k_up σ 123 (k_u1 (σ 123) 8 (0))) 125 (σ 124)) p a b).1) 1 3).1 ≤ 1000) ∧ k_MA (m_ends (m_changeNow (k_up (k_up σ 123 (k_u1 (σ 123) 8 (0))) 125 (σ 124)) p a b).2 ((m_changeNow (k_up (k_up σ 123 (k_u1 (σ 123) 8 (0))) 125 (σ 124)) p a b).1) 1 3).2 := z6
  have z7 := z6.1
  obtain ⟨⟨y8_0, y8_0b⟩, ⟨y8_1, y8_1b⟩, ⟨y8_2, y8_2b⟩, ⟨y8_3, y8_3b⟩, -⟩ := id ((z6.2)).2.1
  obtain ⟨⟨f9_0, g9_0⟩, ⟨f9_1, g9_1⟩, ⟨f9_2, g9_2⟩, ⟨f9_3, g9_3⟩, ⟨f9_4, g9_4⟩, ⟨f9_5, g9_5⟩, ⟨f9_6, g9_6⟩, ⟨f9_7, g9_7⟩, ⟨f9_8, g9_8⟩, ⟨f9_9, g9_9⟩, ⟨f9_10, g9_10⟩, ⟨f9_11, g9_11⟩, ⟨f9_12, g9_12⟩, ⟨f9_13, g9_13⟩⟩ := id ((z6.2)).1
  exact k_retiP dX8_change_17 rfl rfl rfl (show (-1 ≤ (m_ends (m_changeNow (k_up (k_up σ 123 (k_u1 (σ 123) 8 (0))) 125 (σ 124)) p a b).2 ((m_changeNow (k_up (k_up σ 123 (k_u1 (σ 123) 8 (0))) 125 (σ 124)) p a b).1) 1 3).1 ∧ (m_ends (m_changeNow (k_up (k_up σ 123 (k_u1 (σ 123) 8 (0))) 125 (σ 124)) p a b).2 ((m_changeNow (k_up (k_up σ 123 (k_u1 (σ 123) 8 (0))) 125 (σ 124)) p a b).1) 1 3).1 ≤ 1000) ∧ k_MA (m_ends (m_changeNow (k_up (k_up σ 123 (k_u1 (σ 123) 8 (0))) 125 (σ 124)) p a b).2 ((m_changeNow (k_up (k_up σ 123 (k_u1 (σ 123) 8 (0))) 125 (σ 124)) p a b).1) 1 3).2 from ⟨by omega, ⟨((z6.2)).1, ((z6.2)).2.1, ((z6.2)).2.2.1, ((z6.2)).2.2.2.1, ((z6.2)).2.2.2.2.1, ((z6.2)).2.2.2.2.2.1, ((z6.2)).2.2.2.2.2.2.1, ((z6.2)).2.2.2.2.2.2.2.1, ((z6.2)).2.2.2.2.2.2.2.2.1, ((z6.2)).2.2.2.2.2.2.2.2.2.1, ((z6.2)).2.2.2.2.2.2.2.2.2.2.1, ((z6.2)).2.2.2.2.2.2.2.2.2.2.2.1, ((z6.2)).2.2.2.2.2.2.2.2.2.2.2.2⟩⟩)
abbrev R_arrange (t : Int × (Nat → Nat → Int)) : Prop := (-1 ≤ t.1 ∧ t.1 ≤ 1000) ∧ k_MA t.2
def m_arrange (σ : Nat → Nat → Int) : Int × (Nat → Nat → Int) := ((m_ends (m_arrangeNow (k_up (k_up σ 123 (k_u1 (σ 123) 8 (0))) 125 (σ 124))).2 ((m_arrangeNow (k_up (k_up σ 123 (k_u1 (σ 123) 8 (0))) 125 (σ 124))).1) 3 0).1, (m_ends (m_arrangeNow (k_up (k_up σ 123 (k_u1 (σ 123) 8 (0))) 125 (σ 124))).2 ((m_arrangeNow (k_up (k_up σ 123 (k_u1 (σ 123) 8 (0))) 125 (σ 124))).1) 3 0).2)
set_option maxRecDepth 100000 in
set_option maxHeartbeats 4000000 in
theorem c8_arrange (hsh : k_Main sh) (hMA : k_MA σ)  : k_C E mX8_arrange 8 [.ref 123] sh σ 0 0 ((k_pP sh R_arrange) (m_arrange σ)) := by
  refine k_C_of (ls0 := [(0, .ref 123)]) rfl pnX8 (fun v hv => k_cat1 rfl hv) (Nat.le_of_ble_eq_true rfl) rfl ?_
  obtain ⟨⟨t0, t0b⟩, ⟨t1, t1b⟩, ⟨t2, t2b⟩, ⟨t3, t3b⟩, -⟩ := id hMA.2.1
  obtain ⟨⟨f10_0, g10_0⟩, ⟨f10_1, g10_1⟩, ⟨f10_2, g10_2⟩, ⟨f10_3, g10_3⟩, ⟨f10_4, g10_4⟩, ⟨f10_5, g10_5⟩, ⟨f10_6, g10_6⟩, ⟨f10_7, g10_7⟩, ⟨f10_8, g10_8⟩, ⟨f10_9, g10_9⟩, ⟨f10_10, g10_10⟩, ⟨f10_11, g10_11⟩, ⟨f10_12, g10_12⟩, ⟨f10_13, g10_13⟩⟩ := id hMA.1
  unfold m_arrange
  refine k_aload_n dX8_arrange_0 0 rfl rfl (by decide) ?_
  refine k_callVr (st := []) (as := []) dX8_arrange_1 oX8_begins w_1873 w_1875 w_33 rfl (by omega) rfl (Nat.le_of_ble_eq_true rfl) (by decide) (s_123 hsh) rfl (c8_begins hsh) ?_
  refine k_eqσ (σ' := (k_up (k_up σ 123 (k_u1 (σ 123) 8 (0))) 125 (σ 124))) (((congrArg (fun s => k_up s 125 (σ 124)) (show k_up σ 123 (k_u1 (σ 123) 8 (0)) = (k_up σ 123 (k_u1 (σ 123) 8 (0))) from rfl)).trans (show k_up (k_up σ 123 (k_u1 (σ 123) 8 (0))) 125 (σ 124) = (k_up (k_up σ 123 (k_u1 (σ 123) 8 (0))) 125 (σ 124)) from rfl))).symm ?_
  refine k_aload_n dX8_arrange_4 0 rfl rfl (by decide) ?_
  refine k_aload_n dX8_arrange_5 0 rfl rfl (by decide) ?_
  refine k_callVrP (st := [.ref 123]) (as := []) dX8_arrange_6 oX8_arrangeNow w_2228 w_2230 w_78 rfl (by omega) rfl (Nat.le_of_ble_eq_true rfl) (by decide) (s_123 hsh) rfl (c8_arrangeNow (σ := (k_up (k_up σ 123 (k_u1 (σ 123) 8 (0))) 125 (σ 124))) hsh (show k_MA (k_up (k_up σ 123 (k_u1 (σ 123) 8 (0))) 125 (σ 124)) from ⟨(show k_F0 (k_u1 (σ 123) 8 (0)) from (k_F0_u (hMA).1 (by omega))), (hMA).2.1, (hMA).2.2.1, (hMA).2.2.2.1, (hMA).2.2.2.2.1, (hMA).2.2.2.2.2.1, (hMA).2.2.2.2.2.2.1, (hMA).2.2.2.2.2.2.2.1, (hMA).2.2.2.2.2.2.2.2.1, (hMA).2.2.2.2.2.2.2.2.2.1, (hMA).2.2.2.2.2.2.2.2.2.2.1, (hMA).2.2.2.2.2.2.2.2.2.2.2.1, (hMA).2.2.2.2.2.2.2.2.2.2.2.2⟩)) (fun z2 => ?_)
  have z2 : (-1 ≤ (m_arrangeNow (k_up (k_up σ 123 (k_u1 (σ 123) 8 (0))) 125 (σ 124))).1 ∧ (m_arrangeNow (k_up (k_up σ 123 (k_u1 (σ 123) 8 (0))) 125 (σ 124))).1 ≤ 1000) ∧ k_MA (m_arrangeNow (k_up (k_up σ 123 (k_u1 (σ 123) 8 (0))) 125 (σ 124))).2 := z2
  have z3 := z2.1
  obtain ⟨⟨y4_0, y4_0b⟩, ⟨y4_1, y4_1b⟩, ⟨y4_2, y4_2b⟩, ⟨y4_3, y4_3b⟩, -⟩ := id ((z2.2)).2.1
  obtain ⟨⟨f5_0, g5_0⟩, ⟨f5_1, g5_1⟩, ⟨f5_2, g5_2⟩, ⟨f5_3, g5_3⟩, ⟨f5_4, g5_4⟩, ⟨f5_5, g5_5⟩, ⟨f5_6, g5_6⟩, ⟨f5_7, g5_7⟩, ⟨f5_8, g5_8⟩, ⟨f5_9, g5_9⟩, ⟨f5_10, g5_10⟩, ⟨f5_11, g5_11⟩, ⟨f5_12, g5_12⟩, ⟨f5_13, g5_13⟩⟩ := id ((z2.2)).1
  refine k_iconst (v := 3) dX8_arrange_9 rfl ?_
  refine k_iconst (v := 0) dX8_arrange_10 rfl ?_
  refine k_callVrP (st := []) (as := [.int (iI ((m_arrangeNow (k_up (k_up σ 123 (k_u1 (σ 123) 8 (0))) 125 (σ 124))).1)), .int (iI (3)), .int (iI (0))]) dX8_arrange_11 oX8_ends w_1888 w_1890 w_36 rfl (by omega) rfl (Nat.le_of_ble_eq_true rfl) (by decide) (s_123 hsh) rfl (c8_ends (σ := (m_arrangeNow (k_up (k_up σ 123 (k_u1 (σ 123) 8 (0))) 125 (σ 124))).2) hsh (show k_MA (m_arrangeNow (k_up (k_up σ 123 (k_u1 (σ 123) 8 (0))) 125 (σ 124))).2 from ⟨((z2.2)).1, ((z2.2)).2.1, ((z2.2)).2.2.1, ((z2.2)).2.2.2.1, ((z2.2)).2.2.2.2.1, ((z2.2)).2.2.2.2.2.1, ((z2.2)).2.2.2.2.2.2.1, ((z2.2)).2.2.2.2.2.2.2.1, ((z2.2)).2.2.2.2.2.2.2.2.1, ((z2.2)).2.2.2.2.2.2.2.2.2.1, ((z2.2)).2.2.2.2.2.2.2.2.2.2.1, ((z2.2)).2.2.2.2.2.2.2.2.2.2.2.1, ((z2.2)).2.2.2.2.2.2.2.2.2.2.2.2⟩) (by omega) (by omega) (by omega)) (fun z6 => ?_)
  have z6 : (-1 ≤ (m_ends (m_arrangeNow (k_up (k_up σ 123 (k_u1 (σ 123) 8 (0))) 125 (σ 124))).2 ((m_arrangeNow (k_up (k_up σ 123 (k_u1 (σ 123) 8 (0))) 125 (σ 124))).1) 3 0).1 ∧ (m_ends (m_arrangeNow (k_up (k_up σ 123 (k_u1 (σ 123) 8 (0))) 125 (σ 124))).2 ((m_arrangeNow (k_up (k_up σ 123 (k_u1 (σ 123) 8 (0))) 125 (σ 124))).1) 3 0).1 ≤ 1000) ∧ k_MA (m_ends (m_arrangeNow (k_up (k_up σ 123 (k_u1 (σ 123) 8 (0))) 125 (σ 124))).2 ((m_arrangeNow (k_up (k_up σ 123 (k_u1 (σ 123) 8 (0))) 125 (σ 124))).1) 3 0).2 := z6
  have z7 := z6.1
  obtain ⟨⟨y8_0, y8_0b⟩, ⟨y8_1, y8_1b⟩, ⟨y8_2, y8_2b⟩, ⟨y8_3, y8_3b⟩, -⟩ := id ((z6.2)).2.1
  obtain ⟨⟨f9_0, g9_0⟩, ⟨f9_1, g9_1⟩, ⟨f9_2, g9_2⟩, ⟨f9_3, g9_3⟩, ⟨f9_4, g9_4⟩, ⟨f9_5, g9_5⟩, ⟨f9_6, g9_6⟩, ⟨f9_7, g9_7⟩, ⟨f9_8, g9_8⟩, ⟨f9_9, g9_9⟩, ⟨f9_10, g9_10⟩, ⟨f9_11, g9_11⟩, ⟨f9_12, g9_12⟩, ⟨f9_13, g9_13⟩⟩ := id ((z6.2)).1
  exact k_retiP dX8_arrange_14 rfl rfl rfl (show (-1 ≤ (m_ends (m_arrangeNow (k_up (k_up σ 123 (k_u1 (σ 123) 8 (0))) 125 (σ 124))).2 ((m_arrangeNow (k_up (k_up σ 123 (k_u1 (σ 123) 8 (0))) 125 (σ 124))).1) 3 0).1 ∧ (m_ends (m_arrangeNow (k_up (k_up σ 123 (k_u1 (σ 123) 8 (0))) 125 (σ 124))).2 ((m_arrangeNow (k_up (k_up σ 123 (k_u1 (σ 123) 8 (0))) 125 (σ 124))).1) 3 0).1 ≤ 1000) ∧ k_MA (m_ends (m_arrangeNow (k_up (k_up σ 123 (k_u1 (σ 123) 8 (0))) 125 (σ 124))).2 ((m_arrangeNow (k_up (k_up σ 123 (k_u1 (σ 123) 8 (0))) 125 (σ 124))).1) 3 0).2 from ⟨by omega, ⟨((z6.2)).1, ((z6.2)).2.1, ((z6.2)).2.2.1, ((z6.2)).2.2.2.1, ((z6.2)).2.2.2.2.1, ((z6.2)).2.2.2.2.2.1, ((z6.2)).2.2.2.2.2.2.1, ((z6.2)).2.2.2.2.2.2.2.1, ((z6.2)).2.2.2.2.2.2.2.2.1, ((z6.2)).2.2.2.2.2.2.2.2.2.1, ((z6.2)).2.2.2.2.2.2.2.2.2.2.1, ((z6.2)).2.2.2.2.2.2.2.2.2.2.2.1, ((z6.2)).2.2.2.2.2.2.2.2.2.2.2.2⟩⟩)
abbrev R_subjectCount (t : Int × (Nat → Nat → Int)) : Prop := (-1 ≤ t.1 ∧ t.1 ≤ 1000) ∧ k_MA t.2
def m_subjectCount (σ : Nat → Nat → Int) : Int × (Nat → Nat → Int) := ((σ 124) 0, (k_up σ 123 (k_u1 (σ 123) 7 (0))))
set_option maxRecDepth 100000 in
set_option maxHeartbeats 4000000 in
theorem c8_subjectCount (hsh : k_Main sh) (hMA : k_MA σ)  : k_C E mX8_subjectCount 3 [.ref 123] sh σ 0 0 ((k_pP sh R_subjectCount) (m_subjectCount σ)) := by
  refine k_C_of (ls0 := [(0, .ref 123)]) rfl pnX8 (fun v hv => k_cat1 rfl hv) (Nat.le_of_ble_eq_true rfl) rfl ?_
  obtain ⟨⟨t0, t0b⟩, ⟨t1, t1b⟩, ⟨t2, t2b⟩, ⟨t3, t3b⟩, -⟩ := id hMA.2.1
  obtain ⟨⟨f2_0, g2_0⟩, ⟨f2_1, g2_1⟩, ⟨f2_2, g2_2⟩, ⟨f2_3, g2_3⟩, ⟨f2_4, g2_4⟩, ⟨f2_5, g2_5⟩, ⟨f2_6, g2_6⟩, ⟨f2_7, g2_7⟩, ⟨f2_8, g2_8⟩, ⟨f2_9, g2_9⟩, ⟨f2_10, g2_10⟩, ⟨f2_11, g2_11⟩, ⟨f2_12, g2_12⟩, ⟨f2_13, g2_13⟩⟩ := id hMA.1
  unfold m_subjectCount
  refine k_aload_n dX8_subjectCount_0 0 rfl rfl (by decide) ?_
  refine k_aload_n dX8_subjectCount_1 0 rfl rfl (by decide) ?_
  refine k_get (kf := 0) (v := .ref 124) dX8_subjectCount_2 kcX8 w_1747 (by decide) (by decide) (s_123 hsh) rfl rfl ?_
  refine k_iconst (v := 0) dX8_subjectCount_5 rfl ?_
  refine k_iald dX8_subjectCount_6 (by decide) (s_124 hsh) (by omega) (by omega) (by decide) ?_
  refine k_eqst (st' := [.int (iI ((σ 124) 0)), .ref 123]) rfl ?_
  refine k_callVr (st := []) (as := [.int (iI ((σ 124) 0))]) dX8_subjectCount_7 oX8_tells w_1854 w_1856 w_32 rfl (by omega) rfl (Nat.le_of_ble_eq_true rfl) (by decide) (s_123 hsh) rfl (c8_tells hsh) ?_
  refine k_eqσ (σ' := (k_up σ 123 (k_u1 (σ 123) 7 (0)))) ((show k_up σ 123 (k_u1 (σ 123) 7 (0)) = (k_up σ 123 (k_u1 (σ 123) 7 (0))) from rfl)).symm ?_
  exact k_retiP dX8_subjectCount_10 rfl rfl rfl (show (-1 ≤ (σ 124) 0 ∧ (σ 124) 0 ≤ 1000) ∧ k_MA (k_up σ 123 (k_u1 (σ 123) 7 (0))) from ⟨by omega, ⟨(show k_F0 (k_u1 (σ 123) 7 (0)) from (k_F0_u (hMA).1 (by omega))), (hMA).2.1, (hMA).2.2.1, (hMA).2.2.2.1, (hMA).2.2.2.2.1, (hMA).2.2.2.2.2.1, (hMA).2.2.2.2.2.2.1, (hMA).2.2.2.2.2.2.2.1, (hMA).2.2.2.2.2.2.2.2.1, (hMA).2.2.2.2.2.2.2.2.2.1, (hMA).2.2.2.2.2.2.2.2.2.2.1, (hMA).2.2.2.2.2.2.2.2.2.2.2.1, (hMA).2.2.2.2.2.2.2.2.2.2.2.2⟩⟩)
abbrev R_sizeOf (t : Int × (Nat → Nat → Int)) : Prop := (-1 ≤ t.1 ∧ t.1 ≤ 1000) ∧ k_MA t.2
def m_sizeOf (σ : Nat → Nat → Int) (s : Int) : Int × (Nat → Nat → Int) := if 0 ≤ s ∧ s < (σ 124) 0 then ((σ 124) (10 + s).toNat, (k_up σ 123 (k_u1 (σ 123) 7 (0)))) else (0, (k_up σ 123 (k_u1 (σ 123) 7 (1))))
set_option maxRecDepth 100000 in
set_option maxHeartbeats 4000000 in
theorem c8_sizeOf (hsh : k_Main sh) (hMA : k_MA σ) {s : Int} (h_s : -2147483648 ≤ s ∧ s < 2147483648) : k_C E mX8_sizeOf 4 [.ref 123, .int (iI (s))] sh σ 0 0 ((k_pP sh R_sizeOf) (m_sizeOf σ s)) := by
  refine k_C_of (ls0 := [(0, .ref 123), (1, .int (iI (s)))]) rfl pnX8 (fun v hv => k_cat1 rfl hv) (Nat.le_of_ble_eq_true rfl) rfl ?_
  obtain ⟨⟨t0, t0b⟩, ⟨t1, t1b⟩, ⟨t2, t2b⟩, ⟨t3, t3b⟩, -⟩ := id hMA.2.1
  obtain ⟨⟨f6_0, g6_0⟩, ⟨f6_1, g6_1⟩, ⟨f6_2, g6_2⟩, ⟨f6_3, g6_3⟩, ⟨f6_4, g6_4⟩, ⟨f6_5, g6_5⟩, ⟨f6_6, g6_6⟩, ⟨f6_7, g6_7⟩, ⟨f6_8, g6_8⟩, ⟨f6_9, g6_9⟩, ⟨f6_10, g6_10⟩, ⟨f6_11, g6_11⟩, ⟨f6_12, g6_12⟩, ⟨f6_13, g6_13⟩⟩ := id hMA.1
  unfold m_sizeOf
  refine k_aload_n dX8_sizeOf_0 0 rfl rfl (by decide) ?_
  refine k_iload_n dX8_sizeOf_1 1 rfl rfl ?_
  refine k_callVr (st := []) (as := [.int (iI (s))]) dX8_sizeOf_2 oX8_isSubject w_1900 w_1902 w_38 rfl (by omega) rfl (Nat.le_of_ble_eq_true rfl) (by decide) (s_123 hsh) rfl (c8_isSubject (σ := σ) hsh (hMA).2.1 ⟨by omega, by omega⟩) ?_
  refine k_if_eq (tgt := 24) dX8_sizeOf_5 rfl (zb_kr _) (fun h2 => ?_) (fun h2 => ?_)
  · have h2 := zb_0.mp h2
    refine k_iff (F := (k_pP sh R_sizeOf)) h2 ?_
    refine k_aload_n dX8_sizeOf_24 0 rfl rfl (by decide) ?_
    refine k_iconst (v := 1) dX8_sizeOf_25 rfl ?_
    refine k_callVr (st := []) (as := [.int (iI (1))]) dX8_sizeOf_26 oX8_fails w_1850 w_1852 w_31 rfl (by omega) rfl (Nat.le_of_ble_eq_true rfl) (by decide) (s_123 hsh) rfl (c8_fails hsh) ?_
    refine k_eqσ (σ' := (k_up σ 123 (k_u1 (σ 123) 7 (1)))) ((show k_up σ 123 (k_u1 (σ 123) 7 (1)) = (k_up σ 123 (k_u1 (σ 123) 7 (1))) from rfl)).symm ?_
    exact k_retiP dX8_sizeOf_29 rfl rfl rfl (show (-1 ≤ (0 : Int) ∧ (0 : Int) ≤ 1000) ∧ k_MA (k_up σ 123 (k_u1 (σ 123) 7 (1))) from ⟨by omega, ⟨(show k_F0 (k_u1 (σ 123) 7 (1)) from (k_F0_u (hMA).1 (by omega))), (hMA).2.1, (hMA).2.2.1, (hMA).2.2.2.1, (hMA).2.2.2.2.1, (hMA).2.2.2.2.2.1, (hMA).2.2.2.2.2.2.1, (hMA).2.2.2.2.2.2.2.1, (hMA).2.2.2.2.2.2.2.2.1, (hMA).2.2.2.2.2.2.2.2.2.1, (hMA).2.2.2.2.2.2.2.2.2.2.1, (hMA).2.2.2.2.2.2.2.2.2.2.2.1, (hMA).2.2.2.2.2.2.2.2.2.2.2.2⟩⟩)
  · have h2 := zb_n0.mp h2
    refine k_ift (F := (k_pP sh R_sizeOf)) h2 ?_
    refine k_aload_n dX8_sizeOf_8 0 rfl rfl (by decide) ?_
    refine k_aload_n dX8_sizeOf_9 0 rfl rfl (by decide) ?_
    refine k_get (kf := 0) (v := .ref 124) dX8_sizeOf_10 kcX8 w_1747 (by decide) (by decide) (s_123 hsh) rfl rfl ?_
    refine k_bipush (v := 10) dX8_sizeOf_13 (by decide) ?_
    refine k_iload_n dX8_sizeOf_15 1 rfl rfl ?_
    refine k_iadd dX8_sizeOf_16 ?_
    refine k_iald dX8_sizeOf_17 (by decide) (s_124 hsh) (by omega) (by omega) (by decide) ?_
    have q4 := k_Mo_siz (hMA).2.1 (x := 10 + s) (by omega) (by omega)
    refine k_callVr (st := []) (as := [.int (iI ((σ 124) (10 + s).toNat))]) dX8_sizeOf_18 oX8_tells w_1854 w_1856 w_32 rfl (by omega) rfl (Nat.le_of_ble_eq_true rfl) (by decide) (s_123 hsh) rfl (c8_tells hsh) ?_
    refine k_eqσ (σ' := (k_up σ 123 (k_u1 (σ 123) 7 (0)))) ((show k_up σ 123 (k_u1 (σ 123) 7 (0)) = (k_up σ 123 (k_u1 (σ 123) 7 (0))) from rfl)).symm ?_
    refine k_goto (tgt := 29) dX8_sizeOf_21 rfl ?_
    exact k_retiP dX8_sizeOf_29 rfl rfl rfl (show (-1 ≤ (σ 124) (10 + s).toNat ∧ (σ 124) (10 + s).toNat ≤ 1000) ∧ k_MA (k_up σ 123 (k_u1 (σ 123) 7 (0))) from ⟨by omega, ⟨(show k_F0 (k_u1 (σ 123) 7 (0)) from (k_F0_u (hMA).1 (by omega))), (hMA).2.1, (hMA).2.2.1, (hMA).2.2.2.1, (hMA).2.2.2.2.1, (hMA).2.2.2.2.2.1, (hMA).2.2.2.2.2.2.1, (hMA).2.2.2.2.2.2.2.1, (hMA).2.2.2.2.2.2.2.2.1, (hMA).2.2.2.2.2.2.2.2.2.1, (hMA).2.2.2.2.2.2.2.2.2.2.1, (hMA).2.2.2.2.2.2.2.2.2.2.2.1, (hMA).2.2.2.2.2.2.2.2.2.2.2.2⟩⟩)
abbrev R_blockCount (t : Int × (Nat → Nat → Int)) : Prop := (-1 ≤ t.1 ∧ t.1 ≤ 1000) ∧ k_MA t.2
def m_blockCount (σ : Nat → Nat → Int) : Int × (Nat → Nat → Int) := ((σ 124) 1, (k_up σ 123 (k_u1 (σ 123) 7 (0))))
set_option maxRecDepth 100000 in
set_option maxHeartbeats 4000000 in
theorem c8_blockCount (hsh : k_Main sh) (hMA : k_MA σ)  : k_C E mX8_blockCount 3 [.ref 123] sh σ 0 0 ((k_pP sh R_blockCount) (m_blockCount σ)) := by
  refine k_C_of (ls0 := [(0, .ref 123)]) rfl pnX8 (fun v hv => k_cat1 rfl hv) (Nat.le_of_ble_eq_true rfl) rfl ?_
  obtain ⟨⟨t0, t0b⟩, ⟨t1, t1b⟩, ⟨t2, t2b⟩, ⟨t3, t3b⟩, -⟩ := id hMA.2.1
  obtain ⟨⟨f2_0, g2_0⟩, ⟨f2_1, g2_1⟩, ⟨f2_2, g2_2⟩, ⟨f2_3, g2_3⟩, ⟨f2_4, g2_4⟩, ⟨f2_5, g2_5⟩, ⟨f2_6, g2_6⟩, ⟨f2_7, g2_7⟩, ⟨f2_8, g2_8⟩, ⟨f2_9, g2_9⟩, ⟨f2_10, g2_10⟩, ⟨f2_11, g2_11⟩, ⟨f2_12, g2_12⟩, ⟨f2_13, g2_13⟩⟩ := id hMA.1
  unfold m_blockCount
  refine k_aload_n dX8_blockCount_0 0 rfl rfl (by decide) ?_
  refine k_aload_n dX8_blockCount_1 0 rfl rfl (by decide) ?_
  refine k_get (kf := 0) (v := .ref 124) dX8_blockCount_2 kcX8 w_1747 (by decide) (by decide) (s_123 hsh) rfl rfl ?_
  refine k_iconst (v := 1) dX8_blockCount_5 rfl ?_
  refine k_iald dX8_blockCount_6 (by decide) (s_124 hsh) (by omega) (by omega) (by decide) ?_
  refine k_eqst (st' := [.int (iI ((σ 124) 1)), .ref 123]) rfl ?_
  refine k_callVr (st := []) (as := [.int (iI ((σ 124) 1))]) dX8_blockCount_7 oX8_tells w_1854 w_1856 w_32 rfl (by omega) rfl (Nat.le_of_ble_eq_true rfl) (by decide) (s_123 hsh) rfl (c8_tells hsh) ?_
  refine k_eqσ (σ' := (k_up σ 123 (k_u1 (σ 123) 7 (0)))) ((show k_up σ 123 (k_u1 (σ 123) 7 (0)) = (k_up σ 123 (k_u1 (σ 123) 7 (0))) from rfl)).symm ?_
  exact k_retiP dX8_blockCount_10 rfl rfl rfl (show (-1 ≤ (σ 124) 1 ∧ (σ 124) 1 ≤ 1000) ∧ k_MA (k_up σ 123 (k_u1 (σ 123) 7 (0))) from ⟨by omega, ⟨(show k_F0 (k_u1 (σ 123) 7 (0)) from (k_F0_u (hMA).1 (by omega))), (hMA).2.1, (hMA).2.2.1, (hMA).2.2.2.1, (hMA).2.2.2.2.1, (hMA).2.2.2.2.2.1, (hMA).2.2.2.2.2.2.1, (hMA).2.2.2.2.2.2.2.1, (hMA).2.2.2.2.2.2.2.2.1, (hMA).2.2.2.2.2.2.2.2.2.1, (hMA).2.2.2.2.2.2.2.2.2.2.1, (hMA).2.2.2.2.2.2.2.2.2.2.2.1, (hMA).2.2.2.2.2.2.2.2.2.2.2.2⟩⟩)
abbrev R_pupilsInClass (t : Int × (Nat → Nat → Int)) : Prop := (-1 ≤ t.1 ∧ t.1 ≤ 1000) ∧ k_MA t.2
def m_pupilsInClass (σ : Nat → Nat → Int) (s : Int) (b : Int) : Int × (Nat → Nat → Int) := if 0 ≤ s ∧ s < (σ 124) 0 then if 0 ≤ b ∧ b < (σ 124) 1 then (m_inClass (σ 124) s b, (k_up σ 123 (k_u1 (σ 123) 7 (0)))) else (0, (k_up σ 123 (k_u1 (σ 123) 7 (1)))) else (0, (k_up σ 123 (k_u1 (σ 123) 7 (1))))
set_option maxRecDepth 100000 in
set_option maxHeartbeats 4000000 in
theorem c8_pupilsInClass (hsh : k_Main sh) (hMA : k_MA σ) {s b : Int} (h_s : -2147483648 ≤ s ∧ s < 2147483648) (h_b : -2147483648 ≤ b ∧ b < 2147483648) : k_C E mX8_pupilsInClass 4 [.ref 123, .int (iI (s)), .int (iI (b))] sh σ 0 0 ((k_pP sh R_pupilsInClass) (m_pupilsInClass σ s b)) := by
  refine k_C_of (ls0 := [(0, .ref 123), (1, .int (iI (s))), (2, .int (iI (b)))]) rfl pnX8 (fun v hv => k_cat1 rfl hv) (Nat.le_of_ble_eq_true rfl) rfl ?_
  obtain ⟨⟨t0, t0b⟩, ⟨t1, t1b⟩, ⟨t2, t2b⟩, ⟨t3, t3b⟩, -⟩ := id hMA.2.1
  obtain ⟨⟨f9_0, g9_0⟩, ⟨f9_1, g9_1⟩, ⟨f9_2, g9_2⟩, ⟨f9_3, g9_3⟩, ⟨f9_4, g9_4⟩, ⟨f9_5, g9_5⟩, ⟨f9_6, g9_6⟩, ⟨f9_7, g9_7⟩, ⟨f9_8, g9_8⟩, ⟨f9_9, g9_9⟩, ⟨f9_10, g9_10⟩, ⟨f9_11, g9_11⟩, ⟨f9_12, g9_12⟩, ⟨f9_13, g9_13⟩⟩ := id hMA.1
  unfold m_pupilsInClass
  refine k_aload_n dX8_pupilsInClass_0 0 rfl rfl (by decide) ?_
  refine k_iload_n dX8_pupilsInClass_1 1 rfl rfl ?_
  refine k_callVr (st := []) (as := [.int (iI (s))]) dX8_pupilsInClass_2 oX8_isSubject w_1900 w_1902 w_38 rfl (by omega) rfl (Nat.le_of_ble_eq_true rfl) (by decide) (s_123 hsh) rfl (c8_isSubject (σ := σ) hsh (hMA).2.1 ⟨by omega, by omega⟩) ?_
  refine k_if_eq (tgt := 29) dX8_pupilsInClass_5 rfl (zb_kr _) (fun h2 => ?_) (fun h2 => ?_)
  · have h2 := zb_0.mp h2
    refine k_iff (F := (k_pP sh R_pupilsInClass)) h2 ?_
    refine k_aload_n dX8_pupilsInClass_29 0 rfl rfl (by decide) ?_
    refine k_iconst (v := 1) dX8_pupilsInClass_30 rfl ?_
    refine k_callVr (st := []) (as := [.int (iI (1))]) dX8_pupilsInClass_31 oX8_fails w_1850 w_1852 w_31 rfl (by omega) rfl (Nat.le_of_ble_eq_true rfl) (by decide) (s_123 hsh) rfl (c8_fails hsh) ?_
    refine k_eqσ (σ' := (k_up σ 123 (k_u1 (σ 123) 7 (1)))) ((show k_up σ 123 (k_u1 (σ 123) 7 (1)) = (k_up σ 123 (k_u1 (σ 123) 7 (1))) from rfl)).symm ?_
    exact k_retiP dX8_pupilsInClass_34 rfl rfl rfl (show (-1 ≤ (0 : Int) ∧ (0 : Int) ≤ 1000) ∧ k_MA (k_up σ 123 (k_u1 (σ 123) 7 (1))) from ⟨by omega, ⟨(show k_F0 (k_u1 (σ 123) 7 (1)) from (k_F0_u (hMA).1 (by omega))), (hMA).2.1, (hMA).2.2.1, (hMA).2.2.2.1, (hMA).2.2.2.2.1, (hMA).2.2.2.2.2.1, (hMA).2.2.2.2.2.2.1, (hMA).2.2.2.2.2.2.2.1, (hMA).2.2.2.2.2.2.2.2.1, (hMA).2.2.2.2.2.2.2.2.2.1, (hMA).2.2.2.2.2.2.2.2.2.2.1, (hMA).2.2.2.2.2.2.2.2.2.2.2.1, (hMA).2.2.2.2.2.2.2.2.2.2.2.2⟩⟩)
  · have h2 := zb_n0.mp h2
    refine k_ift (F := (k_pP sh R_pupilsInClass)) h2 ?_
    refine k_aload_n dX8_pupilsInClass_8 0 rfl rfl (by decide) ?_
    refine k_iload_n dX8_pupilsInClass_9 2 rfl rfl ?_
    refine k_callVr (st := []) (as := [.int (iI (b))]) dX8_pupilsInClass_10 oX8_isBlock w_1944 w_1946 w_44 rfl (by omega) rfl (Nat.le_of_ble_eq_true rfl) (by decide) (s_123 hsh) rfl (c8_isBlock (σ := σ) hsh (hMA).2.1 ⟨by omega, by omega⟩) ?_
    refine k_if_eq (tgt := 29) dX8_pupilsInClass_13 rfl (zb_kr _) (fun h5 => ?_) (fun h5 => ?_)
    · have h5 := zb_0.mp h5
      refine k_iff (F := (k_pP sh R_pupilsInClass)) h5 ?_
      refine k_aload_n dX8_pupilsInClass_29 0 rfl rfl (by decide) ?_
      refine k_iconst (v := 1) dX8_pupilsInClass_30 rfl ?_
      refine k_callVr (st := []) (as := [.int (iI (1))]) dX8_pupilsInClass_31 oX8_fails w_1850 w_1852 w_31 rfl (by omega) rfl (Nat.le_of_ble_eq_true rfl) (by decide) (s_123 hsh) rfl (c8_fails hsh) ?_
      refine k_eqσ (σ' := (k_up σ 123 (k_u1 (σ 123) 7 (1)))) ((show k_up σ 123 (k_u1 (σ 123) 7 (1)) = (k_up σ 123 (k_u1 (σ 123) 7 (1))) from rfl)).symm ?_
      exact k_retiP dX8_pupilsInClass_34 rfl rfl rfl (show (-1 ≤ (0 : Int) ∧ (0 : Int) ≤ 1000) ∧ k_MA (k_up σ 123 (k_u1 (σ 123) 7 (1))) from ⟨by omega, ⟨(show k_F0 (k_u1 (σ 123) 7 (1)) from (k_F0_u (hMA).1 (by omega))), (hMA).2.1, (hMA).2.2.1, (hMA).2.2.2.1, (hMA).2.2.2.2.1, (hMA).2.2.2.2.2.1, (hMA).2.2.2.2.2.2.1, (hMA).2.2.2.2.2.2.2.1, (hMA).2.2.2.2.2.2.2.2.1, (hMA).2.2.2.2.2.2.2.2.2.1, (hMA).2.2.2.2.2.2.2.2.2.2.1, (hMA).2.2.2.2.2.2.2.2.2.2.2.1, (hMA).2.2.2.2.2.2.2.2.2.2.2.2⟩⟩)
    · have h5 := zb_n0.mp h5
      refine k_ift (F := (k_pP sh R_pupilsInClass)) h5 ?_
      refine k_aload_n dX8_pupilsInClass_16 0 rfl rfl (by decide) ?_
      refine k_aload_n dX8_pupilsInClass_17 0 rfl rfl (by decide) ?_
      refine k_iload_n dX8_pupilsInClass_18 1 rfl rfl ?_
      refine k_iload_n dX8_pupilsInClass_19 2 rfl rfl ?_
      refine k_callVrP (st := [.ref 123]) (as := [.int (iI (s)), .int (iI (b))]) dX8_pupilsInClass_20 oX8_inClass w_1904 w_1906 w_39 rfl (by omega) rfl (Nat.le_of_ble_eq_true rfl) (by decide) (s_123 hsh) rfl (c8_inClass hsh (hMA).2.1 (by omega) (by omega)) (fun z7 => ?_)
      have z7 : 0 ≤ m_inClass (σ 124) s b ∧ m_inClass (σ 124) s b ≤ 12 := z7
      refine k_callVr (st := []) (as := [.int (iI (m_inClass (σ 124) s b))]) dX8_pupilsInClass_23 oX8_tells w_1854 w_1856 w_32 rfl (by omega) rfl (Nat.le_of_ble_eq_true rfl) (by decide) (s_123 hsh) rfl (c8_tells hsh) ?_
      refine k_eqσ (σ' := (k_up σ 123 (k_u1 (σ 123) 7 (0)))) ((show k_up σ 123 (k_u1 (σ 123) 7 (0)) = (k_up σ 123 (k_u1 (σ 123) 7 (0))) from rfl)).symm ?_
      refine k_goto (tgt := 34) dX8_pupilsInClass_26 rfl ?_
      exact k_retiP dX8_pupilsInClass_34 rfl rfl rfl (show (-1 ≤ m_inClass (σ 124) s b ∧ m_inClass (σ 124) s b ≤ 1000) ∧ k_MA (k_up σ 123 (k_u1 (σ 123) 7 (0))) from ⟨by omega, ⟨(show k_F0 (k_u1 (σ 123) 7 (0)) from (k_F0_u (hMA).1 (by omega))), (hMA).2.1, (hMA).2.2.1, (hMA).2.2.2.1, (hMA).2.2.2.2.1, (hMA).2.2.2.2.2.1, (hMA).2.2.2.2.2.2.1, (hMA).2.2.2.2.2.2.2.1, (hMA).2.2.2.2.2.2.2.2.1, (hMA).2.2.2.2.2.2.2.2.2.1, (hMA).2.2.2.2.2.2.2.2.2.2.1, (hMA).2.2.2.2.2.2.2.2.2.2.2.1, (hMA).2.2.2.2.2.2.2.2.2.2.2.2⟩⟩)
abbrev R_pupilCount (t : Int × (Nat → Nat → Int)) : Prop := (-1 ≤ t.1 ∧ t.1 ≤ 1000) ∧ k_MA t.2
def m_pupilCount (σ : Nat → Nat → Int) : Int × (Nat → Nat → Int) := ((σ 124) 2, (k_up σ 123 (k_u1 (σ 123) 7 (0))))
set_option maxRecDepth 100000 in
set_option maxHeartbeats 4000000 in
theorem c8_pupilCount (hsh : k_Main sh) (hMA : k_MA σ)  : k_C E mX8_pupilCount 3 [.ref 123] sh σ 0 0 ((k_pP sh R_pupilCount) (m_pupilCount σ)) := by
  refine k_C_of (ls0 := [(0, .ref 123)]) rfl pnX8 (fun v hv => k_cat1 rfl hv) (Nat.le_of_ble_eq_true rfl) rfl ?_
  obtain ⟨⟨t0, t0b⟩, ⟨t1, t1b⟩, ⟨t2, t2b⟩, ⟨t3, t3b⟩, -⟩ := id hMA.2.1
  obtain ⟨⟨f2_0, g2_0⟩, ⟨f2_1, g2_1⟩, ⟨f2_2, g2_2⟩, ⟨f2_3, g2_3⟩, ⟨f2_4, g2_4⟩, ⟨f2_5, g2_5⟩, ⟨f2_6, g2_6⟩, ⟨f2_7, g2_7⟩, ⟨f2_8, g2_8⟩, ⟨f2_9, g2_9⟩, ⟨f2_10, g2_10⟩, ⟨f2_11, g2_11⟩, ⟨f2_12, g2_12⟩, ⟨f2_13, g2_13⟩⟩ := id hMA.1
  unfold m_pupilCount
  refine k_aload_n dX8_pupilCount_0 0 rfl rfl (by decide) ?_
  refine k_aload_n dX8_pupilCount_1 0 rfl rfl (by decide) ?_
  refine k_get (kf := 0) (v := .ref 124) dX8_pupilCount_2 kcX8 w_1747 (by decide) (by decide) (s_123 hsh) rfl rfl ?_
  refine k_iconst (v := 2) dX8_pupilCount_5 rfl ?_
  refine k_iald dX8_pupilCount_6 (by decide) (s_124 hsh) (by omega) (by omega) (by decide) ?_
  refine k_eqst (st' := [.int (iI ((σ 124) 2)), .ref 123]) rfl ?_
  refine k_callVr (st := []) (as := [.int (iI ((σ 124) 2))]) dX8_pupilCount_7 oX8_tells w_1854 w_1856 w_32 rfl (by omega) rfl (Nat.le_of_ble_eq_true rfl) (by decide) (s_123 hsh) rfl (c8_tells hsh) ?_
  refine k_eqσ (σ' := (k_up σ 123 (k_u1 (σ 123) 7 (0)))) ((show k_up σ 123 (k_u1 (σ 123) 7 (0)) = (k_up σ 123 (k_u1 (σ 123) 7 (0))) from rfl)).symm ?_
  exact k_retiP dX8_pupilCount_10 rfl rfl rfl (show (-1 ≤ (σ 124) 2 ∧ (σ 124) 2 ≤ 1000) ∧ k_MA (k_up σ 123 (k_u1 (σ 123) 7 (0))) from ⟨by omega, ⟨(show k_F0 (k_u1 (σ 123) 7 (0)) from (k_F0_u (hMA).1 (by omega))), (hMA).2.1, (hMA).2.2.1, (hMA).2.2.2.1, (hMA).2.2.2.2.1, (hMA).2.2.2.2.2.1, (hMA).2.2.2.2.2.2.1, (hMA).2.2.2.2.2.2.2.1, (hMA).2.2.2.2.2.2.2.2.1, (hMA).2.2.2.2.2.2.2.2.2.1, (hMA).2.2.2.2.2.2.2.2.2.2.1, (hMA).2.2.2.2.2.2.2.2.2.2.2.1, (hMA).2.2.2.2.2.2.2.2.2.2.2.2⟩⟩)
abbrev R_wishCount (t : Int × (Nat → Nat → Int)) : Prop := (-1 ≤ t.1 ∧ t.1 ≤ 1000) ∧ k_MA t.2
def m_wishCount (σ : Nat → Nat → Int) (p : Int) : Int × (Nat → Nat → Int) := if 0 ≤ p ∧ p < (σ 124) 2 then ((σ 124) (45 + p).toNat, (k_up σ 123 (k_u1 (σ 123) 7 (0)))) else (0, (k_up σ 123 (k_u1 (σ 123) 7 (1))))
set_option maxRecDepth 100000 in
set_option maxHeartbeats 4000000 in
theorem c8_wishCount (hsh : k_Main sh) (hMA : k_MA σ) {p : Int} (h_p : -2147483648 ≤ p ∧ p < 2147483648) : k_C E mX8_wishCount 4 [.ref 123, .int (iI (p))] sh σ 0 0 ((k_pP sh R_wishCount) (m_wishCount σ p)) := by
  refine k_C_of (ls0 := [(0, .ref 123), (1, .int (iI (p)))]) rfl pnX8 (fun v hv => k_cat1 rfl hv) (Nat.le_of_ble_eq_true rfl) rfl ?_
  obtain ⟨⟨t0, t0b⟩, ⟨t1, t1b⟩, ⟨t2, t2b⟩, ⟨t3, t3b⟩, -⟩ := id hMA.2.1
  obtain ⟨⟨f6_0, g6_0⟩, ⟨f6_1, g6_1⟩, ⟨f6_2, g6_2⟩, ⟨f6_3, g6_3⟩, ⟨f6_4, g6_4⟩, ⟨f6_5, g6_5⟩, ⟨f6_6, g6_6⟩, ⟨f6_7, g6_7⟩, ⟨f6_8, g6_8⟩, ⟨f6_9, g6_9⟩, ⟨f6_10, g6_10⟩, ⟨f6_11, g6_11⟩, ⟨f6_12, g6_12⟩, ⟨f6_13, g6_13⟩⟩ := id hMA.1
  unfold m_wishCount
  refine k_aload_n dX8_wishCount_0 0 rfl rfl (by decide) ?_
  refine k_iload_n dX8_wishCount_1 1 rfl rfl ?_
  refine k_callVr (st := []) (as := [.int (iI (p))]) dX8_wishCount_2 oX8_isPupil w_1992 w_1994 w_49 rfl (by omega) rfl (Nat.le_of_ble_eq_true rfl) (by decide) (s_123 hsh) rfl (c8_isPupil (σ := σ) hsh (hMA).2.1 ⟨by omega, by omega⟩) ?_
  refine k_if_eq (tgt := 24) dX8_wishCount_5 rfl (zb_kr _) (fun h2 => ?_) (fun h2 => ?_)
  · have h2 := zb_0.mp h2
    refine k_iff (F := (k_pP sh R_wishCount)) h2 ?_
    refine k_aload_n dX8_wishCount_24 0 rfl rfl (by decide) ?_
    refine k_iconst (v := 1) dX8_wishCount_25 rfl ?_
    refine k_callVr (st := []) (as := [.int (iI (1))]) dX8_wishCount_26 oX8_fails w_1850 w_1852 w_31 rfl (by omega) rfl (Nat.le_of_ble_eq_true rfl) (by decide) (s_123 hsh) rfl (c8_fails hsh) ?_
    refine k_eqσ (σ' := (k_up σ 123 (k_u1 (σ 123) 7 (1)))) ((show k_up σ 123 (k_u1 (σ 123) 7 (1)) = (k_up σ 123 (k_u1 (σ 123) 7 (1))) from rfl)).symm ?_
    exact k_retiP dX8_wishCount_29 rfl rfl rfl (show (-1 ≤ (0 : Int) ∧ (0 : Int) ≤ 1000) ∧ k_MA (k_up σ 123 (k_u1 (σ 123) 7 (1))) from ⟨by omega, ⟨(show k_F0 (k_u1 (σ 123) 7 (1)) from (k_F0_u (hMA).1 (by omega))), (hMA).2.1, (hMA).2.2.1, (hMA).2.2.2.1, (hMA).2.2.2.2.1, (hMA).2.2.2.2.2.1, (hMA).2.2.2.2.2.2.1, (hMA).2.2.2.2.2.2.2.1, (hMA).2.2.2.2.2.2.2.2.1, (hMA).2.2.2.2.2.2.2.2.2.1, (hMA).2.2.2.2.2.2.2.2.2.2.1, (hMA).2.2.2.2.2.2.2.2.2.2.2.1, (hMA).2.2.2.2.2.2.2.2.2.2.2.2⟩⟩)
  · have h2 := zb_n0.mp h2
    refine k_ift (F := (k_pP sh R_wishCount)) h2 ?_
    refine k_aload_n dX8_wishCount_8 0 rfl rfl (by decide) ?_
    refine k_aload_n dX8_wishCount_9 0 rfl rfl (by decide) ?_
    refine k_get (kf := 0) (v := .ref 124) dX8_wishCount_10 kcX8 w_1747 (by decide) (by decide) (s_123 hsh) rfl rfl ?_
    refine k_bipush (v := 45) dX8_wishCount_13 (by decide) ?_
    refine k_iload_n dX8_wishCount_15 1 rfl rfl ?_
    refine k_iadd dX8_wishCount_16 ?_
    refine k_iald dX8_wishCount_17 (by decide) (s_124 hsh) (by omega) (by omega) (by decide) ?_
    have q4 := k_Mo_many (hMA).2.1 (x := 45 + p) (by omega) (by omega)
    refine k_callVr (st := []) (as := [.int (iI ((σ 124) (45 + p).toNat))]) dX8_wishCount_18 oX8_tells w_1854 w_1856 w_32 rfl (by omega) rfl (Nat.le_of_ble_eq_true rfl) (by decide) (s_123 hsh) rfl (c8_tells hsh) ?_
    refine k_eqσ (σ' := (k_up σ 123 (k_u1 (σ 123) 7 (0)))) ((show k_up σ 123 (k_u1 (σ 123) 7 (0)) = (k_up σ 123 (k_u1 (σ 123) 7 (0))) from rfl)).symm ?_
    refine k_goto (tgt := 29) dX8_wishCount_21 rfl ?_
    exact k_retiP dX8_wishCount_29 rfl rfl rfl (show (-1 ≤ (σ 124) (45 + p).toNat ∧ (σ 124) (45 + p).toNat ≤ 1000) ∧ k_MA (k_up σ 123 (k_u1 (σ 123) 7 (0))) from ⟨by omega, ⟨(show k_F0 (k_u1 (σ 123) 7 (0)) from (k_F0_u (hMA).1 (by omega))), (hMA).2.1, (hMA).2.2.1, (hMA).2.2.2.1, (hMA).2.2.2.2.1, (hMA).2.2.2.2.2.1, (hMA).2.2.2.2.2.2.1, (hMA).2.2.2.2.2.2.2.1, (hMA).2.2.2.2.2.2.2.2.1, (hMA).2.2.2.2.2.2.2.2.2.1, (hMA).2.2.2.2.2.2.2.2.2.2.1, (hMA).2.2.2.2.2.2.2.2.2.2.2.1, (hMA).2.2.2.2.2.2.2.2.2.2.2.2⟩⟩)
abbrev R_wishAt (t : Int × (Nat → Nat → Int)) : Prop := (-1 ≤ t.1 ∧ t.1 ≤ 1000) ∧ k_MA t.2
def m_wishAt (σ : Nat → Nat → Int) (p : Int) (rk : Int) : Int × (Nat → Nat → Int) := if 0 ≤ p ∧ p < (σ 124) 2 then if 0 ≤ rk ∧ rk ≤ (((σ 124) (45 + p).toNat) - 1) then ((σ 124) (57 + 3 * p + rk).toNat, (k_up σ 123 (k_u1 (σ 123) 7 (0)))) else (0, (k_up σ 123 (k_u1 (σ 123) 7 (2)))) else (0, (k_up σ 123 (k_u1 (σ 123) 7 (1))))
set_option maxRecDepth 100000 in
set_option maxHeartbeats 4000000 in
theorem c8_wishAt (hsh : k_Main sh) (hMA : k_MA σ) {p rk : Int} (h_p : -2147483648 ≤ p ∧ p < 2147483648) (h_rk : -2147483648 ≤ rk ∧ rk < 2147483648) : k_C E mX8_wishAt 4 [.ref 123, .int (iI (p)), .int (iI (rk))] sh σ 0 0 ((k_pP sh R_wishAt) (m_wishAt σ p rk)) := by
  refine k_C_of (ls0 := [(0, .ref 123), (1, .int (iI (p))), (2, .int (iI (rk)))]) rfl pnX8 (fun v hv => k_cat1 rfl hv) (Nat.le_of_ble_eq_true rfl) rfl ?_
  obtain ⟨⟨t0, t0b⟩, ⟨t1, t1b⟩, ⟨t2, t2b⟩, ⟨t3, t3b⟩, -⟩ := id hMA.2.1
  obtain ⟨⟨f11_0, g11_0⟩, ⟨f11_1, g11_1⟩, ⟨f11_2, g11_2⟩, ⟨f11_3, g11_3⟩, ⟨f11_4, g11_4⟩, ⟨f11_5, g11_5⟩, ⟨f11_6, g11_6⟩, ⟨f11_7, g11_7⟩, ⟨f11_8, g11_8⟩, ⟨f11_9, g11_9⟩, ⟨f11_10, g11_10⟩, ⟨f11_11, g11_11⟩, ⟨f11_12, g11_12⟩, ⟨f11_13, g11_13⟩⟩ := id hMA.1
  unfold m_wishAt
  refine k_aload_n dX8_wishAt_0 0 rfl rfl (by decide) ?_
  refine k_iload_n dX8_wishAt_1 1 rfl rfl ?_
  refine k_callVr (st := []) (as := [.int (iI (p))]) dX8_wishAt_2 oX8_isPupil w_1992 w_1994 w_49 rfl (by omega) rfl (Nat.le_of_ble_eq_true rfl) (by decide) (s_123 hsh) rfl (c8_isPupil (σ := σ) hsh (hMA).2.1 ⟨by omega, by omega⟩) ?_
  refine k_if_ne (tgt := 14) dX8_wishAt_5 rfl (zb_kr _) (fun h2 => ?_) (fun h2 => ?_)
  · have h2 := zb_n0.mp h2
    refine k_ift (F := (k_pP sh R_wishAt)) h2 ?_
    refine k_iload_n dX8_wishAt_14 2 rfl rfl ?_
    refine k_iconst (v := 0) dX8_wishAt_15 rfl ?_
    refine k_aload_n dX8_wishAt_16 0 rfl rfl (by decide) ?_
    refine k_get (kf := 0) (v := .ref 124) dX8_wishAt_17 kcX8 w_1747 (by decide) (by decide) (s_123 hsh) rfl rfl ?_
    refine k_bipush (v := 45) dX8_wishAt_20 (by decide) ?_
    refine k_iload_n dX8_wishAt_22 1 rfl rfl ?_
    refine k_iadd dX8_wishAt_23 ?_
    refine k_iald dX8_wishAt_24 (by decide) (s_124 hsh) (by omega) (by omega) (by decide) ?_
    have q3 := k_Mo_many (hMA).2.1 (x := 45 + p) (by omega) (by omega)
    refine k_iconst (v := 1) dX8_wishAt_25 rfl ?_
    refine k_isub dX8_wishAt_26 ?_
    refine k_callSr (st := []) (as := [.int (iI (rk)), .int (iI (0)), .int (iI (((σ 124) (45 + p).toNat) - 1))]) dX8_wishAt_27 oX8_in w_1881 w_1882 rfl (by omega) rfl (Nat.le_of_ble_eq_true rfl) (c8_in ⟨by omega, by omega⟩ ⟨by omega, by omega⟩ ⟨by omega, by omega⟩) ?_
    refine k_if_eq (tgt := 46) dX8_wishAt_30 rfl (zb_kr _) (fun h5 => ?_) (fun h5 => ?_)
    · have h5 := zb_0.mp h5
      refine k_iff (F := (k_pP sh R_wishAt)) h5 ?_
      refine k_aload_n dX8_wishAt_46 0 rfl rfl (by decide) ?_
      refine k_iconst (v := 2) dX8_wishAt_47 rfl ?_
      refine k_callVr (st := []) (as := [.int (iI (2))]) dX8_wishAt_48 oX8_fails w_1850 w_1852 w_31 rfl (by omega) rfl (Nat.le_of_ble_eq_true rfl) (by decide) (s_123 hsh) rfl (c8_fails hsh) ?_
      refine k_eqσ (σ' := (k_up σ 123 (k_u1 (σ 123) 7 (2)))) ((show k_up σ 123 (k_u1 (σ 123) 7 (2)) = (k_up σ 123 (k_u1 (σ 123) 7 (2))) from rfl)).symm ?_
      exact k_retiP dX8_wishAt_51 rfl rfl rfl (show (-1 ≤ (0 : Int) ∧ (0 : Int) ≤ 1000) ∧ k_MA (k_up σ 123 (k_u1 (σ 123) 7 (2))) from ⟨by omega, ⟨(show k_F0 (k_u1 (σ 123) 7 (2)) from (k_F0_u (hMA).1 (by omega))), (hMA).2.1, (hMA).2.2.1, (hMA).2.2.2.1, (hMA).2.2.2.2.1, (hMA).2.2.2.2.2.1, (hMA).2.2.2.2.2.2.1, (hMA).2.2.2.2.2.2.2.1, (hMA).2.2.2.2.2.2.2.2.1, (hMA).2.2.2.2.2.2.2.2.2.1, (hMA).2.2.2.2.2.2.2.2.2.2.1, (hMA).2.2.2.2.2.2.2.2.2.2.2.1, (hMA).2.2.2.2.2.2.2.2.2.2.2.2⟩⟩)
    · have h5 := zb_n0.mp h5
      refine k_ift (F := (k_pP sh R_wishAt)) h5 ?_
      refine k_aload_n dX8_wishAt_33 0 rfl rfl (by decide) ?_
      refine k_aload_n dX8_wishAt_34 0 rfl rfl (by decide) ?_
      refine k_iload_n dX8_wishAt_35 1 rfl rfl ?_
      refine k_iload_n dX8_wishAt_36 2 rfl rfl ?_
      refine k_callVr (st := [.ref 123]) (as := [.int (iI (p)), .int (iI (rk))]) dX8_wishAt_37 oX8_wish w_2000 w_2002 w_51 rfl (by omega) rfl (Nat.le_of_ble_eq_true rfl) (by decide) (s_123 hsh) rfl (c8_wish (σ := σ) hsh (hMA).2.1 (by omega) (by omega)) ?_
      have q7 := k_Mo_wish (hMA).2.1 (x := 57 + 3 * p + rk) (by omega) (by omega)
      refine k_callVr (st := []) (as := [.int (iI ((σ 124) (57 + 3 * p + rk).toNat))]) dX8_wishAt_40 oX8_tells w_1854 w_1856 w_32 rfl (by omega) rfl (Nat.le_of_ble_eq_true rfl) (by decide) (s_123 hsh) rfl (c8_tells hsh) ?_
      refine k_eqσ (σ' := (k_up σ 123 (k_u1 (σ 123) 7 (0)))) ((show k_up σ 123 (k_u1 (σ 123) 7 (0)) = (k_up σ 123 (k_u1 (σ 123) 7 (0))) from rfl)).symm ?_
      refine k_goto (tgt := 51) dX8_wishAt_43 rfl ?_
      exact k_retiP dX8_wishAt_51 rfl rfl rfl (show (-1 ≤ (σ 124) (57 + 3 * p + rk).toNat ∧ (σ 124) (57 + 3 * p + rk).toNat ≤ 1000) ∧ k_MA (k_up σ 123 (k_u1 (σ 123) 7 (0))) from ⟨by omega, ⟨(show k_F0 (k_u1 (σ 123) 7 (0)) from (k_F0_u (hMA).1 (by omega))), (hMA).2.1, (hMA).2.2.1, (hMA).2.2.2.1, (hMA).2.2.2.2.1, (hMA).2.2.2.2.2.1, (hMA).2.2.2.2.2.2.1, (hMA).2.2.2.2.2.2.2.1, (hMA).2.2.2.2.2.2.2.2.1, (hMA).2.2.2.2.2.2.2.2.2.1, (hMA).2.2.2.2.2.2.2.2.2.2.1, (hMA).2.2.2.2.2.2.2.2.2.2.2.1, (hMA).2.2.2.2.2.2.2.2.2.2.2.2⟩⟩)
  · have h2 := zb_0.mp h2
    refine k_iff (F := (k_pP sh R_wishAt)) h2 ?_
    refine k_aload_n dX8_wishAt_8 0 rfl rfl (by decide) ?_
    refine k_iconst (v := 1) dX8_wishAt_9 rfl ?_
    refine k_callVr (st := []) (as := [.int (iI (1))]) dX8_wishAt_10 oX8_fails w_1850 w_1852 w_31 rfl (by omega) rfl (Nat.le_of_ble_eq_true rfl) (by decide) (s_123 hsh) rfl (c8_fails hsh) ?_
    refine k_eqσ (σ' := (k_up σ 123 (k_u1 (σ 123) 7 (1)))) ((show k_up σ 123 (k_u1 (σ 123) 7 (1)) = (k_up σ 123 (k_u1 (σ 123) 7 (1))) from rfl)).symm ?_
    exact k_retiP dX8_wishAt_13 rfl rfl rfl (show (-1 ≤ (0 : Int) ∧ (0 : Int) ≤ 1000) ∧ k_MA (k_up σ 123 (k_u1 (σ 123) 7 (1))) from ⟨by omega, ⟨(show k_F0 (k_u1 (σ 123) 7 (1)) from (k_F0_u (hMA).1 (by omega))), (hMA).2.1, (hMA).2.2.1, (hMA).2.2.2.1, (hMA).2.2.2.2.1, (hMA).2.2.2.2.2.1, (hMA).2.2.2.2.2.2.1, (hMA).2.2.2.2.2.2.2.1, (hMA).2.2.2.2.2.2.2.2.1, (hMA).2.2.2.2.2.2.2.2.2.1, (hMA).2.2.2.2.2.2.2.2.2.2.1, (hMA).2.2.2.2.2.2.2.2.2.2.2.1, (hMA).2.2.2.2.2.2.2.2.2.2.2.2⟩⟩)
abbrev R_reserveOf (t : Int × (Nat → Nat → Int)) : Prop := (-1 ≤ t.1 ∧ t.1 ≤ 1000) ∧ k_MA t.2
def m_reserveOf (σ : Nat → Nat → Int) (p : Int) : Int × (Nat → Nat → Int) := if 0 ≤ p ∧ p < (σ 124) 2 then ((σ 124) (93 + p).toNat, (k_up σ 123 (k_u1 (σ 123) 7 (0)))) else (0, (k_up σ 123 (k_u1 (σ 123) 7 (1))))
set_option maxRecDepth 100000 in
set_option maxHeartbeats 4000000 in
theorem c8_reserveOf (hsh : k_Main sh) (hMA : k_MA σ) {p : Int} (h_p : -2147483648 ≤ p ∧ p < 2147483648) : k_C E mX8_reserveOf 4 [.ref 123, .int (iI (p))] sh σ 0 0 ((k_pP sh R_reserveOf) (m_reserveOf σ p)) := by
  refine k_C_of (ls0 := [(0, .ref 123), (1, .int (iI (p)))]) rfl pnX8 (fun v hv => k_cat1 rfl hv) (Nat.le_of_ble_eq_true rfl) rfl ?_
  obtain ⟨⟨t0, t0b⟩, ⟨t1, t1b⟩, ⟨t2, t2b⟩, ⟨t3, t3b⟩, -⟩ := id hMA.2.1
  obtain ⟨⟨f6_0, g6_0⟩, ⟨f6_1, g6_1⟩, ⟨f6_2, g6_2⟩, ⟨f6_3, g6_3⟩, ⟨f6_4, g6_4⟩, ⟨f6_5, g6_5⟩, ⟨f6_6, g6_6⟩, ⟨f6_7, g6_7⟩, ⟨f6_8, g6_8⟩, ⟨f6_9, g6_9⟩, ⟨f6_10, g6_10⟩, ⟨f6_11, g6_11⟩, ⟨f6_12, g6_12⟩, ⟨f6_13, g6_13⟩⟩ := id hMA.1
  unfold m_reserveOf
  refine k_aload_n dX8_reserveOf_0 0 rfl rfl (by decide) ?_
  refine k_iload_n dX8_reserveOf_1 1 rfl rfl ?_
  refine k_callVr (st := []) (as := [.int (iI (p))]) dX8_reserveOf_2 oX8_isPupil w_1992 w_1994 w_49 rfl (by omega) rfl (Nat.le_of_ble_eq_true rfl) (by decide) (s_123 hsh) rfl (c8_isPupil (σ := σ) hsh (hMA).2.1 ⟨by omega, by omega⟩) ?_
  refine k_if_eq (tgt := 24) dX8_reserveOf_5 rfl (zb_kr _) (fun h2 => ?_) (fun h2 => ?_)
  · have h2 := zb_0.mp h2
    refine k_iff (F := (k_pP sh R_reserveOf)) h2 ?_
    refine k_aload_n dX8_reserveOf_24 0 rfl rfl (by decide) ?_
    refine k_iconst (v := 1) dX8_reserveOf_25 rfl ?_
    refine k_callVr (st := []) (as := [.int (iI (1))]) dX8_reserveOf_26 oX8_fails w_1850 w_1852 w_31 rfl (by omega) rfl (Nat.le_of_ble_eq_true rfl) (by decide) (s_123 hsh) rfl (c8_fails hsh) ?_
    refine k_eqσ (σ' := (k_up σ 123 (k_u1 (σ 123) 7 (1)))) ((show k_up σ 123 (k_u1 (σ 123) 7 (1)) = (k_up σ 123 (k_u1 (σ 123) 7 (1))) from rfl)).symm ?_
    exact k_retiP dX8_reserveOf_29 rfl rfl rfl (show (-1 ≤ (0 : Int) ∧ (0 : Int) ≤ 1000) ∧ k_MA (k_up σ 123 (k_u1 (σ 123) 7 (1))) from ⟨by omega, ⟨(show k_F0 (k_u1 (σ 123) 7 (1)) from (k_F0_u (hMA).1 (by omega))), (hMA).2.1, (hMA).2.2.1, (hMA).2.2.2.1, (hMA).2.2.2.2.1, (hMA).2.2.2.2.2.1, (hMA).2.2.2.2.2.2.1, (hMA).2.2.2.2.2.2.2.1, (hMA).2.2.2.2.2.2.2.2.1, (hMA).2.2.2.2.2.2.2.2.2.1, (hMA).2.2.2.2.2.2.2.2.2.2.1, (hMA).2.2.2.2.2.2.2.2.2.2.2.1, (hMA).2.2.2.2.2.2.2.2.2.2.2.2⟩⟩)
  · have h2 := zb_n0.mp h2
    refine k_ift (F := (k_pP sh R_reserveOf)) h2 ?_
    refine k_aload_n dX8_reserveOf_8 0 rfl rfl (by decide) ?_
    refine k_aload_n dX8_reserveOf_9 0 rfl rfl (by decide) ?_
    refine k_get (kf := 0) (v := .ref 124) dX8_reserveOf_10 kcX8 w_1747 (by decide) (by decide) (s_123 hsh) rfl rfl ?_
    refine k_bipush (v := 93) dX8_reserveOf_13 (by decide) ?_
    refine k_iload_n dX8_reserveOf_15 1 rfl rfl ?_
    refine k_iadd dX8_reserveOf_16 ?_
    refine k_iald dX8_reserveOf_17 (by decide) (s_124 hsh) (by omega) (by omega) (by decide) ?_
    have q4 := k_Mo_res (hMA).2.1 (x := 93 + p) (by omega) (by omega)
    refine k_callVr (st := []) (as := [.int (iI ((σ 124) (93 + p).toNat))]) dX8_reserveOf_18 oX8_tells w_1854 w_1856 w_32 rfl (by omega) rfl (Nat.le_of_ble_eq_true rfl) (by decide) (s_123 hsh) rfl (c8_tells hsh) ?_
    refine k_eqσ (σ' := (k_up σ 123 (k_u1 (σ 123) 7 (0)))) ((show k_up σ 123 (k_u1 (σ 123) 7 (0)) = (k_up σ 123 (k_u1 (σ 123) 7 (0))) from rfl)).symm ?_
    refine k_goto (tgt := 29) dX8_reserveOf_21 rfl ?_
    exact k_retiP dX8_reserveOf_29 rfl rfl rfl (show (-1 ≤ (σ 124) (93 + p).toNat ∧ (σ 124) (93 + p).toNat ≤ 1000) ∧ k_MA (k_up σ 123 (k_u1 (σ 123) 7 (0))) from ⟨by omega, ⟨(show k_F0 (k_u1 (σ 123) 7 (0)) from (k_F0_u (hMA).1 (by omega))), (hMA).2.1, (hMA).2.2.1, (hMA).2.2.2.1, (hMA).2.2.2.2.1, (hMA).2.2.2.2.2.1, (hMA).2.2.2.2.2.2.1, (hMA).2.2.2.2.2.2.2.1, (hMA).2.2.2.2.2.2.2.2.1, (hMA).2.2.2.2.2.2.2.2.2.1, (hMA).2.2.2.2.2.2.2.2.2.2.1, (hMA).2.2.2.2.2.2.2.2.2.2.2.1, (hMA).2.2.2.2.2.2.2.2.2.2.2.2⟩⟩)
abbrev R_subjectIn (t : Int × (Nat → Nat → Int)) : Prop := (-1 ≤ t.1 ∧ t.1 ≤ 1000) ∧ k_MA t.2
def m_subjectIn (σ : Nat → Nat → Int) (p : Int) (b : Int) : Int × (Nat → Nat → Int) := if 0 ≤ p ∧ p < (σ 124) 2 then if 0 ≤ b ∧ b < (σ 124) 1 then ((σ 124) (105 + 4 * p + b).toNat, (k_up σ 123 (k_u1 (σ 123) 7 (0)))) else (0, (k_up σ 123 (k_u1 (σ 123) 7 (1)))) else (0, (k_up σ 123 (k_u1 (σ 123) 7 (1))))
set_option maxRecDepth 100000 in
set_option maxHeartbeats 4000000 in
theorem c8_subjectIn (hsh : k_Main sh) (hMA : k_MA σ) {p b : Int} (h_p : -2147483648 ≤ p ∧ p < 2147483648) (h_b : -2147483648 ≤ b ∧ b < 2147483648) : k_C E mX8_subjectIn 4 [.ref 123, .int (iI (p)), .int (iI (b))] sh σ 0 0 ((k_pP sh R_subjectIn) (m_subjectIn σ p b)) := by
  refine k_C_of (ls0 := [(0, .ref 123), (1, .int (iI (p))), (2, .int (iI (b)))]) rfl pnX8 (fun v hv => k_cat1 rfl hv) (Nat.le_of_ble_eq_true rfl) rfl ?_
  obtain ⟨⟨t0, t0b⟩, ⟨t1, t1b⟩, ⟨t2, t2b⟩, ⟨t3, t3b⟩, -⟩ := id hMA.2.1
  obtain ⟨⟨f10_0, g10_0⟩, ⟨f10_1, g10_1⟩, ⟨f10_2, g10_2⟩, ⟨f10_3, g10_3⟩, ⟨f10_4, g10_4⟩, ⟨f10_5, g10_5⟩, ⟨f10_6, g10_6⟩, ⟨f10_7, g10_7⟩, ⟨f10_8, g10_8⟩, ⟨f10_9, g10_9⟩, ⟨f10_10, g10_10⟩, ⟨f10_11, g10_11⟩, ⟨f10_12, g10_12⟩, ⟨f10_13, g10_13⟩⟩ := id hMA.1
  unfold m_subjectIn
  refine k_aload_n dX8_subjectIn_0 0 rfl rfl (by decide) ?_
  refine k_iload_n dX8_subjectIn_1 1 rfl rfl ?_
  refine k_callVr (st := []) (as := [.int (iI (p))]) dX8_subjectIn_2 oX8_isPupil w_1992 w_1994 w_49 rfl (by omega) rfl (Nat.le_of_ble_eq_true rfl) (by decide) (s_123 hsh) rfl (c8_isPupil (σ := σ) hsh (hMA).2.1 ⟨by omega, by omega⟩) ?_
  refine k_if_eq (tgt := 29) dX8_subjectIn_5 rfl (zb_kr _) (fun h2 => ?_) (fun h2 => ?_)
  · have h2 := zb_0.mp h2
    refine k_iff (F := (k_pP sh R_subjectIn)) h2 ?_
    refine k_aload_n dX8_subjectIn_29 0 rfl rfl (by decide) ?_
    refine k_iconst (v := 1) dX8_subjectIn_30 rfl ?_
    refine k_callVr (st := []) (as := [.int (iI (1))]) dX8_subjectIn_31 oX8_fails w_1850 w_1852 w_31 rfl (by omega) rfl (Nat.le_of_ble_eq_true rfl) (by decide) (s_123 hsh) rfl (c8_fails hsh) ?_
    refine k_eqσ (σ' := (k_up σ 123 (k_u1 (σ 123) 7 (1)))) ((show k_up σ 123 (k_u1 (σ 123) 7 (1)) = (k_up σ 123 (k_u1 (σ 123) 7 (1))) from rfl)).symm ?_
    exact k_retiP dX8_subjectIn_34 rfl rfl rfl (show (-1 ≤ (0 : Int) ∧ (0 : Int) ≤ 1000) ∧ k_MA (k_up σ 123 (k_u1 (σ 123) 7 (1))) from ⟨by omega, ⟨(show k_F0 (k_u1 (σ 123) 7 (1)) from (k_F0_u (hMA).1 (by omega))), (hMA).2.1, (hMA).2.2.1, (hMA).2.2.2.1, (hMA).2.2.2.2.1, (hMA).2.2.2.2.2.1, (hMA).2.2.2.2.2.2.1, (hMA).2.2.2.2.2.2.2.1, (hMA).2.2.2.2.2.2.2.2.1, (hMA).2.2.2.2.2.2.2.2.2.1, (hMA).2.2.2.2.2.2.2.2.2.2.1, (hMA).2.2.2.2.2.2.2.2.2.2.2.1, (hMA).2.2.2.2.2.2.2.2.2.2.2.2⟩⟩)
  · have h2 := zb_n0.mp h2
    refine k_ift (F := (k_pP sh R_subjectIn)) h2 ?_
    refine k_aload_n dX8_subjectIn_8 0 rfl rfl (by decide) ?_
    refine k_iload_n dX8_subjectIn_9 2 rfl rfl ?_
    refine k_callVr (st := []) (as := [.int (iI (b))]) dX8_subjectIn_10 oX8_isBlock w_1944 w_1946 w_44 rfl (by omega) rfl (Nat.le_of_ble_eq_true rfl) (by decide) (s_123 hsh) rfl (c8_isBlock (σ := σ) hsh (hMA).2.1 ⟨by omega, by omega⟩) ?_
    refine k_if_eq (tgt := 29) dX8_subjectIn_13 rfl (zb_kr _) (fun h5 => ?_) (fun h5 => ?_)
    · have h5 := zb_0.mp h5
      refine k_iff (F := (k_pP sh R_subjectIn)) h5 ?_
      refine k_aload_n dX8_subjectIn_29 0 rfl rfl (by decide) ?_
      refine k_iconst (v := 1) dX8_subjectIn_30 rfl ?_
      refine k_callVr (st := []) (as := [.int (iI (1))]) dX8_subjectIn_31 oX8_fails w_1850 w_1852 w_31 rfl (by omega) rfl (Nat.le_of_ble_eq_true rfl) (by decide) (s_123 hsh) rfl (c8_fails hsh) ?_
      refine k_eqσ (σ' := (k_up σ 123 (k_u1 (σ 123) 7 (1)))) ((show k_up σ 123 (k_u1 (σ 123) 7 (1)) = (k_up σ 123 (k_u1 (σ 123) 7 (1))) from rfl)).symm ?_
      exact k_retiP dX8_subjectIn_34 rfl rfl rfl (show (-1 ≤ (0 : Int) ∧ (0 : Int) ≤ 1000) ∧ k_MA (k_up σ 123 (k_u1 (σ 123) 7 (1))) from ⟨by omega, ⟨(show k_F0 (k_u1 (σ 123) 7 (1)) from (k_F0_u (hMA).1 (by omega))), (hMA).2.1, (hMA).2.2.1, (hMA).2.2.2.1, (hMA).2.2.2.2.1, (hMA).2.2.2.2.2.1, (hMA).2.2.2.2.2.2.1, (hMA).2.2.2.2.2.2.2.1, (hMA).2.2.2.2.2.2.2.2.1, (hMA).2.2.2.2.2.2.2.2.2.1, (hMA).2.2.2.2.2.2.2.2.2.2.1, (hMA).2.2.2.2.2.2.2.2.2.2.2.1, (hMA).2.2.2.2.2.2.2.2.2.2.2.2⟩⟩)
    · have h5 := zb_n0.mp h5
      refine k_ift (F := (k_pP sh R_subjectIn)) h5 ?_
      refine k_aload_n dX8_subjectIn_16 0 rfl rfl (by decide) ?_
      refine k_aload_n dX8_subjectIn_17 0 rfl rfl (by decide) ?_
      refine k_iload_n dX8_subjectIn_18 1 rfl rfl ?_
      refine k_iload_n dX8_subjectIn_19 2 rfl rfl ?_
      refine k_callVr (st := [.ref 123]) (as := [.int (iI (p)), .int (iI (b))]) dX8_subjectIn_20 oX8_subjectOf w_1908 w_1910 w_40 rfl (by omega) rfl (Nat.le_of_ble_eq_true rfl) (by decide) (s_123 hsh) rfl (c8_subjectOf (σ := σ) hsh (hMA).2.1 (by omega) (by omega)) ?_
      have q7 := k_Mo_tab (hMA).2.1 (x := 105 + 4 * p + b) (by omega) (by omega)
      refine k_callVr (st := []) (as := [.int (iI ((σ 124) (105 + 4 * p + b).toNat))]) dX8_subjectIn_23 oX8_tells w_1854 w_1856 w_32 rfl (by omega) rfl (Nat.le_of_ble_eq_true rfl) (by decide) (s_123 hsh) rfl (c8_tells hsh) ?_
      refine k_eqσ (σ' := (k_up σ 123 (k_u1 (σ 123) 7 (0)))) ((show k_up σ 123 (k_u1 (σ 123) 7 (0)) = (k_up σ 123 (k_u1 (σ 123) 7 (0))) from rfl)).symm ?_
      refine k_goto (tgt := 34) dX8_subjectIn_26 rfl ?_
      exact k_retiP dX8_subjectIn_34 rfl rfl rfl (show (-1 ≤ (σ 124) (105 + 4 * p + b).toNat ∧ (σ 124) (105 + 4 * p + b).toNat ≤ 1000) ∧ k_MA (k_up σ 123 (k_u1 (σ 123) 7 (0))) from ⟨by omega, ⟨(show k_F0 (k_u1 (σ 123) 7 (0)) from (k_F0_u (hMA).1 (by omega))), (hMA).2.1, (hMA).2.2.1, (hMA).2.2.2.1, (hMA).2.2.2.2.1, (hMA).2.2.2.2.2.1, (hMA).2.2.2.2.2.2.1, (hMA).2.2.2.2.2.2.2.1, (hMA).2.2.2.2.2.2.2.2.1, (hMA).2.2.2.2.2.2.2.2.2.1, (hMA).2.2.2.2.2.2.2.2.2.2.1, (hMA).2.2.2.2.2.2.2.2.2.2.2.1, (hMA).2.2.2.2.2.2.2.2.2.2.2.2⟩⟩)
abbrev R_blockOf (t : Int × (Nat → Nat → Int)) : Prop := (-1 ≤ t.1 ∧ t.1 ≤ 1000) ∧ k_MA t.2
def m_blockOf (σ : Nat → Nat → Int) (p : Int) (s : Int) : Int × (Nat → Nat → Int) := if 0 ≤ p ∧ p < (σ 124) 2 then if 0 ≤ s ∧ s < (σ 124) 0 then (m_blockOfSubject (σ 124) p s, (k_up σ 123 (k_u1 (σ 123) 7 (0)))) else (0, (k_up σ 123 (k_u1 (σ 123) 7 (1)))) else (0, (k_up σ 123 (k_u1 (σ 123) 7 (1))))
set_option maxRecDepth 100000 in
set_option maxHeartbeats 4000000 in
theorem c8_blockOf (hsh : k_Main sh) (hMA : k_MA σ) {p s : Int} (h_p : -2147483648 ≤ p ∧ p < 2147483648) (h_s : -2147483648 ≤ s ∧ s < 2147483648) : k_C E mX8_blockOf 4 [.ref 123, .int (iI (p)), .int (iI (s))] sh σ 0 0 ((k_pP sh R_blockOf) (m_blockOf σ p s)) := by
  refine k_C_of (ls0 := [(0, .ref 123), (1, .int (iI (p))), (2, .int (iI (s)))]) rfl pnX8 (fun v hv => k_cat1 rfl hv) (Nat.le_of_ble_eq_true rfl) rfl ?_
  obtain ⟨⟨t0, t0b⟩, ⟨t1, t1b⟩, ⟨t2, t2b⟩, ⟨t3, t3b⟩, -⟩ := id hMA.2.1
  obtain ⟨⟨f9_0, g9_0⟩, ⟨f9_1, g9_1⟩, ⟨f9_2, g9_2⟩, ⟨f9_3, g9_3⟩, ⟨f9_4, g9_4⟩, ⟨f9_5, g9_5⟩, ⟨f9_6, g9_6⟩, ⟨f9_7, g9_7⟩, ⟨f9_8, g9_8⟩, ⟨f9_9, g9_9⟩, ⟨f9_10, g9_10⟩, ⟨f9_11, g9_11⟩, ⟨f9_12, g9_12⟩, ⟨f9_13, g9_13⟩⟩ := id hMA.1
  unfold m_blockOf
  refine k_aload_n dX8_blockOf_0 0 rfl rfl (by decide) ?_
  refine k_iload_n dX8_blockOf_1 1 rfl rfl ?_
  refine k_callVr (st := []) (as := [.int (iI (p))]) dX8_blockOf_2 oX8_isPupil w_1992 w_1994 w_49 rfl (by omega) rfl (Nat.le_of_ble_eq_true rfl) (by decide) (s_123 hsh) rfl (c8_isPupil (σ := σ) hsh (hMA).2.1 ⟨by omega, by omega⟩) ?_
  refine k_if_eq (tgt := 29) dX8_blockOf_5 rfl (zb_kr _) (fun h2 => ?_) (fun h2 => ?_)
  · have h2 := zb_0.mp h2
    refine k_iff (F := (k_pP sh R_blockOf)) h2 ?_
    refine k_aload_n dX8_blockOf_29 0 rfl rfl (by decide) ?_
    refine k_iconst (v := 1) dX8_blockOf_30 rfl ?_
    refine k_callVr (st := []) (as := [.int (iI (1))]) dX8_blockOf_31 oX8_fails w_1850 w_1852 w_31 rfl (by omega) rfl (Nat.le_of_ble_eq_true rfl) (by decide) (s_123 hsh) rfl (c8_fails hsh) ?_
    refine k_eqσ (σ' := (k_up σ 123 (k_u1 (σ 123) 7 (1)))) ((show k_up σ 123 (k_u1 (σ 123) 7 (1)) = (k_up σ 123 (k_u1 (σ 123) 7 (1))) from rfl)).symm ?_
    exact k_retiP dX8_blockOf_34 rfl rfl rfl (show (-1 ≤ (0 : Int) ∧ (0 : Int) ≤ 1000) ∧ k_MA (k_up σ 123 (k_u1 (σ 123) 7 (1))) from ⟨by omega, ⟨(show k_F0 (k_u1 (σ 123) 7 (1)) from (k_F0_u (hMA).1 (by omega))), (hMA).2.1, (hMA).2.2.1, (hMA).2.2.2.1, (hMA).2.2.2.2.1, (hMA).2.2.2.2.2.1, (hMA).2.2.2.2.2.2.1, (hMA).2.2.2.2.2.2.2.1, (hMA).2.2.2.2.2.2.2.2.1, (hMA).2.2.2.2.2.2.2.2.2.1, (hMA).2.2.2.2.2.2.2.2.2.2.1, (hMA).2.2.2.2.2.2.2.2.2.2.2.1, (hMA).2.2.2.2.2.2.2.2.2.2.2.2⟩⟩)
  · have h2 := zb_n0.mp h2
    refine k_ift (F := (k_pP sh R_blockOf)) h2 ?_
    refine k_aload_n dX8_blockOf_8 0 rfl rfl (by decide) ?_
    refine k_iload_n dX8_blockOf_9 2 rfl rfl ?_
    refine k_callVr (st := []) (as := [.int (iI (s))]) dX8_blockOf_10 oX8_isSubject w_1900 w_1902 w_38 rfl (by omega) rfl (Nat.le_of_ble_eq_true rfl) (by decide) (s_123 hsh) rfl (c8_isSubject (σ := σ) hsh (hMA).2.1 ⟨by omega, by omega⟩) ?_
    refine k_if_eq (tgt := 29) dX8_blockOf_13 rfl (zb_kr _) (fun h5 => ?_) (fun h5 => ?_)
    · have h5 := zb_0.mp h5
      refine k_iff (F := (k_pP sh R_blockOf)) h5 ?_
      refine k_aload_n dX8_blockOf_29 0 rfl rfl (by decide) ?_
      refine k_iconst (v := 1) dX8_blockOf_30 rfl ?_
      refine k_callVr (st := []) (as := [.int (iI (1))]) dX8_blockOf_31 oX8_fails w_1850 w_1852 w_31 rfl (by omega) rfl (Nat.le_of_ble_eq_true rfl) (by decide) (s_123 hsh) rfl (c8_fails hsh) ?_
      refine k_eqσ (σ' := (k_up σ 123 (k_u1 (σ 123) 7 (1)))) ((show k_up σ 123 (k_u1 (σ 123) 7 (1)) = (k_up σ 123 (k_u1 (σ 123) 7 (1))) from rfl)).symm ?_
      exact k_retiP dX8_blockOf_34 rfl rfl rfl (show (-1 ≤ (0 : Int) ∧ (0 : Int) ≤ 1000) ∧ k_MA (k_up σ 123 (k_u1 (σ 123) 7 (1))) from ⟨by omega, ⟨(show k_F0 (k_u1 (σ 123) 7 (1)) from (k_F0_u (hMA).1 (by omega))), (hMA).2.1, (hMA).2.2.1, (hMA).2.2.2.1, (hMA).2.2.2.2.1, (hMA).2.2.2.2.2.1, (hMA).2.2.2.2.2.2.1, (hMA).2.2.2.2.2.2.2.1, (hMA).2.2.2.2.2.2.2.2.1, (hMA).2.2.2.2.2.2.2.2.2.1, (hMA).2.2.2.2.2.2.2.2.2.2.1, (hMA).2.2.2.2.2.2.2.2.2.2.2.1, (hMA).2.2.2.2.2.2.2.2.2.2.2.2⟩⟩)
    · have h5 := zb_n0.mp h5
      refine k_ift (F := (k_pP sh R_blockOf)) h5 ?_
      refine k_aload_n dX8_blockOf_16 0 rfl rfl (by decide) ?_
      refine k_aload_n dX8_blockOf_17 0 rfl rfl (by decide) ?_
      refine k_iload_n dX8_blockOf_18 1 rfl rfl ?_
      refine k_iload_n dX8_blockOf_19 2 rfl rfl ?_
      refine k_callVrP (st := [.ref 123]) (as := [.int (iI (p)), .int (iI (s))]) dX8_blockOf_20 oX8_blockOfSubject w_2032 w_2034 w_53 rfl (by omega) rfl (Nat.le_of_ble_eq_true rfl) (by decide) (s_123 hsh) rfl (c8_blockOfSubject hsh (hMA).2.1 (by omega) (by omega)) (fun z7 => ?_)
      have z7 : -1 ≤ m_blockOfSubject (σ 124) p s ∧ m_blockOfSubject (σ 124) p s ≤ 3 := z7
      refine k_callVr (st := []) (as := [.int (iI (m_blockOfSubject (σ 124) p s))]) dX8_blockOf_23 oX8_tells w_1854 w_1856 w_32 rfl (by omega) rfl (Nat.le_of_ble_eq_true rfl) (by decide) (s_123 hsh) rfl (c8_tells hsh) ?_
      refine k_eqσ (σ' := (k_up σ 123 (k_u1 (σ 123) 7 (0)))) ((show k_up σ 123 (k_u1 (σ 123) 7 (0)) = (k_up σ 123 (k_u1 (σ 123) 7 (0))) from rfl)).symm ?_
      refine k_goto (tgt := 34) dX8_blockOf_26 rfl ?_
      exact k_retiP dX8_blockOf_34 rfl rfl rfl (show (-1 ≤ m_blockOfSubject (σ 124) p s ∧ m_blockOfSubject (σ 124) p s ≤ 1000) ∧ k_MA (k_up σ 123 (k_u1 (σ 123) 7 (0))) from ⟨by omega, ⟨(show k_F0 (k_u1 (σ 123) 7 (0)) from (k_F0_u (hMA).1 (by omega))), (hMA).2.1, (hMA).2.2.1, (hMA).2.2.2.1, (hMA).2.2.2.2.1, (hMA).2.2.2.2.2.1, (hMA).2.2.2.2.2.2.1, (hMA).2.2.2.2.2.2.2.1, (hMA).2.2.2.2.2.2.2.2.1, (hMA).2.2.2.2.2.2.2.2.2.1, (hMA).2.2.2.2.2.2.2.2.2.2.1, (hMA).2.2.2.2.2.2.2.2.2.2.2.1, (hMA).2.2.2.2.2.2.2.2.2.2.2.2⟩⟩)
abbrev R_refusalReason (t : Int × (Nat → Nat → Int)) : Prop := (-1 ≤ t.1 ∧ t.1 ≤ 1000) ∧ k_MA t.2
def m_refusalReason (σ : Nat → Nat → Int) : Int × (Nat → Nat → Int) := if ((σ 123) 9) = 0 then (0, (k_up σ 123 (k_u1 (σ 123) 7 (1)))) else ((σ 123) 9, (k_up σ 123 (k_u1 (σ 123) 7 (0))))
set_option maxRecDepth 100000 in
set_option maxHeartbeats 4000000 in
theorem c8_refusalReason (hsh : k_Main sh) (hMA : k_MA σ)  : k_C E mX8_refusalReason 3 [.ref 123] sh σ 0 0 ((k_pP sh R_refusalReason) (m_refusalReason σ)) := by
  refine k_C_of (ls0 := [(0, .ref 123)]) rfl pnX8 (fun v hv => k_cat1 rfl hv) (Nat.le_of_ble_eq_true rfl) rfl ?_
  obtain ⟨⟨t0, t0b⟩, ⟨t1, t1b⟩, ⟨t2, t2b⟩, ⟨t3, t3b⟩, -⟩ := id hMA.2.1
  obtain ⟨⟨f4_0, g4_0⟩, ⟨f4_1, g4_1⟩, ⟨f4_2, g4_2⟩, ⟨f4_3, g4_3⟩, ⟨f4_4, g4_4⟩, ⟨f4_5, g4_5⟩, ⟨f4_6, g4_6⟩, ⟨f4_7, g4_7⟩, ⟨f4_8, g4_8⟩, ⟨f4_9, g4_9⟩, ⟨f4_10, g4_10⟩, ⟨f4_11, g4_11⟩, ⟨f4_12, g4_12⟩, ⟨f4_13, g4_13⟩⟩ := id hMA.1
  unfold m_refusalReason
  refine k_aload_n dX8_refusalReason_0 0 rfl rfl (by decide) ?_
  refine k_get (kf := 9) (v := .int (iI ((σ 123) 9))) dX8_refusalReason_1 kcX8 w_1756 (by decide) (by decide) (s_123 hsh) rfl rfl ?_
  refine k_if_ne (tgt := 15) dX8_refusalReason_4 rfl ⟨by omega, by omega⟩ (fun h1 => ?_) (fun h1 => ?_)
  · refine k_iff (F := (k_pP sh R_refusalReason)) h1 ?_
    refine k_aload_n dX8_refusalReason_15 0 rfl rfl (by decide) ?_
    refine k_aload_n dX8_refusalReason_16 0 rfl rfl (by decide) ?_
    refine k_get (kf := 9) (v := .int (iI ((σ 123) 9))) dX8_refusalReason_17 kcX8 w_1756 (by decide) (by decide) (s_123 hsh) rfl rfl ?_
    refine k_callVr (st := []) (as := [.int (iI ((σ 123) 9))]) dX8_refusalReason_20 oX8_tells w_1854 w_1856 w_32 rfl (by omega) rfl (Nat.le_of_ble_eq_true rfl) (by decide) (s_123 hsh) rfl (c8_tells hsh) ?_
    refine k_eqσ (σ' := (k_up σ 123 (k_u1 (σ 123) 7 (0)))) ((show k_up σ 123 (k_u1 (σ 123) 7 (0)) = (k_up σ 123 (k_u1 (σ 123) 7 (0))) from rfl)).symm ?_
    exact k_retiP dX8_refusalReason_23 rfl rfl rfl (show (-1 ≤ (σ 123) 9 ∧ (σ 123) 9 ≤ 1000) ∧ k_MA (k_up σ 123 (k_u1 (σ 123) 7 (0))) from ⟨by omega, ⟨(show k_F0 (k_u1 (σ 123) 7 (0)) from (k_F0_u (hMA).1 (by omega))), (hMA).2.1, (hMA).2.2.1, (hMA).2.2.2.1, (hMA).2.2.2.2.1, (hMA).2.2.2.2.2.1, (hMA).2.2.2.2.2.2.1, (hMA).2.2.2.2.2.2.2.1, (hMA).2.2.2.2.2.2.2.2.1, (hMA).2.2.2.2.2.2.2.2.2.1, (hMA).2.2.2.2.2.2.2.2.2.2.1, (hMA).2.2.2.2.2.2.2.2.2.2.2.1, (hMA).2.2.2.2.2.2.2.2.2.2.2.2⟩⟩)
  · refine k_ift (F := (k_pP sh R_refusalReason)) h1 ?_
    refine k_aload_n dX8_refusalReason_7 0 rfl rfl (by decide) ?_
    refine k_iconst (v := 1) dX8_refusalReason_8 rfl ?_
    refine k_callVr (st := []) (as := [.int (iI (1))]) dX8_refusalReason_9 oX8_fails w_1850 w_1852 w_31 rfl (by omega) rfl (Nat.le_of_ble_eq_true rfl) (by decide) (s_123 hsh) rfl (c8_fails hsh) ?_
    refine k_eqσ (σ' := (k_up σ 123 (k_u1 (σ 123) 7 (1)))) ((show k_up σ 123 (k_u1 (σ 123) 7 (1)) = (k_up σ 123 (k_u1 (σ 123) 7 (1))) from rfl)).symm ?_
    refine k_goto (tgt := 23) dX8_refusalReason_12 rfl ?_
    exact k_retiP dX8_refusalReason_23 rfl rfl rfl (show (-1 ≤ (0 : Int) ∧ (0 : Int) ≤ 1000) ∧ k_MA (k_up σ 123 (k_u1 (σ 123) 7 (1))) from ⟨by omega, ⟨(show k_F0 (k_u1 (σ 123) 7 (1)) from (k_F0_u (hMA).1 (by omega))), (hMA).2.1, (hMA).2.2.1, (hMA).2.2.2.1, (hMA).2.2.2.2.1, (hMA).2.2.2.2.2.1, (hMA).2.2.2.2.2.2.1, (hMA).2.2.2.2.2.2.2.1, (hMA).2.2.2.2.2.2.2.2.1, (hMA).2.2.2.2.2.2.2.2.2.1, (hMA).2.2.2.2.2.2.2.2.2.2.1, (hMA).2.2.2.2.2.2.2.2.2.2.2.1, (hMA).2.2.2.2.2.2.2.2.2.2.2.2⟩⟩)
abbrev R_chainMoves (t : Int × (Nat → Nat → Int)) : Prop := (-1 ≤ t.1 ∧ t.1 ≤ 1000) ∧ k_MA t.2
def m_chainMoves (σ : Nat → Nat → Int) : Int × (Nat → Nat → Int) := if ((σ 124) 3) = (-1) then (0, (k_up σ 123 (k_u1 (σ 123) 7 (1)))) else ((σ 124) 3, (k_up σ 123 (k_u1 (σ 123) 7 (0))))
set_option maxRecDepth 100000 in
set_option maxHeartbeats 4000000 in
theorem c8_chainMoves (hsh : k_Main sh) (hMA : k_MA σ)  : k_C E mX8_chainMoves 3 [.ref 123] sh σ 0 0 ((k_pP sh R_chainMoves) (m_chainMoves σ)) := by
  refine k_C_of (ls0 := [(0, .ref 123)]) rfl pnX8 (fun v hv => k_cat1 rfl hv) (Nat.le_of_ble_eq_true rfl) rfl ?_
  obtain ⟨⟨t0, t0b⟩, ⟨t1, t1b⟩, ⟨t2, t2b⟩, ⟨t3, t3b⟩, -⟩ := id hMA.2.1
  obtain ⟨⟨f4_0, g4_0⟩, ⟨f4_1, g4_1⟩, ⟨f4_2, g4_2⟩, ⟨f4_3, g4_3⟩, ⟨f4_4, g4_4⟩, ⟨f4_5, g4_5⟩, ⟨f4_6, g4_6⟩, ⟨f4_7, g4_7⟩, ⟨f4_8, g4_8⟩, ⟨f4_9, g4_9⟩, ⟨f4_10, g4_10⟩, ⟨f4_11, g4_11⟩, ⟨f4_12, g4_12⟩, ⟨f4_13, g4_13⟩⟩ := id hMA.1
  unfold m_chainMoves
  refine k_aload_n dX8_chainMoves_0 0 rfl rfl (by decide) ?_
  refine k_get (kf := 0) (v := .ref 124) dX8_chainMoves_1 kcX8 w_1747 (by decide) (by decide) (s_123 hsh) rfl rfl ?_
  refine k_iconst (v := 3) dX8_chainMoves_4 rfl ?_
  refine k_iald dX8_chainMoves_5 (by decide) (s_124 hsh) (by omega) (by omega) (by decide) ?_
  refine k_eqst (st' := [.int (iI ((σ 124) 3))]) rfl ?_
  refine k_iconst (v := (-1)) dX8_chainMoves_6 rfl ?_
  refine k_icmp_ne (tgt := 18) dX8_chainMoves_7 rfl ⟨by omega, by omega⟩ ⟨by decide, by decide⟩ (fun h1 => ?_) (fun h1 => ?_)
  · refine k_iff (F := (k_pP sh R_chainMoves)) h1 ?_
    refine k_aload_n dX8_chainMoves_18 0 rfl rfl (by decide) ?_
    refine k_aload_n dX8_chainMoves_19 0 rfl rfl (by decide) ?_
    refine k_get (kf := 0) (v := .ref 124) dX8_chainMoves_20 kcX8 w_1747 (by decide) (by decide) (s_123 hsh) rfl rfl ?_
    refine k_iconst (v := 3) dX8_chainMoves_23 rfl ?_
    refine k_iald dX8_chainMoves_24 (by decide) (s_124 hsh) (by omega) (by omega) (by decide) ?_
    refine k_eqst (st' := [.int (iI ((σ 124) 3)), .ref 123]) rfl ?_
    refine k_callVr (st := []) (as := [.int (iI ((σ 124) 3))]) dX8_chainMoves_25 oX8_tells w_1854 w_1856 w_32 rfl (by omega) rfl (Nat.le_of_ble_eq_true rfl) (by decide) (s_123 hsh) rfl (c8_tells hsh) ?_
    refine k_eqσ (σ' := (k_up σ 123 (k_u1 (σ 123) 7 (0)))) ((show k_up σ 123 (k_u1 (σ 123) 7 (0)) = (k_up σ 123 (k_u1 (σ 123) 7 (0))) from rfl)).symm ?_
    exact k_retiP dX8_chainMoves_28 rfl rfl rfl (show (-1 ≤ (σ 124) 3 ∧ (σ 124) 3 ≤ 1000) ∧ k_MA (k_up σ 123 (k_u1 (σ 123) 7 (0))) from ⟨by omega, ⟨(show k_F0 (k_u1 (σ 123) 7 (0)) from (k_F0_u (hMA).1 (by omega))), (hMA).2.1, (hMA).2.2.1, (hMA).2.2.2.1, (hMA).2.2.2.2.1, (hMA).2.2.2.2.2.1, (hMA).2.2.2.2.2.2.1, (hMA).2.2.2.2.2.2.2.1, (hMA).2.2.2.2.2.2.2.2.1, (hMA).2.2.2.2.2.2.2.2.2.1, (hMA).2.2.2.2.2.2.2.2.2.2.1, (hMA).2.2.2.2.2.2.2.2.2.2.2.1, (hMA).2.2.2.2.2.2.2.2.2.2.2.2⟩⟩)
  · refine k_ift (F := (k_pP sh R_chainMoves)) h1 ?_
    refine k_aload_n dX8_chainMoves_10 0 rfl rfl (by decide) ?_
    refine k_iconst (v := 1) dX8_chainMoves_11 rfl ?_
    refine k_callVr (st := []) (as := [.int (iI (1))]) dX8_chainMoves_12 oX8_fails w_1850 w_1852 w_31 rfl (by omega) rfl (Nat.le_of_ble_eq_true rfl) (by decide) (s_123 hsh) rfl (c8_fails hsh) ?_
    refine k_eqσ (σ' := (k_up σ 123 (k_u1 (σ 123) 7 (1)))) ((show k_up σ 123 (k_u1 (σ 123) 7 (1)) = (k_up σ 123 (k_u1 (σ 123) 7 (1))) from rfl)).symm ?_
    refine k_goto (tgt := 28) dX8_chainMoves_15 rfl ?_
    exact k_retiP dX8_chainMoves_28 rfl rfl rfl (show (-1 ≤ (0 : Int) ∧ (0 : Int) ≤ 1000) ∧ k_MA (k_up σ 123 (k_u1 (σ 123) 7 (1))) from ⟨by omega, ⟨(show k_F0 (k_u1 (σ 123) 7 (1)) from (k_F0_u (hMA).1 (by omega))), (hMA).2.1, (hMA).2.2.1, (hMA).2.2.2.1, (hMA).2.2.2.2.1, (hMA).2.2.2.2.2.1, (hMA).2.2.2.2.2.2.1, (hMA).2.2.2.2.2.2.2.1, (hMA).2.2.2.2.2.2.2.2.1, (hMA).2.2.2.2.2.2.2.2.2.1, (hMA).2.2.2.2.2.2.2.2.2.2.1, (hMA).2.2.2.2.2.2.2.2.2.2.2.1, (hMA).2.2.2.2.2.2.2.2.2.2.2.2⟩⟩)
abbrev R_chainPupil (t : Int × (Nat → Nat → Int)) : Prop := (-1 ≤ t.1 ∧ t.1 ≤ 1000) ∧ k_MA t.2
def m_chainPupil (σ : Nat → Nat → Int) (mv : Int) : Int × (Nat → Nat → Int) := if 0 ≤ mv ∧ mv ≤ (((σ 124) 3) - 1) then ((σ 124) (4 + mv).toNat, (k_up σ 123 (k_u1 (σ 123) 7 (0)))) else (0, (k_up σ 123 (k_u1 (σ 123) 7 (1))))
set_option maxRecDepth 100000 in
set_option maxHeartbeats 4000000 in
theorem c8_chainPupil (hsh : k_Main sh) (hMA : k_MA σ) {mv : Int} (h_mv : -2147483648 ≤ mv ∧ mv < 2147483648) : k_C E mX8_chainPupil 3 [.ref 123, .int (iI (mv))] sh σ 0 0 ((k_pP sh R_chainPupil) (m_chainPupil σ mv)) := by
  refine k_C_of (ls0 := [(0, .ref 123), (1, .int (iI (mv)))]) rfl pnX8 (fun v hv => k_cat1 rfl hv) (Nat.le_of_ble_eq_true rfl) rfl ?_
  obtain ⟨⟨t0, t0b⟩, ⟨t1, t1b⟩, ⟨t2, t2b⟩, ⟨t3, t3b⟩, -⟩ := id hMA.2.1
  obtain ⟨⟨f6_0, g6_0⟩, ⟨f6_1, g6_1⟩, ⟨f6_2, g6_2⟩, ⟨f6_3, g6_3⟩, ⟨f6_4, g6_4⟩, ⟨f6_5, g6_5⟩, ⟨f6_6, g6_6⟩, ⟨f6_7, g6_7⟩, ⟨f6_8, g6_8⟩, ⟨f6_9, g6_9⟩, ⟨f6_10, g6_10⟩, ⟨f6_11, g6_11⟩, ⟨f6_12, g6_12⟩, ⟨f6_13, g6_13⟩⟩ := id hMA.1
  unfold m_chainPupil
  refine k_iload_n dX8_chainPupil_0 1 rfl rfl ?_
  refine k_iconst (v := 0) dX8_chainPupil_1 rfl ?_
  refine k_aload_n dX8_chainPupil_2 0 rfl rfl (by decide) ?_
  refine k_get (kf := 0) (v := .ref 124) dX8_chainPupil_3 kcX8 w_1747 (by decide) (by decide) (s_123 hsh) rfl rfl ?_
  refine k_iconst (v := 3) dX8_chainPupil_6 rfl ?_
  refine k_iald dX8_chainPupil_7 (by decide) (s_124 hsh) (by omega) (by omega) (by decide) ?_
  refine k_eqst (st' := [.int (iI ((σ 124) 3)), .int (iI (0)), .int (iI (mv))]) rfl ?_
  refine k_iconst (v := 1) dX8_chainPupil_8 rfl ?_
  refine k_isub dX8_chainPupil_9 ?_
  refine k_callSr (st := []) (as := [.int (iI (mv)), .int (iI (0)), .int (iI (((σ 124) 3) - 1))]) dX8_chainPupil_10 oX8_in w_1881 w_1882 rfl (by omega) rfl (Nat.le_of_ble_eq_true rfl) (c8_in ⟨by omega, by omega⟩ ⟨by omega, by omega⟩ ⟨by omega, by omega⟩) ?_
  refine k_if_eq (tgt := 31) dX8_chainPupil_13 rfl (zb_kr _) (fun h2 => ?_) (fun h2 => ?_)
  · have h2 := zb_0.mp h2
    refine k_iff (F := (k_pP sh R_chainPupil)) h2 ?_
    refine k_aload_n dX8_chainPupil_31 0 rfl rfl (by decide) ?_
    refine k_iconst (v := 1) dX8_chainPupil_32 rfl ?_
    refine k_callVr (st := []) (as := [.int (iI (1))]) dX8_chainPupil_33 oX8_fails w_1850 w_1852 w_31 rfl (by omega) rfl (Nat.le_of_ble_eq_true rfl) (by decide) (s_123 hsh) rfl (c8_fails hsh) ?_
    refine k_eqσ (σ' := (k_up σ 123 (k_u1 (σ 123) 7 (1)))) ((show k_up σ 123 (k_u1 (σ 123) 7 (1)) = (k_up σ 123 (k_u1 (σ 123) 7 (1))) from rfl)).symm ?_
    exact k_retiP dX8_chainPupil_36 rfl rfl rfl (show (-1 ≤ (0 : Int) ∧ (0 : Int) ≤ 1000) ∧ k_MA (k_up σ 123 (k_u1 (σ 123) 7 (1))) from ⟨by omega, ⟨(show k_F0 (k_u1 (σ 123) 7 (1)) from (k_F0_u (hMA).1 (by omega))), (hMA).2.1, (hMA).2.2.1, (hMA).2.2.2.1, (hMA).2.2.2.2.1, (hMA).2.2.2.2.2.1, (hMA).2.2.2.2.2.2.1, (hMA).2.2.2.2.2.2.2.1, (hMA).2.2.2.2.2.2.2.2.1, (hMA).2.2.2.2.2.2.2.2.2.1, (hMA).2.2.2.2.2.2.2.2.2.2.1, (hMA).2.2.2.2.2.2.2.2.2.2.2.1, (hMA).2.2.2.2.2.2.2.2.2.2.2.2⟩⟩)
  · have h2 := zb_n0.mp h2
    refine k_ift (F := (k_pP sh R_chainPupil)) h2 ?_
    refine k_aload_n dX8_chainPupil_16 0 rfl rfl (by decide) ?_
    refine k_aload_n dX8_chainPupil_17 0 rfl rfl (by decide) ?_
    refine k_get (kf := 0) (v := .ref 124) dX8_chainPupil_18 kcX8 w_1747 (by decide) (by decide) (s_123 hsh) rfl rfl ?_
    refine k_iconst (v := 4) dX8_chainPupil_21 rfl ?_
    refine k_iload_n dX8_chainPupil_22 1 rfl rfl ?_
    refine k_iadd dX8_chainPupil_23 ?_
    refine k_iald dX8_chainPupil_24 (by decide) (s_124 hsh) (by omega) (by omega) (by decide) ?_
    have q4 := k_Mo_all (hMA).2.1 (4 + mv).toNat
    refine k_callVr (st := []) (as := [.int (iI ((σ 124) (4 + mv).toNat))]) dX8_chainPupil_25 oX8_tells w_1854 w_1856 w_32 rfl (by omega) rfl (Nat.le_of_ble_eq_true rfl) (by decide) (s_123 hsh) rfl (c8_tells hsh) ?_
    refine k_eqσ (σ' := (k_up σ 123 (k_u1 (σ 123) 7 (0)))) ((show k_up σ 123 (k_u1 (σ 123) 7 (0)) = (k_up σ 123 (k_u1 (σ 123) 7 (0))) from rfl)).symm ?_
    refine k_goto (tgt := 36) dX8_chainPupil_28 rfl ?_
    exact k_retiP dX8_chainPupil_36 rfl rfl rfl (show (-1 ≤ (σ 124) (4 + mv).toNat ∧ (σ 124) (4 + mv).toNat ≤ 1000) ∧ k_MA (k_up σ 123 (k_u1 (σ 123) 7 (0))) from ⟨by omega, ⟨(show k_F0 (k_u1 (σ 123) 7 (0)) from (k_F0_u (hMA).1 (by omega))), (hMA).2.1, (hMA).2.2.1, (hMA).2.2.2.1, (hMA).2.2.2.2.1, (hMA).2.2.2.2.2.1, (hMA).2.2.2.2.2.2.1, (hMA).2.2.2.2.2.2.2.1, (hMA).2.2.2.2.2.2.2.2.1, (hMA).2.2.2.2.2.2.2.2.2.1, (hMA).2.2.2.2.2.2.2.2.2.2.1, (hMA).2.2.2.2.2.2.2.2.2.2.2.1, (hMA).2.2.2.2.2.2.2.2.2.2.2.2⟩⟩)
abbrev R_chainBlock (t : Int × (Nat → Nat → Int)) : Prop := (-1 ≤ t.1 ∧ t.1 ≤ 1000) ∧ k_MA t.2
def m_chainBlock (σ : Nat → Nat → Int) (mv : Int) : Int × (Nat → Nat → Int) := if 0 ≤ mv ∧ mv ≤ (((σ 124) 3) - 1) then ((σ 124) (7 + mv).toNat, (k_up σ 123 (k_u1 (σ 123) 7 (0)))) else (0, (k_up σ 123 (k_u1 (σ 123) 7 (1))))
set_option maxRecDepth 100000 in
set_option maxHeartbeats 4000000 in
theorem c8_chainBlock (hsh : k_Main sh) (hMA : k_MA σ) {mv : Int} (h_mv : -2147483648 ≤ mv ∧ mv < 2147483648) : k_C E mX8_chainBlock 3 [.ref 123, .int (iI (mv))] sh σ 0 0 ((k_pP sh R_chainBlock) (m_chainBlock σ mv)) := by
  refine k_C_of (ls0 := [(0, .ref 123), (1, .int (iI (mv)))]) rfl pnX8 (fun v hv => k_cat1 rfl hv) (Nat.le_of_ble_eq_true rfl) rfl ?_
  obtain ⟨⟨t0, t0b⟩, ⟨t1, t1b⟩, ⟨t2, t2b⟩, ⟨t3, t3b⟩, -⟩ := id hMA.2.1
  obtain ⟨⟨f6_0, g6_0⟩, ⟨f6_1, g6_1⟩, ⟨f6_2, g6_2⟩, ⟨f6_3, g6_3⟩, ⟨f6_4, g6_4⟩, ⟨f6_5, g6_5⟩, ⟨f6_6, g6_6⟩, ⟨f6_7, g6_7⟩, ⟨f6_8, g6_8⟩, ⟨f6_9, g6_9⟩, ⟨f6_10, g6_10⟩, ⟨f6_11, g6_11⟩, ⟨f6_12, g6_12⟩, ⟨f6_13, g6_13⟩⟩ := id hMA.1
  unfold m_chainBlock
  refine k_iload_n dX8_chainBlock_0 1 rfl rfl ?_
  refine k_iconst (v := 0) dX8_chainBlock_1 rfl ?_
  refine k_aload_n dX8_chainBlock_2 0 rfl rfl (by decide) ?_
  refine k_get (kf := 0) (v := .ref 124) dX8_chainBlock_3 kcX8 w_1747 (by decide) (by decide) (s_123 hsh) rfl rfl ?_
  refine k_iconst (v := 3) dX8_chainBlock_6 rfl ?_
  refine k_iald dX8_chainBlock_7 (by decide) (s_124 hsh) (by omega) (by omega) (by decide) ?_
  refine k_eqst (st' := [.int (iI ((σ 124) 3)), .int (iI (0)), .int (iI (mv))]) rfl ?_
  refine k_iconst (v := 1) dX8_chainBlock_8 rfl ?_
  refine k_isub dX8_chainBlock_9 ?_
  refine k_callSr (st := []) (as := [.int (iI (mv)), .int (iI (0)), .int (iI (((σ 124) 3) - 1))]) dX8_chainBlock_10 oX8_in w_1881 w_1882 rfl (by omega) rfl (Nat.le_of_ble_eq_true rfl) (c8_in ⟨by omega, by omega⟩ ⟨by omega, by omega⟩ ⟨by omega, by omega⟩) ?_
  refine k_if_eq (tgt := 32) dX8_chainBlock_13 rfl (zb_kr _) (fun h2 => ?_) (fun h2 => ?_)
  · have h2 := zb_0.mp h2
    refine k_iff (F := (k_pP sh R_chainBlock)) h2 ?_
    refine k_aload_n dX8_chainBlock_32 0 rfl rfl (by decide) ?_
    refine k_iconst (v := 1) dX8_chainBlock_33 rfl ?_
    refine k_callVr (st := []) (as := [.int (iI (1))]) dX8_chainBlock_34 oX8_fails w_1850 w_1852 w_31 rfl (by omega) rfl (Nat.le_of_ble_eq_true rfl) (by decide) (s_123 hsh) rfl (c8_fails hsh) ?_
    refine k_eqσ (σ' := (k_up σ 123 (k_u1 (σ 123) 7 (1)))) ((show k_up σ 123 (k_u1 (σ 123) 7 (1)) = (k_up σ 123 (k_u1 (σ 123) 7 (1))) from rfl)).symm ?_
    exact k_retiP dX8_chainBlock_37 rfl rfl rfl (show (-1 ≤ (0 : Int) ∧ (0 : Int) ≤ 1000) ∧ k_MA (k_up σ 123 (k_u1 (σ 123) 7 (1))) from ⟨by omega, ⟨(show k_F0 (k_u1 (σ 123) 7 (1)) from (k_F0_u (hMA).1 (by omega))), (hMA).2.1, (hMA).2.2.1, (hMA).2.2.2.1, (hMA).2.2.2.2.1, (hMA).2.2.2.2.2.1, (hMA).2.2.2.2.2.2.1, (hMA).2.2.2.2.2.2.2.1, (hMA).2.2.2.2.2.2.2.2.1, (hMA).2.2.2.2.2.2.2.2.2.1, (hMA).2.2.2.2.2.2.2.2.2.2.1, (hMA).2.2.2.2.2.2.2.2.2.2.2.1, (hMA).2.2.2.2.2.2.2.2.2.2.2.2⟩⟩)
  · have h2 := zb_n0.mp h2
    refine k_ift (F := (k_pP sh R_chainBlock)) h2 ?_
    refine k_aload_n dX8_chainBlock_16 0 rfl rfl (by decide) ?_
    refine k_aload_n dX8_chainBlock_17 0 rfl rfl (by decide) ?_
    refine k_get (kf := 0) (v := .ref 124) dX8_chainBlock_18 kcX8 w_1747 (by decide) (by decide) (s_123 hsh) rfl rfl ?_
    refine k_bipush (v := 7) dX8_chainBlock_21 (by decide) ?_
    refine k_iload_n dX8_chainBlock_23 1 rfl rfl ?_
    refine k_iadd dX8_chainBlock_24 ?_
    refine k_iald dX8_chainBlock_25 (by decide) (s_124 hsh) (by omega) (by omega) (by decide) ?_
    have q4 := k_Mo_all (hMA).2.1 (7 + mv).toNat
    refine k_callVr (st := []) (as := [.int (iI ((σ 124) (7 + mv).toNat))]) dX8_chainBlock_26 oX8_tells w_1854 w_1856 w_32 rfl (by omega) rfl (Nat.le_of_ble_eq_true rfl) (by decide) (s_123 hsh) rfl (c8_tells hsh) ?_
    refine k_eqσ (σ' := (k_up σ 123 (k_u1 (σ 123) 7 (0)))) ((show k_up σ 123 (k_u1 (σ 123) 7 (0)) = (k_up σ 123 (k_u1 (σ 123) 7 (0))) from rfl)).symm ?_
    refine k_goto (tgt := 37) dX8_chainBlock_29 rfl ?_
    exact k_retiP dX8_chainBlock_37 rfl rfl rfl (show (-1 ≤ (σ 124) (7 + mv).toNat ∧ (σ 124) (7 + mv).toNat ≤ 1000) ∧ k_MA (k_up σ 123 (k_u1 (σ 123) 7 (0))) from ⟨by omega, ⟨(show k_F0 (k_u1 (σ 123) 7 (0)) from (k_F0_u (hMA).1 (by omega))), (hMA).2.1, (hMA).2.2.1, (hMA).2.2.2.1, (hMA).2.2.2.2.1, (hMA).2.2.2.2.2.1, (hMA).2.2.2.2.2.2.1, (hMA).2.2.2.2.2.2.2.1, (hMA).2.2.2.2.2.2.2.2.1, (hMA).2.2.2.2.2.2.2.2.2.1, (hMA).2.2.2.2.2.2.2.2.2.2.1, (hMA).2.2.2.2.2.2.2.2.2.2.2.1, (hMA).2.2.2.2.2.2.2.2.2.2.2.2⟩⟩)
abbrev R_commonWishes (t : Int × (Nat → Nat → Int)) : Prop := (-1 ≤ t.1 ∧ t.1 ≤ 1000) ∧ k_MA t.2
def m_commonWishes (σ : Nat → Nat → Int) (s : Int) (o : Int) : Int × (Nat → Nat → Int) := if (m_wrongPair (σ 124) s o) = 0 then (m_common (σ 124) s o, (k_up σ 123 (k_u1 (σ 123) 7 (m_wrongPair (σ 124) s o)))) else (0, (k_up σ 123 (k_u1 (σ 123) 7 (m_wrongPair (σ 124) s o))))
set_option maxRecDepth 100000 in
set_option maxHeartbeats 4000000 in
theorem c8_commonWishes (hsh : k_Main sh) (hMA : k_MA σ) {s o : Int} (h_s : -2147483648 ≤ s ∧ s < 2147483648) (h_o : -2147483648 ≤ o ∧ o < 2147483648) : k_C E mX8_commonWishes 5 [.ref 123, .int (iI (s)), .int (iI (o))] sh σ 0 0 ((k_pP sh R_commonWishes) (m_commonWishes σ s o)) := by
  refine k_C_of (ls0 := [(0, .ref 123), (1, .int (iI (s))), (2, .int (iI (o)))]) rfl pnX8 (fun v hv => k_cat1 rfl hv) (Nat.le_of_ble_eq_true rfl) rfl ?_
  obtain ⟨⟨t0, t0b⟩, ⟨t1, t1b⟩, ⟨t2, t2b⟩, ⟨t3, t3b⟩, -⟩ := id hMA.2.1
  obtain ⟨⟨f4_0, g4_0⟩, ⟨f4_1, g4_1⟩, ⟨f4_2, g4_2⟩, ⟨f4_3, g4_3⟩, ⟨f4_4, g4_4⟩, ⟨f4_5, g4_5⟩, ⟨f4_6, g4_6⟩, ⟨f4_7, g4_7⟩, ⟨f4_8, g4_8⟩, ⟨f4_9, g4_9⟩, ⟨f4_10, g4_10⟩, ⟨f4_11, g4_11⟩, ⟨f4_12, g4_12⟩, ⟨f4_13, g4_13⟩⟩ := id hMA.1
  unfold m_commonWishes
  refine k_aload_n dX8_commonWishes_0 0 rfl rfl (by decide) ?_
  refine k_aload_n dX8_commonWishes_1 0 rfl rfl (by decide) ?_
  refine k_iload_n dX8_commonWishes_2 1 rfl rfl ?_
  refine k_iload_n dX8_commonWishes_3 2 rfl rfl ?_
  refine k_callVrP (st := [.ref 123]) (as := [.int (iI (s)), .int (iI (o))]) dX8_commonWishes_4 oX8_wrongPair w_2192 w_2194 w_74 rfl (by omega) rfl (Nat.le_of_ble_eq_true rfl) (by decide) (s_123 hsh) rfl (c8_wrongPair hsh (hMA).2.1 (by omega) (by omega)) (fun z1 => ?_)
  have z1 : 0 ≤ m_wrongPair (σ 124) s o ∧ m_wrongPair (σ 124) s o ≤ 2 := z1
  refine k_putfW (kf := 7) dX8_commonWishes_7 kcX8 w_1754 (by decide) (by decide) (s_123 hsh) rfl rfl rfl rfl ?_
  refine k_eqσ (σ' := (k_up σ 123 (k_u1 (σ 123) 7 (m_wrongPair (σ 124) s o)))) rfl ?_
  refine k_aload_n dX8_commonWishes_10 0 rfl rfl (by decide) ?_
  refine k_get (kf := 7) (v := .int (iI (m_wrongPair (σ 124) s o))) dX8_commonWishes_11 kcX8 w_1754 (by decide) (by decide) (s_123 hsh) rfl rfl ?_
  refine k_if_ne (tgt := 26) dX8_commonWishes_14 rfl ⟨by omega, by omega⟩ (fun h2 => ?_) (fun h2 => ?_)
  · refine k_iff (F := (k_pP sh R_commonWishes)) h2 ?_
    refine k_iconst (v := 0) dX8_commonWishes_26 rfl ?_
    exact k_retiP dX8_commonWishes_27 rfl rfl rfl (show (-1 ≤ (0 : Int) ∧ (0 : Int) ≤ 1000) ∧ k_MA (k_up σ 123 (k_u1 (σ 123) 7 (m_wrongPair (σ 124) s o))) from ⟨by omega, ⟨(show k_F0 (k_u1 (σ 123) 7 (m_wrongPair (σ 124) s o)) from (k_F0_u (hMA).1 (by omega))), (hMA).2.1, (hMA).2.2.1, (hMA).2.2.2.1, (hMA).2.2.2.2.1, (hMA).2.2.2.2.2.1, (hMA).2.2.2.2.2.2.1, (hMA).2.2.2.2.2.2.2.1, (hMA).2.2.2.2.2.2.2.2.1, (hMA).2.2.2.2.2.2.2.2.2.1, (hMA).2.2.2.2.2.2.2.2.2.2.1, (hMA).2.2.2.2.2.2.2.2.2.2.2.1, (hMA).2.2.2.2.2.2.2.2.2.2.2.2⟩⟩)
  · refine k_ift (F := (k_pP sh R_commonWishes)) h2 ?_
    refine k_aload_n dX8_commonWishes_17 0 rfl rfl (by decide) ?_
    refine k_iload_n dX8_commonWishes_18 1 rfl rfl ?_
    refine k_iload_n dX8_commonWishes_19 2 rfl rfl ?_
    refine k_callVrP (st := []) (as := [.int (iI (s)), .int (iI (o))]) dX8_commonWishes_20 oX8_common w_2196 w_2198 w_75 rfl (by omega) rfl (Nat.le_of_ble_eq_true rfl) (by decide) (s_123 hsh) rfl (c8_common (σ := (k_up σ 123 (k_u1 (σ 123) 7 (m_wrongPair (σ 124) s o)))) hsh (hMA).2.1 (by omega) (by omega)) (fun z3 => ?_)
    have z3 : 0 ≤ m_common (σ 124) s o ∧ m_common (σ 124) s o ≤ 12 := z3
    refine k_eqst (st' := [.int (iI (m_common (σ 124) s o))]) rfl ?_
    refine k_goto (tgt := 27) dX8_commonWishes_23 rfl ?_
    exact k_retiP dX8_commonWishes_27 rfl rfl rfl (show (-1 ≤ m_common (σ 124) s o ∧ m_common (σ 124) s o ≤ 1000) ∧ k_MA (k_up σ 123 (k_u1 (σ 123) 7 (m_wrongPair (σ 124) s o))) from ⟨by omega, ⟨(show k_F0 (k_u1 (σ 123) 7 (m_wrongPair (σ 124) s o)) from (k_F0_u (hMA).1 (by omega))), (hMA).2.1, (hMA).2.2.1, (hMA).2.2.2.1, (hMA).2.2.2.2.1, (hMA).2.2.2.2.2.1, (hMA).2.2.2.2.2.2.1, (hMA).2.2.2.2.2.2.2.1, (hMA).2.2.2.2.2.2.2.2.1, (hMA).2.2.2.2.2.2.2.2.2.1, (hMA).2.2.2.2.2.2.2.2.2.2.1, (hMA).2.2.2.2.2.2.2.2.2.2.2.1, (hMA).2.2.2.2.2.2.2.2.2.2.2.2⟩⟩)
abbrev R_leastClashes (t : Int × (Nat → Nat → Int)) : Prop := (-1 ≤ t.1 ∧ t.1 ≤ 1000) ∧ k_MA t.2
def m_leastClashes (σ : Nat → Nat → Int) : Int × (Nat → Nat → Int) := ((m_findsArrangement σ).1, (k_up (m_findsArrangement σ).2 123 (k_u1 ((m_findsArrangement σ).2 123) 7 (0))))
set_option maxRecDepth 100000 in
set_option maxHeartbeats 4000000 in
theorem c8_leastClashes (hsh : k_Main sh) (hMA : k_MA σ)  : k_C E mX8_leastClashes 7 [.ref 123] sh σ 0 0 ((k_pP sh R_leastClashes) (m_leastClashes σ)) := by
  refine k_C_of (ls0 := [(0, .ref 123)]) rfl pnX8 (fun v hv => k_cat1 rfl hv) (Nat.le_of_ble_eq_true rfl) rfl ?_
  obtain ⟨⟨t0, t0b⟩, ⟨t1, t1b⟩, ⟨t2, t2b⟩, ⟨t3, t3b⟩, -⟩ := id hMA.2.1
  obtain ⟨⟨f6_0, g6_0⟩, ⟨f6_1, g6_1⟩, ⟨f6_2, g6_2⟩, ⟨f6_3, g6_3⟩, ⟨f6_4, g6_4⟩, ⟨f6_5, g6_5⟩, ⟨f6_6, g6_6⟩, ⟨f6_7, g6_7⟩, ⟨f6_8, g6_8⟩, ⟨f6_9, g6_9⟩, ⟨f6_10, g6_10⟩, ⟨f6_11, g6_11⟩, ⟨f6_12, g6_12⟩, ⟨f6_13, g6_13⟩⟩ := id hMA.1
  unfold m_leastClashes
  refine k_aload_n dX8_leastClashes_0 0 rfl rfl (by decide) ?_
  refine k_aload_n dX8_leastClashes_1 0 rfl rfl (by decide) ?_
  refine k_callVrP (st := [.ref 123]) (as := []) dX8_leastClashes_2 oX8_findsArrangement w_2216 w_2218 w_77 rfl (by omega) rfl (Nat.le_of_ble_eq_true rfl) (by decide) (s_123 hsh) rfl (c8_findsArrangement hsh (show k_MA σ from ⟨(hMA).1, (hMA).2.1, (hMA).2.2.1, (hMA).2.2.2.1, (hMA).2.2.2.2.1, (hMA).2.2.2.2.2.1, (hMA).2.2.2.2.2.2.1, (hMA).2.2.2.2.2.2.2.1, (hMA).2.2.2.2.2.2.2.2.1, (hMA).2.2.2.2.2.2.2.2.2.1, (hMA).2.2.2.2.2.2.2.2.2.2.1, (hMA).2.2.2.2.2.2.2.2.2.2.2.1, (hMA).2.2.2.2.2.2.2.2.2.2.2.2⟩)) (fun z1 => ?_)
  have z1 : (-1 ≤ (m_findsArrangement σ).1 ∧ (m_findsArrangement σ).1 ≤ 1000) ∧ k_MA (m_findsArrangement σ).2 := z1
  have z2 := z1.1
  obtain ⟨⟨y3_0, y3_0b⟩, ⟨y3_1, y3_1b⟩, ⟨y3_2, y3_2b⟩, ⟨y3_3, y3_3b⟩, -⟩ := id ((z1.2)).2.1
  obtain ⟨⟨f4_0, g4_0⟩, ⟨f4_1, g4_1⟩, ⟨f4_2, g4_2⟩, ⟨f4_3, g4_3⟩, ⟨f4_4, g4_4⟩, ⟨f4_5, g4_5⟩, ⟨f4_6, g4_6⟩, ⟨f4_7, g4_7⟩, ⟨f4_8, g4_8⟩, ⟨f4_9, g4_9⟩, ⟨f4_10, g4_10⟩, ⟨f4_11, g4_11⟩, ⟨f4_12, g4_12⟩, ⟨f4_13, g4_13⟩⟩ := id ((z1.2)).1
  refine k_callVr (st := []) (as := [.int (iI ((m_findsArrangement σ).1))]) dX8_leastClashes_5 oX8_tells w_1854 w_1856 w_32 rfl (by omega) rfl (Nat.le_of_ble_eq_true rfl) (by decide) (s_123 hsh) rfl (c8_tells hsh) ?_
  refine k_eqσ (σ' := (k_up (m_findsArrangement σ).2 123 (k_u1 ((m_findsArrangement σ).2 123) 7 (0)))) ((show k_up (m_findsArrangement σ).2 123 (k_u1 ((m_findsArrangement σ).2 123) 7 (0)) = (k_up (m_findsArrangement σ).2 123 (k_u1 ((m_findsArrangement σ).2 123) 7 (0))) from rfl)).symm ?_
  exact k_retiP dX8_leastClashes_8 rfl rfl rfl (show (-1 ≤ (m_findsArrangement σ).1 ∧ (m_findsArrangement σ).1 ≤ 1000) ∧ k_MA (k_up (m_findsArrangement σ).2 123 (k_u1 ((m_findsArrangement σ).2 123) 7 (0))) from ⟨by omega, ⟨(show k_F0 (k_u1 ((m_findsArrangement σ).2 123) 7 (0)) from (k_F0_u ((z1.2)).1 (by omega))), ((z1.2)).2.1, ((z1.2)).2.2.1, ((z1.2)).2.2.2.1, ((z1.2)).2.2.2.2.1, ((z1.2)).2.2.2.2.2.1, ((z1.2)).2.2.2.2.2.2.1, ((z1.2)).2.2.2.2.2.2.2.1, ((z1.2)).2.2.2.2.2.2.2.2.1, ((z1.2)).2.2.2.2.2.2.2.2.2.1, ((z1.2)).2.2.2.2.2.2.2.2.2.2.1, ((z1.2)).2.2.2.2.2.2.2.2.2.2.2.1, ((z1.2)).2.2.2.2.2.2.2.2.2.2.2.2⟩⟩)
abbrev R_leastClashesByTrial (t : Int × (Nat → Nat → Int)) : Prop := (-1 ≤ t.1 ∧ t.1 ≤ 1000) ∧ k_MA t.2
def m_leastClashesByTrial (σ : Nat → Nat → Int) : Int × (Nat → Nat → Int) := ((m_findsArrangement σ).1, (k_up (m_findsArrangement σ).2 123 (k_u1 ((m_findsArrangement σ).2 123) 7 (0))))
set_option maxRecDepth 100000 in
set_option maxHeartbeats 4000000 in
theorem c8_leastClashesByTrial (hsh : k_Main sh) (hMA : k_MA σ)  : k_C E mX8_leastClashesByTrial 7 [.ref 123] sh σ 0 0 ((k_pP sh R_leastClashesByTrial) (m_leastClashesByTrial σ)) := by
  refine k_C_of (ls0 := [(0, .ref 123)]) rfl pnX8 (fun v hv => k_cat1 rfl hv) (Nat.le_of_ble_eq_true rfl) rfl ?_
  obtain ⟨⟨t0, t0b⟩, ⟨t1, t1b⟩, ⟨t2, t2b⟩, ⟨t3, t3b⟩, -⟩ := id hMA.2.1
  obtain ⟨⟨f6_0, g6_0⟩, ⟨f6_1, g6_1⟩, ⟨f6_2, g6_2⟩, ⟨f6_3, g6_3⟩, ⟨f6_4, g6_4⟩, ⟨f6_5, g6_5⟩, ⟨f6_6, g6_6⟩, ⟨f6_7, g6_7⟩, ⟨f6_8, g6_8⟩, ⟨f6_9, g6_9⟩, ⟨f6_10, g6_10⟩, ⟨f6_11, g6_11⟩, ⟨f6_12, g6_12⟩, ⟨f6_13, g6_13⟩⟩ := id hMA.1
  unfold m_leastClashesByTrial
  refine k_aload_n dX8_leastClashesByTrial_0 0 rfl rfl (by decide) ?_
  refine k_aload_n dX8_leastClashesByTrial_1 0 rfl rfl (by decide) ?_
  refine k_callVrP (st := [.ref 123]) (as := []) dX8_leastClashesByTrial_2 oX8_findsArrangement w_2216 w_2218 w_77 rfl (by omega) rfl (Nat.le_of_ble_eq_true rfl) (by decide) (s_123 hsh) rfl (c8_findsArrangement hsh (show k_MA σ from ⟨(hMA).1, (hMA).2.1, (hMA).2.2.1, (hMA).2.2.2.1, (hMA).2.2.2.2.1, (hMA).2.2.2.2.2.1, (hMA).2.2.2.2.2.2.1, (hMA).2.2.2.2.2.2.2.1, (hMA).2.2.2.2.2.2.2.2.1, (hMA).2.2.2.2.2.2.2.2.2.1, (hMA).2.2.2.2.2.2.2.2.2.2.1, (hMA).2.2.2.2.2.2.2.2.2.2.2.1, (hMA).2.2.2.2.2.2.2.2.2.2.2.2⟩)) (fun z1 => ?_)
  have z1 : (-1 ≤ (m_findsArrangement σ).1 ∧ (m_findsArrangement σ).1 ≤ 1000) ∧ k_MA (m_findsArrangement σ).2 := z1
  have z2 := z1.1
  obtain ⟨⟨y3_0, y3_0b⟩, ⟨y3_1, y3_1b⟩, ⟨y3_2, y3_2b⟩, ⟨y3_3, y3_3b⟩, -⟩ := id ((z1.2)).2.1
  obtain ⟨⟨f4_0, g4_0⟩, ⟨f4_1, g4_1⟩, ⟨f4_2, g4_2⟩, ⟨f4_3, g4_3⟩, ⟨f4_4, g4_4⟩, ⟨f4_5, g4_5⟩, ⟨f4_6, g4_6⟩, ⟨f4_7, g4_7⟩, ⟨f4_8, g4_8⟩, ⟨f4_9, g4_9⟩, ⟨f4_10, g4_10⟩, ⟨f4_11, g4_11⟩, ⟨f4_12, g4_12⟩, ⟨f4_13, g4_13⟩⟩ := id ((z1.2)).1
  refine k_callVr (st := []) (as := [.int (iI ((m_findsArrangement σ).1))]) dX8_leastClashesByTrial_5 oX8_tells w_1854 w_1856 w_32 rfl (by omega) rfl (Nat.le_of_ble_eq_true rfl) (by decide) (s_123 hsh) rfl (c8_tells hsh) ?_
  refine k_eqσ (σ' := (k_up (m_findsArrangement σ).2 123 (k_u1 ((m_findsArrangement σ).2 123) 7 (0)))) ((show k_up (m_findsArrangement σ).2 123 (k_u1 ((m_findsArrangement σ).2 123) 7 (0)) = (k_up (m_findsArrangement σ).2 123 (k_u1 ((m_findsArrangement σ).2 123) 7 (0))) from rfl)).symm ?_
  exact k_retiP dX8_leastClashesByTrial_8 rfl rfl rfl (show (-1 ≤ (m_findsArrangement σ).1 ∧ (m_findsArrangement σ).1 ≤ 1000) ∧ k_MA (k_up (m_findsArrangement σ).2 123 (k_u1 ((m_findsArrangement σ).2 123) 7 (0))) from ⟨by omega, ⟨(show k_F0 (k_u1 ((m_findsArrangement σ).2 123) 7 (0)) from (k_F0_u ((z1.2)).1 (by omega))), ((z1.2)).2.1, ((z1.2)).2.2.1, ((z1.2)).2.2.2.1, ((z1.2)).2.2.2.2.1, ((z1.2)).2.2.2.2.2.1, ((z1.2)).2.2.2.2.2.2.1, ((z1.2)).2.2.2.2.2.2.2.1, ((z1.2)).2.2.2.2.2.2.2.2.1, ((z1.2)).2.2.2.2.2.2.2.2.2.1, ((z1.2)).2.2.2.2.2.2.2.2.2.2.1, ((z1.2)).2.2.2.2.2.2.2.2.2.2.2.1, ((z1.2)).2.2.2.2.2.2.2.2.2.2.2.2⟩⟩)
abbrev R_errorPosition (t : Int × (Nat → Nat → Int)) : Prop := (-1 ≤ t.1 ∧ t.1 ≤ 1000) ∧ k_MA t.2
def m_errorPosition (σ : Nat → Nat → Int) : Int × (Nat → Nat → Int) := if ((σ 123) 10) = (-1) then (0, (k_up σ 123 (k_u1 (σ 123) 7 (1)))) else ((σ 123) 10, (k_up σ 123 (k_u1 (σ 123) 7 (0))))
set_option maxRecDepth 100000 in
set_option maxHeartbeats 4000000 in
theorem c8_errorPosition (hsh : k_Main sh) (hMA : k_MA σ)  : k_C E mX8_errorPosition 3 [.ref 123] sh σ 0 0 ((k_pP sh R_errorPosition) (m_errorPosition σ)) := by
  refine k_C_of (ls0 := [(0, .ref 123)]) rfl pnX8 (fun v hv => k_cat1 rfl hv) (Nat.le_of_ble_eq_true rfl) rfl ?_
  obtain ⟨⟨t0, t0b⟩, ⟨t1, t1b⟩, ⟨t2, t2b⟩, ⟨t3, t3b⟩, -⟩ := id hMA.2.1
  obtain ⟨⟨f4_0, g4_0⟩, ⟨f4_1, g4_1⟩, ⟨f4_2, g4_2⟩, ⟨f4_3, g4_3⟩, ⟨f4_4, g4_4⟩, ⟨f4_5, g4_5⟩, ⟨f4_6, g4_6⟩, ⟨f4_7, g4_7⟩, ⟨f4_8, g4_8⟩, ⟨f4_9, g4_9⟩, ⟨f4_10, g4_10⟩, ⟨f4_11, g4_11⟩, ⟨f4_12, g4_12⟩, ⟨f4_13, g4_13⟩⟩ := id hMA.1
  unfold m_errorPosition
  refine k_aload_n dX8_errorPosition_0 0 rfl rfl (by decide) ?_
  refine k_get (kf := 10) (v := .int (iI ((σ 123) 10))) dX8_errorPosition_1 kcX8 w_1757 (by decide) (by decide) (s_123 hsh) rfl rfl ?_
  refine k_iconst (v := (-1)) dX8_errorPosition_4 rfl ?_
  refine k_icmp_ne (tgt := 16) dX8_errorPosition_5 rfl ⟨by omega, by omega⟩ ⟨by decide, by decide⟩ (fun h1 => ?_) (fun h1 => ?_)
  · refine k_iff (F := (k_pP sh R_errorPosition)) h1 ?_
    refine k_aload_n dX8_errorPosition_16 0 rfl rfl (by decide) ?_
    refine k_aload_n dX8_errorPosition_17 0 rfl rfl (by decide) ?_
    refine k_get (kf := 10) (v := .int (iI ((σ 123) 10))) dX8_errorPosition_18 kcX8 w_1757 (by decide) (by decide) (s_123 hsh) rfl rfl ?_
    refine k_callVr (st := []) (as := [.int (iI ((σ 123) 10))]) dX8_errorPosition_21 oX8_tells w_1854 w_1856 w_32 rfl (by omega) rfl (Nat.le_of_ble_eq_true rfl) (by decide) (s_123 hsh) rfl (c8_tells hsh) ?_
    refine k_eqσ (σ' := (k_up σ 123 (k_u1 (σ 123) 7 (0)))) ((show k_up σ 123 (k_u1 (σ 123) 7 (0)) = (k_up σ 123 (k_u1 (σ 123) 7 (0))) from rfl)).symm ?_
    exact k_retiP dX8_errorPosition_24 rfl rfl rfl (show (-1 ≤ (σ 123) 10 ∧ (σ 123) 10 ≤ 1000) ∧ k_MA (k_up σ 123 (k_u1 (σ 123) 7 (0))) from ⟨by omega, ⟨(show k_F0 (k_u1 (σ 123) 7 (0)) from (k_F0_u (hMA).1 (by omega))), (hMA).2.1, (hMA).2.2.1, (hMA).2.2.2.1, (hMA).2.2.2.2.1, (hMA).2.2.2.2.2.1, (hMA).2.2.2.2.2.2.1, (hMA).2.2.2.2.2.2.2.1, (hMA).2.2.2.2.2.2.2.2.1, (hMA).2.2.2.2.2.2.2.2.2.1, (hMA).2.2.2.2.2.2.2.2.2.2.1, (hMA).2.2.2.2.2.2.2.2.2.2.2.1, (hMA).2.2.2.2.2.2.2.2.2.2.2.2⟩⟩)
  · refine k_ift (F := (k_pP sh R_errorPosition)) h1 ?_
    refine k_aload_n dX8_errorPosition_8 0 rfl rfl (by decide) ?_
    refine k_iconst (v := 1) dX8_errorPosition_9 rfl ?_
    refine k_callVr (st := []) (as := [.int (iI (1))]) dX8_errorPosition_10 oX8_fails w_1850 w_1852 w_31 rfl (by omega) rfl (Nat.le_of_ble_eq_true rfl) (by decide) (s_123 hsh) rfl (c8_fails hsh) ?_
    refine k_eqσ (σ' := (k_up σ 123 (k_u1 (σ 123) 7 (1)))) ((show k_up σ 123 (k_u1 (σ 123) 7 (1)) = (k_up σ 123 (k_u1 (σ 123) 7 (1))) from rfl)).symm ?_
    refine k_goto (tgt := 24) dX8_errorPosition_13 rfl ?_
    exact k_retiP dX8_errorPosition_24 rfl rfl rfl (show (-1 ≤ (0 : Int) ∧ (0 : Int) ≤ 1000) ∧ k_MA (k_up σ 123 (k_u1 (σ 123) 7 (1))) from ⟨by omega, ⟨(show k_F0 (k_u1 (σ 123) 7 (1)) from (k_F0_u (hMA).1 (by omega))), (hMA).2.1, (hMA).2.2.1, (hMA).2.2.2.1, (hMA).2.2.2.2.1, (hMA).2.2.2.2.2.1, (hMA).2.2.2.2.2.2.1, (hMA).2.2.2.2.2.2.2.1, (hMA).2.2.2.2.2.2.2.2.1, (hMA).2.2.2.2.2.2.2.2.2.1, (hMA).2.2.2.2.2.2.2.2.2.2.1, (hMA).2.2.2.2.2.2.2.2.2.2.2.1, (hMA).2.2.2.2.2.2.2.2.2.2.2.2⟩⟩)
abbrev R_failedCommand (t : Int × (Nat → Nat → Int)) : Prop := (-1 ≤ t.1 ∧ t.1 ≤ 1000) ∧ k_MA t.2
def m_failedCommand (σ : Nat → Nat → Int) : Int × (Nat → Nat → Int) := if ((σ 123) 11) = (-1) then (0, (k_up σ 123 (k_u1 (σ 123) 7 (1)))) else ((σ 123) 11, (k_up σ 123 (k_u1 (σ 123) 7 (0))))
set_option maxRecDepth 100000 in
set_option maxHeartbeats 4000000 in
theorem c8_failedCommand (hsh : k_Main sh) (hMA : k_MA σ)  : k_C E mX8_failedCommand 3 [.ref 123] sh σ 0 0 ((k_pP sh R_failedCommand) (m_failedCommand σ)) := by
  refine k_C_of (ls0 := [(0, .ref 123)]) rfl pnX8 (fun v hv => k_cat1 rfl hv) (Nat.le_of_ble_eq_true rfl) rfl ?_
  obtain ⟨⟨t0, t0b⟩, ⟨t1, t1b⟩, ⟨t2, t2b⟩, ⟨t3, t3b⟩, -⟩ := id hMA.2.1
  obtain ⟨⟨f4_0, g4_0⟩, ⟨f4_1, g4_1⟩, ⟨f4_2, g4_2⟩, ⟨f4_3, g4_3⟩, ⟨f4_4, g4_4⟩, ⟨f4_5, g4_5⟩, ⟨f4_6, g4_6⟩, ⟨f4_7, g4_7⟩, ⟨f4_8, g4_8⟩, ⟨f4_9, g4_9⟩, ⟨f4_10, g4_10⟩, ⟨f4_11, g4_11⟩, ⟨f4_12, g4_12⟩, ⟨f4_13, g4_13⟩⟩ := id hMA.1
  unfold m_failedCommand
  refine k_aload_n dX8_failedCommand_0 0 rfl rfl (by decide) ?_
  refine k_get (kf := 11) (v := .int (iI ((σ 123) 11))) dX8_failedCommand_1 kcX8 w_1758 (by decide) (by decide) (s_123 hsh) rfl rfl ?_
  refine k_iconst (v := (-1)) dX8_failedCommand_4 rfl ?_
  refine k_icmp_ne (tgt := 16) dX8_failedCommand_5 rfl ⟨by omega, by omega⟩ ⟨by decide, by decide⟩ (fun h1 => ?_) (fun h1 => ?_)
  · refine k_iff (F := (k_pP sh R_failedCommand)) h1 ?_
    refine k_aload_n dX8_failedCommand_16 0 rfl rfl (by decide) ?_
    refine k_aload_n dX8_failedCommand_17 0 rfl rfl (by decide) ?_
    refine k_get (kf := 11) (v := .int (iI ((σ 123) 11))) dX8_failedCommand_18 kcX8 w_1758 (by decide) (by decide) (s_123 hsh) rfl rfl ?_
    refine k_callVr (st := []) (as := [.int (iI ((σ 123) 11))]) dX8_failedCommand_21 oX8_tells w_1854 w_1856 w_32 rfl (by omega) rfl (Nat.le_of_ble_eq_true rfl) (by decide) (s_123 hsh) rfl (c8_tells hsh) ?_
    refine k_eqσ (σ' := (k_up σ 123 (k_u1 (σ 123) 7 (0)))) ((show k_up σ 123 (k_u1 (σ 123) 7 (0)) = (k_up σ 123 (k_u1 (σ 123) 7 (0))) from rfl)).symm ?_
    exact k_retiP dX8_failedCommand_24 rfl rfl rfl (show (-1 ≤ (σ 123) 11 ∧ (σ 123) 11 ≤ 1000) ∧ k_MA (k_up σ 123 (k_u1 (σ 123) 7 (0))) from ⟨by omega, ⟨(show k_F0 (k_u1 (σ 123) 7 (0)) from (k_F0_u (hMA).1 (by omega))), (hMA).2.1, (hMA).2.2.1, (hMA).2.2.2.1, (hMA).2.2.2.2.1, (hMA).2.2.2.2.2.1, (hMA).2.2.2.2.2.2.1, (hMA).2.2.2.2.2.2.2.1, (hMA).2.2.2.2.2.2.2.2.1, (hMA).2.2.2.2.2.2.2.2.2.1, (hMA).2.2.2.2.2.2.2.2.2.2.1, (hMA).2.2.2.2.2.2.2.2.2.2.2.1, (hMA).2.2.2.2.2.2.2.2.2.2.2.2⟩⟩)
  · refine k_ift (F := (k_pP sh R_failedCommand)) h1 ?_
    refine k_aload_n dX8_failedCommand_8 0 rfl rfl (by decide) ?_
    refine k_iconst (v := 1) dX8_failedCommand_9 rfl ?_
    refine k_callVr (st := []) (as := [.int (iI (1))]) dX8_failedCommand_10 oX8_fails w_1850 w_1852 w_31 rfl (by omega) rfl (Nat.le_of_ble_eq_true rfl) (by decide) (s_123 hsh) rfl (c8_fails hsh) ?_
    refine k_eqσ (σ' := (k_up σ 123 (k_u1 (σ 123) 7 (1)))) ((show k_up σ 123 (k_u1 (σ 123) 7 (1)) = (k_up σ 123 (k_u1 (σ 123) 7 (1))) from rfl)).symm ?_
    refine k_goto (tgt := 24) dX8_failedCommand_13 rfl ?_
    exact k_retiP dX8_failedCommand_24 rfl rfl rfl (show (-1 ≤ (0 : Int) ∧ (0 : Int) ≤ 1000) ∧ k_MA (k_up σ 123 (k_u1 (σ 123) 7 (1))) from ⟨by omega, ⟨(show k_F0 (k_u1 (σ 123) 7 (1)) from (k_F0_u (hMA).1 (by omega))), (hMA).2.1, (hMA).2.2.1, (hMA).2.2.2.1, (hMA).2.2.2.2.1, (hMA).2.2.2.2.2.1, (hMA).2.2.2.2.2.2.1, (hMA).2.2.2.2.2.2.2.1, (hMA).2.2.2.2.2.2.2.2.1, (hMA).2.2.2.2.2.2.2.2.2.1, (hMA).2.2.2.2.2.2.2.2.2.2.1, (hMA).2.2.2.2.2.2.2.2.2.2.2.1, (hMA).2.2.2.2.2.2.2.2.2.2.2.2⟩⟩)
abbrev R_failureKind (t : Int × (Nat → Nat → Int)) : Prop := (-1 ≤ t.1 ∧ t.1 ≤ 1000) ∧ k_MA t.2
def m_failureKind (σ : Nat → Nat → Int) : Int × (Nat → Nat → Int) := if ((σ 123) 11) = (-1) then (0, (k_up σ 123 (k_u1 (σ 123) 7 (1)))) else ((σ 123) 12, (k_up σ 123 (k_u1 (σ 123) 7 (0))))
set_option maxRecDepth 100000 in
set_option maxHeartbeats 4000000 in
theorem c8_failureKind (hsh : k_Main sh) (hMA : k_MA σ)  : k_C E mX8_failureKind 3 [.ref 123] sh σ 0 0 ((k_pP sh R_failureKind) (m_failureKind σ)) := by
  refine k_C_of (ls0 := [(0, .ref 123)]) rfl pnX8 (fun v hv => k_cat1 rfl hv) (Nat.le_of_ble_eq_true rfl) rfl ?_
  obtain ⟨⟨t0, t0b⟩, ⟨t1, t1b⟩, ⟨t2, t2b⟩, ⟨t3, t3b⟩, -⟩ := id hMA.2.1
  obtain ⟨⟨f4_0, g4_0⟩, ⟨f4_1, g4_1⟩, ⟨f4_2, g4_2⟩, ⟨f4_3, g4_3⟩, ⟨f4_4, g4_4⟩, ⟨f4_5, g4_5⟩, ⟨f4_6, g4_6⟩, ⟨f4_7, g4_7⟩, ⟨f4_8, g4_8⟩, ⟨f4_9, g4_9⟩, ⟨f4_10, g4_10⟩, ⟨f4_11, g4_11⟩, ⟨f4_12, g4_12⟩, ⟨f4_13, g4_13⟩⟩ := id hMA.1
  unfold m_failureKind
  refine k_aload_n dX8_failureKind_0 0 rfl rfl (by decide) ?_
  refine k_get (kf := 11) (v := .int (iI ((σ 123) 11))) dX8_failureKind_1 kcX8 w_1758 (by decide) (by decide) (s_123 hsh) rfl rfl ?_
  refine k_iconst (v := (-1)) dX8_failureKind_4 rfl ?_
  refine k_icmp_ne (tgt := 16) dX8_failureKind_5 rfl ⟨by omega, by omega⟩ ⟨by decide, by decide⟩ (fun h1 => ?_) (fun h1 => ?_)
  · refine k_iff (F := (k_pP sh R_failureKind)) h1 ?_
    refine k_aload_n dX8_failureKind_16 0 rfl rfl (by decide) ?_
    refine k_aload_n dX8_failureKind_17 0 rfl rfl (by decide) ?_
    refine k_get (kf := 12) (v := .int (iI ((σ 123) 12))) dX8_failureKind_18 kcX8 w_1759 (by decide) (by decide) (s_123 hsh) rfl rfl ?_
    refine k_callVr (st := []) (as := [.int (iI ((σ 123) 12))]) dX8_failureKind_21 oX8_tells w_1854 w_1856 w_32 rfl (by omega) rfl (Nat.le_of_ble_eq_true rfl) (by decide) (s_123 hsh) rfl (c8_tells hsh) ?_
    refine k_eqσ (σ' := (k_up σ 123 (k_u1 (σ 123) 7 (0)))) ((show k_up σ 123 (k_u1 (σ 123) 7 (0)) = (k_up σ 123 (k_u1 (σ 123) 7 (0))) from rfl)).symm ?_
    exact k_retiP dX8_failureKind_24 rfl rfl rfl (show (-1 ≤ (σ 123) 12 ∧ (σ 123) 12 ≤ 1000) ∧ k_MA (k_up σ 123 (k_u1 (σ 123) 7 (0))) from ⟨by omega, ⟨(show k_F0 (k_u1 (σ 123) 7 (0)) from (k_F0_u (hMA).1 (by omega))), (hMA).2.1, (hMA).2.2.1, (hMA).2.2.2.1, (hMA).2.2.2.2.1, (hMA).2.2.2.2.2.1, (hMA).2.2.2.2.2.2.1, (hMA).2.2.2.2.2.2.2.1, (hMA).2.2.2.2.2.2.2.2.1, (hMA).2.2.2.2.2.2.2.2.2.1, (hMA).2.2.2.2.2.2.2.2.2.2.1, (hMA).2.2.2.2.2.2.2.2.2.2.2.1, (hMA).2.2.2.2.2.2.2.2.2.2.2.2⟩⟩)
  · refine k_ift (F := (k_pP sh R_failureKind)) h1 ?_
    refine k_aload_n dX8_failureKind_8 0 rfl rfl (by decide) ?_
    refine k_iconst (v := 1) dX8_failureKind_9 rfl ?_
    refine k_callVr (st := []) (as := [.int (iI (1))]) dX8_failureKind_10 oX8_fails w_1850 w_1852 w_31 rfl (by omega) rfl (Nat.le_of_ble_eq_true rfl) (by decide) (s_123 hsh) rfl (c8_fails hsh) ?_
    refine k_eqσ (σ' := (k_up σ 123 (k_u1 (σ 123) 7 (1)))) ((show k_up σ 123 (k_u1 (σ 123) 7 (1)) = (k_up σ 123 (k_u1 (σ 123) 7 (1))) from rfl)).symm ?_
    refine k_goto (tgt := 24) dX8_failureKind_13 rfl ?_
    exact k_retiP dX8_failureKind_24 rfl rfl rfl (show (-1 ≤ (0 : Int) ∧ (0 : Int) ≤ 1000) ∧ k_MA (k_up σ 123 (k_u1 (σ 123) 7 (1))) from ⟨by omega, ⟨(show k_F0 (k_u1 (σ 123) 7 (1)) from (k_F0_u (hMA).1 (by omega))), (hMA).2.1, (hMA).2.2.1, (hMA).2.2.2.1, (hMA).2.2.2.2.1, (hMA).2.2.2.2.2.1, (hMA).2.2.2.2.2.2.1, (hMA).2.2.2.2.2.2.2.1, (hMA).2.2.2.2.2.2.2.2.1, (hMA).2.2.2.2.2.2.2.2.2.1, (hMA).2.2.2.2.2.2.2.2.2.2.1, (hMA).2.2.2.2.2.2.2.2.2.2.2.1, (hMA).2.2.2.2.2.2.2.2.2.2.2.2⟩⟩)
abbrev R_save (t : Int × (Nat → Nat → Int)) : Prop := (-1 ≤ t.1 ∧ t.1 ≤ 1000) ∧ k_MA t.2
def m_save (σ : Nat → Nat → Int) : Int × (Nat → Nat → Int) := ((σ 124) 2, (k_up (k_up σ 123 (k_u1 (k_u1 (σ 123) 6 (1)) 7 (0))) 126 (σ 124)))
set_option maxRecDepth 100000 in
set_option maxHeartbeats 4000000 in
theorem c8_save (hsh : k_Main sh) (hMA : k_MA σ)  : k_C E mX8_save 3 [.ref 123] sh σ 0 0 ((k_pP sh R_save) (m_save σ)) := by
  refine k_C_of (ls0 := [(0, .ref 123)]) rfl pnX8 (fun v hv => k_cat1 rfl hv) (Nat.le_of_ble_eq_true rfl) rfl ?_
  obtain ⟨⟨t0, t0b⟩, ⟨t1, t1b⟩, ⟨t2, t2b⟩, ⟨t3, t3b⟩, -⟩ := id hMA.2.1
  obtain ⟨⟨f3_0, g3_0⟩, ⟨f3_1, g3_1⟩, ⟨f3_2, g3_2⟩, ⟨f3_3, g3_3⟩, ⟨f3_4, g3_4⟩, ⟨f3_5, g3_5⟩, ⟨f3_6, g3_6⟩, ⟨f3_7, g3_7⟩, ⟨f3_8, g3_8⟩, ⟨f3_9, g3_9⟩, ⟨f3_10, g3_10⟩, ⟨f3_11, g3_11⟩, ⟨f3_12, g3_12⟩, ⟨f3_13, g3_13⟩⟩ := id hMA.1
  unfold m_save
  refine k_aload_n dX8_save_0 0 rfl rfl (by decide) ?_
  refine k_get (kf := 0) (v := .ref 124) dX8_save_1 kcX8 w_1747 (by decide) (by decide) (s_123 hsh) rfl rfl ?_
  refine k_aload_n dX8_save_4 0 rfl rfl (by decide) ?_
  refine k_get (kf := 2) (v := .ref 126) dX8_save_5 kcX8 w_1749 (by decide) (by decide) (s_123 hsh) rfl rfl ?_
  refine k_callSr (st := []) (as := [.ref 124, .ref 126]) dX8_save_8 oX8_copies w_1862 w_1863 rfl (by omega) rfl (Nat.le_of_ble_eq_true rfl) (c8_copies (by decide) (by decide) (s_124 hsh) (s_126 hsh) (by decide)) ?_
  refine k_eqσ (σ' := (k_up σ 126 (σ 124))) ((show k_up σ 126 (σ 124) = (k_up σ 126 (σ 124)) from rfl)).symm ?_
  refine k_aload_n dX8_save_11 0 rfl rfl (by decide) ?_
  refine k_iconst (v := 1) dX8_save_12 rfl ?_
  refine k_putfW (kf := 6) dX8_save_13 kcX8 w_1753 (by decide) (by decide) (s_123 hsh) rfl rfl (by decide) (by decide) ?_
  refine k_eqσ (σ' := (k_up (k_up σ 123 (k_u1 (σ 123) 6 (1))) 126 (σ 124))) (show k_up (k_up σ 126 (σ 124)) 123 (k_u1 (σ 123) 6 (1)) = _ from (k_up_comm (by decide))).symm ?_
  refine k_aload_n dX8_save_16 0 rfl rfl (by decide) ?_
  refine k_aload_n dX8_save_17 0 rfl rfl (by decide) ?_
  refine k_get (kf := 0) (v := .ref 124) dX8_save_18 kcX8 w_1747 (by decide) (by decide) (s_123 hsh) rfl rfl ?_
  refine k_iconst (v := 2) dX8_save_21 rfl ?_
  refine k_iald dX8_save_22 (by decide) (s_124 hsh) (by omega) (by omega) (by decide) ?_
  refine k_eqst (st' := [.int (iI ((σ 124) 2)), .ref 123]) rfl ?_
  refine k_callVr (st := []) (as := [.int (iI ((σ 124) 2))]) dX8_save_23 oX8_tells w_1854 w_1856 w_32 rfl (by omega) rfl (Nat.le_of_ble_eq_true rfl) (by decide) (s_123 hsh) rfl (c8_tells hsh) ?_
  refine k_eqσ (σ' := (k_up (k_up σ 123 (k_u1 (k_u1 (σ 123) 6 (1)) 7 (0))) 126 (σ 124))) ((show k_up (k_up (k_up σ 123 (k_u1 (σ 123) 6 (1))) 126 (σ 124)) 123 (k_u1 (k_u1 (σ 123) 6 (1)) 7 (0)) = (k_up (k_up σ 123 (k_u1 (k_u1 (σ 123) 6 (1)) 7 (0))) 126 (σ 124)) from ((k_up_comm (by decide)).trans (congrArg (fun s => k_up s 126 _) k_up_up)))).symm ?_
  exact k_retiP dX8_save_26 rfl rfl rfl (show (-1 ≤ (σ 124) 2 ∧ (σ 124) 2 ≤ 1000) ∧ k_MA (k_up (k_up σ 123 (k_u1 (k_u1 (σ 123) 6 (1)) 7 (0))) 126 (σ 124)) from ⟨by omega, ⟨(show k_F0 (k_u1 (k_u1 (σ 123) 6 (1)) 7 (0)) from (k_F0_u (show k_F0 (k_u1 (σ 123) 6 (1)) from (k_F0_u (hMA).1 (by omega))) (by omega))), (hMA).2.1, (hMA).2.2.1, (hMA).2.2.2.1, (hMA).2.2.2.2.1, (hMA).2.2.2.2.2.1, (hMA).2.2.2.2.2.2.1, (hMA).2.2.2.2.2.2.2.1, (hMA).2.2.2.2.2.2.2.2.1, (hMA).2.2.2.2.2.2.2.2.2.1, (hMA).2.2.2.2.2.2.2.2.2.2.1, (hMA).2.2.2.2.2.2.2.2.2.2.2.1, (hMA).2.2.2.2.2.2.2.2.2.2.2.2⟩⟩)
abbrev R_pupilInClass (t : Int × (Nat → Nat → Int)) : Prop := (-1 ≤ t.1 ∧ t.1 ≤ 1000) ∧ k_MA t.2
def r_pupilInClass_28 (σ : Nat → Nat → Int) (s : Int) (b : Int) (ix : Int) (x28 : Int) : Int × (Nat → Nat → Int) := (0, (k_up σ 123 (k_u1 (σ 123) 7 (2))))
def b_pupilInClass_28 (σ : Nat → Nat → Int) (s : Int) (b : Int) (ix : Int) (i28 : Nat) (x28 : Int) : (Int × (Nat → Nat → Int)) ⊕ (Int) := if ((σ 124) (105 + 4 * (i28 : Int) + b).toNat) = s then if x28 = 0 then .inl (((i28 : Int), (k_up σ 123 (k_u1 (σ 123) 7 (0))))) else .inr (x28 + (-1)) else .inr (x28)
def m_pupilInClass (σ : Nat → Nat → Int) (s : Int) (b : Int) (ix : Int) : Int × (Nat → Nat → Int) := if 0 ≤ s ∧ s < (σ 124) 0 then if 0 ≤ b ∧ b < (σ 124) 1 then k_els (r_pupilInClass_28 σ s b ix) (k_for (b_pupilInClass_28 σ s b ix) (((σ 124) 2).toNat) 0 (ix)) else (0, (k_up σ 123 (k_u1 (σ 123) 7 (1)))) else (0, (k_up σ 123 (k_u1 (σ 123) 7 (1))))
set_option maxRecDepth 100000 in
set_option maxHeartbeats 4000000 in
theorem c8_pupilInClass (hsh : k_Main sh) (hMA : k_MA σ) {s b ix : Int} (h_s : -2147483648 ≤ s ∧ s < 2147483648) (h_b : -2147483648 ≤ b ∧ b < 2147483648) (h_ix : -2147483648 ≤ ix ∧ ix < 2147483648) : k_C E mX8_pupilInClass 4 [.ref 123, .int (iI (s)), .int (iI (b)), .int (iI (ix))] sh σ 0 0 ((k_pP sh R_pupilInClass) (m_pupilInClass σ s b ix)) := by
  refine k_C_of (ls0 := [(0, .ref 123), (1, .int (iI (s))), (2, .int (iI (b))), (3, .int (iI (ix)))]) rfl pnX8 (fun v hv => k_cat1 rfl hv) (Nat.le_of_ble_eq_true rfl) rfl ?_
  obtain ⟨⟨t0, t0b⟩, ⟨t1, t1b⟩, ⟨t2, t2b⟩, ⟨t3, t3b⟩, -⟩ := id hMA.2.1
  obtain ⟨⟨f16_0, g16_0⟩, ⟨f16_1, g16_1⟩, ⟨f16_2, g16_2⟩, ⟨f16_3, g16_3⟩, ⟨f16_4, g16_4⟩, ⟨f16_5, g16_5⟩, ⟨f16_6, g16_6⟩, ⟨f16_7, g16_7⟩, ⟨f16_8, g16_8⟩, ⟨f16_9, g16_9⟩, ⟨f16_10, g16_10⟩, ⟨f16_11, g16_11⟩, ⟨f16_12, g16_12⟩, ⟨f16_13, g16_13⟩⟩ := id hMA.1
  unfold m_pupilInClass
  refine k_aload_n dX8_pupilInClass_0 0 rfl rfl (by decide) ?_
  refine k_iload_n dX8_pupilInClass_1 1 rfl rfl ?_
  refine k_callVr (st := []) (as := [.int (iI (s))]) dX8_pupilInClass_2 oX8_isSubject w_1900 w_1902 w_38 rfl (by omega) rfl (Nat.le_of_ble_eq_true rfl) (by decide) (s_123 hsh) rfl (c8_isSubject (σ := σ) hsh (hMA).2.1 ⟨by omega, by omega⟩) ?_
  refine k_if_eq (tgt := 16) dX8_pupilInClass_5 rfl (zb_kr _) (fun h2 => ?_) (fun h2 => ?_)
  · have h2 := zb_0.mp h2
    refine k_iff (F := (k_pP sh R_pupilInClass)) h2 ?_
    refine k_aload_n dX8_pupilInClass_16 0 rfl rfl (by decide) ?_
    refine k_iconst (v := 1) dX8_pupilInClass_17 rfl ?_
    refine k_callVr (st := []) (as := [.int (iI (1))]) dX8_pupilInClass_18 oX8_fails w_1850 w_1852 w_31 rfl (by omega) rfl (Nat.le_of_ble_eq_true rfl) (by decide) (s_123 hsh) rfl (c8_fails hsh) ?_
    refine k_eqσ (σ' := (k_up σ 123 (k_u1 (σ 123) 7 (1)))) ((show k_up σ 123 (k_u1 (σ 123) 7 (1)) = (k_up σ 123 (k_u1 (σ 123) 7 (1))) from rfl)).symm ?_
    exact k_retiP dX8_pupilInClass_21 rfl rfl rfl (show (-1 ≤ (0 : Int) ∧ (0 : Int) ≤ 1000) ∧ k_MA (k_up σ 123 (k_u1 (σ 123) 7 (1))) from ⟨by omega, ⟨(show k_F0 (k_u1 (σ 123) 7 (1)) from (k_F0_u (hMA).1 (by omega))), (hMA).2.1, (hMA).2.2.1, (hMA).2.2.2.1, (hMA).2.2.2.2.1, (hMA).2.2.2.2.2.1, (hMA).2.2.2.2.2.2.1, (hMA).2.2.2.2.2.2.2.1, (hMA).2.2.2.2.2.2.2.2.1, (hMA).2.2.2.2.2.2.2.2.2.1, (hMA).2.2.2.2.2.2.2.2.2.2.1, (hMA).2.2.2.2.2.2.2.2.2.2.2.1, (hMA).2.2.2.2.2.2.2.2.2.2.2.2⟩⟩)
  · have h2 := zb_n0.mp h2
    refine k_ift (F := (k_pP sh R_pupilInClass)) h2 ?_
    refine k_aload_n dX8_pupilInClass_8 0 rfl rfl (by decide) ?_
    refine k_iload_n dX8_pupilInClass_9 2 rfl rfl ?_
    refine k_callVr (st := []) (as := [.int (iI (b))]) dX8_pupilInClass_10 oX8_isBlock w_1944 w_1946 w_44 rfl (by omega) rfl (Nat.le_of_ble_eq_true rfl) (by decide) (s_123 hsh) rfl (c8_isBlock (σ := σ) hsh (hMA).2.1 ⟨by omega, by omega⟩) ?_
    refine k_if_ne (tgt := 22) dX8_pupilInClass_13 rfl (zb_kr _) (fun h5 => ?_) (fun h5 => ?_)
    · have h5 := zb_n0.mp h5
      refine k_ift (F := (k_pP sh R_pupilInClass)) h5 ?_
      refine k_iload_n dX8_pupilInClass_22 3 rfl rfl ?_
      refine k_istore (ls' := [(0, .ref 123), (1, .int (iI (s))), (2, .int (iI (b))), (3, .int (iI (ix))), (4, .int (iI (ix)))]) dX8_pupilInClass_23 (by decide) rfl rfl ?_
      refine k_iconst (v := 0) dX8_pupilInClass_25 rfl ?_
      refine k_istore (ls' := [(0, .ref 123), (1, .int (iI (s))), (2, .int (iI (b))), (3, .int (iI (ix))), (4, .int (iI (ix))), (5, .int (iI (0)))]) dX8_pupilInClass_26 (by decide) rfl rfl ?_
      refine k_loopR (α := Int) (P := fun (i28 : Nat) (x28 : Int) Q => k_V E mX8_pupilInClass _ 28 [(0, .ref 123), (1, .int (iI (s))), (2, .int (iI (b))), (3, .int (iI (ix))), (4, .int (iI (x28))), (5, .int (iI ((i28 : Int))))] [] sh σ _ _ Q) (J := fun (i28 : Nat) (x28 : Int) => -2147483648 - (i28 : Int) ≤ x28 ∧ x28 < 2147483648) (((σ 124) 2).toNat) (b_pupilInClass_28 σ s b ix) (ix) (F := fun t => (k_pP sh R_pupilInClass) (k_els (r_pupilInClass_28 σ s b ix) t)) (show -2147483648 - ((0 : Nat) : Int) ≤ ix ∧ ix < 2147483648 from by omega) ?_ ?_
      · intro x28 hJ28
        have hJ28 : -2147483648 - ((((σ 124) 2).toNat : Nat) : Int) ≤ x28 ∧ x28 < 2147483648 := hJ28
        have hU28 := hJ28
        show k_V E mX8_pupilInClass _ 28 [(0, .ref 123), (1, .int (iI (s))), (2, .int (iI (b))), (3, .int (iI (ix))), (4, .int (iI (x28))), (5, .int (iI (((((σ 124) 2).toNat : Nat) : Int))))] [] sh σ _ _ ((k_pP sh R_pupilInClass) ((r_pupilInClass_28 σ s b ix) x28))
        unfold r_pupilInClass_28
        refine k_iload dX8_pupilInClass_28 5 rfl ?_
        refine k_aload_n dX8_pupilInClass_30 0 rfl rfl (by decide) ?_
        refine k_get (kf := 0) (v := .ref 124) dX8_pupilInClass_31 kcX8 w_1747 (by decide) (by decide) (s_123 hsh) rfl rfl ?_
        refine k_iconst (v := 2) dX8_pupilInClass_34 rfl ?_
        refine k_iald dX8_pupilInClass_35 (by decide) (s_124 hsh) (by omega) (by omega) (by decide) ?_
        refine k_eqst (st' := [.int (iI ((σ 124) 2)), .int (iI (((((σ 124) 2).toNat : Nat) : Int)))]) rfl ?_
        refine k_icmp_ge (tgt := 74) dX8_pupilInClass_36 rfl ⟨by omega, by omega⟩ ⟨by omega, by omega⟩ (fun h7 => ?_) (fun h7 => absurd h7 (by omega))
        refine k_aload_n dX8_pupilInClass_74 0 rfl rfl (by decide) ?_
        refine k_iconst (v := 2) dX8_pupilInClass_75 rfl ?_
        refine k_callVr (st := []) (as := [.int (iI (2))]) dX8_pupilInClass_76 oX8_fails w_1850 w_1852 w_31 rfl (by omega) rfl (Nat.le_of_ble_eq_true rfl) (by decide) (s_123 hsh) rfl (c8_fails hsh) ?_
        refine k_eqσ (σ' := (k_up σ 123 (k_u1 (σ 123) 7 (2)))) ((show k_up σ 123 (k_u1 (σ 123) 7 (2)) = (k_up σ 123 (k_u1 (σ 123) 7 (2))) from rfl)).symm ?_
        exact k_retiP dX8_pupilInClass_79 rfl rfl rfl (show (-1 ≤ (0 : Int) ∧ (0 : Int) ≤ 1000) ∧ k_MA (k_up σ 123 (k_u1 (σ 123) 7 (2))) from ⟨by omega, ⟨(show k_F0 (k_u1 (σ 123) 7 (2)) from (k_F0_u (hMA).1 (by omega))), (hMA).2.1, (hMA).2.2.1, (hMA).2.2.2.1, (hMA).2.2.2.2.1, (hMA).2.2.2.2.2.1, (hMA).2.2.2.2.2.2.1, (hMA).2.2.2.2.2.2.2.1, (hMA).2.2.2.2.2.2.2.2.1, (hMA).2.2.2.2.2.2.2.2.2.1, (hMA).2.2.2.2.2.2.2.2.2.2.1, (hMA).2.2.2.2.2.2.2.2.2.2.2.1, (hMA).2.2.2.2.2.2.2.2.2.2.2.2⟩⟩)
      · intro n28 i28 x28 hi28 hJ28 ih28
        have hJ28 : -2147483648 - (i28 : Int) ≤ x28 ∧ x28 < 2147483648 := hJ28
        have hU28 := hJ28
        show k_V E mX8_pupilInClass _ 28 [(0, .ref 123), (1, .int (iI (s))), (2, .int (iI (b))), (3, .int (iI (ix))), (4, .int (iI (x28))), (5, .int (iI ((i28 : Int))))] [] sh σ _ _ ((fun t => (k_pP sh R_pupilInClass) (k_els (r_pupilInClass_28 σ s b ix) (k_cn2 (k_for (b_pupilInClass_28 σ s b ix) n28 (i28 + 1)) t))) ((b_pupilInClass_28 σ s b ix) i28 x28))
        unfold b_pupilInClass_28
        refine k_iload dX8_pupilInClass_28 5 rfl ?_
        refine k_aload_n dX8_pupilInClass_30 0 rfl rfl (by decide) ?_
        refine k_get (kf := 0) (v := .ref 124) dX8_pupilInClass_31 kcX8 w_1747 (by decide) (by decide) (s_123 hsh) rfl rfl ?_
        refine k_iconst (v := 2) dX8_pupilInClass_34 rfl ?_
        refine k_iald dX8_pupilInClass_35 (by decide) (s_124 hsh) (by omega) (by omega) (by decide) ?_
        refine k_eqst (st' := [.int (iI ((σ 124) 2)), .int (iI ((i28 : Int)))]) rfl ?_
        refine k_icmp_ge (tgt := 74) dX8_pupilInClass_36 rfl ⟨by omega, by omega⟩ ⟨by omega, by omega⟩ (fun h9 => absurd h9 (by omega)) (fun h9 => ?_)
        refine k_aload_n dX8_pupilInClass_39 0 rfl rfl (by decide) ?_
        refine k_iload dX8_pupilInClass_40 5 rfl ?_
        refine k_iload_n dX8_pupilInClass_42 2 rfl rfl ?_
        refine k_callVr (st := []) (as := [.int (iI ((i28 : Int))), .int (iI (b))]) dX8_pupilInClass_43 oX8_subjectOf w_1908 w_1910 w_40 rfl (by omega) rfl (Nat.le_of_ble_eq_true rfl) (by decide) (s_123 hsh) rfl (c8_subjectOf (σ := σ) hsh (hMA).2.1 (by omega) (by omega)) ?_
        have q10 := k_Mo_tab (hMA).2.1 (x := 105 + 4 * (i28 : Int) + b) (by omega) (by omega)
        refine k_iload_n dX8_pupilInClass_46 1 rfl rfl ?_
        refine k_icmp_eq (tgt := 53) dX8_pupilInClass_47 rfl ⟨by omega, by omega⟩ ⟨by omega, by omega⟩ (fun h12 => ?_) (fun h12 => ?_)
        · refine k_ift (F := (fun t => (k_pP sh R_pupilInClass) (k_els (r_pupilInClass_28 σ s b ix) (k_cn2 (k_for (b_pupilInClass_28 σ s b ix) n28 (i28 + 1)) t)))) h12 ?_
          refine k_iload dX8_pupilInClass_53 4 rfl ?_
          refine k_if_neW (tgt := 65) dX8_pupilInClass_55 rfl ⟨by omega, by omega⟩ (fun h13 => ?_) (fun h13 => ?_)
          · refine k_iff (F := (fun t => (k_pP sh R_pupilInClass) (k_els (r_pupilInClass_28 σ s b ix) (k_cn2 (k_for (b_pupilInClass_28 σ s b ix) n28 (i28 + 1)) t)))) h13 ?_
            refine k_iinc (ls' := [(0, .ref 123), (1, .int (iI (s))), (2, .int (iI (b))), (3, .int (iI (ix))), (4, .int (iI (x28 + (-1)))), (5, .int (iI ((i28 : Int))))]) dX8_pupilInClass_65 4 rfl (by decide) rfl rfl ?_
            refine k_iinc (ls' := [(0, .ref 123), (1, .int (iI (s))), (2, .int (iI (b))), (3, .int (iI (ix))), (4, .int (iI (x28 + (-1)))), (5, .int (iI ((i28 : Int) + 1)))]) dX8_pupilInClass_68 5 rfl (by decide) rfl rfl ?_
            refine k_goto (tgt := 28) dX8_pupilInClass_71 rfl ?_
            exact ih28 (x28 + (-1)) (show -2147483648 - ((i28 + 1 : Nat) : Int) ≤ x28 + (-1) ∧ x28 + (-1) < 2147483648 from by omega)
          · refine k_ift (F := (fun t => (k_pP sh R_pupilInClass) (k_els (r_pupilInClass_28 σ s b ix) (k_cn2 (k_for (b_pupilInClass_28 σ s b ix) n28 (i28 + 1)) t)))) h13 ?_
            refine k_aload_n dX8_pupilInClass_58 0 rfl rfl (by decide) ?_
            refine k_iload dX8_pupilInClass_59 5 rfl ?_
            refine k_callVr (st := []) (as := [.int (iI ((i28 : Int)))]) dX8_pupilInClass_61 oX8_tells w_1854 w_1856 w_32 rfl (by omega) rfl (Nat.le_of_ble_eq_true rfl) (by decide) (s_123 hsh) rfl (c8_tells hsh) ?_
            refine k_eqσ (σ' := (k_up σ 123 (k_u1 (σ 123) 7 (0)))) ((show k_up σ 123 (k_u1 (σ 123) 7 (0)) = (k_up σ 123 (k_u1 (σ 123) 7 (0))) from rfl)).symm ?_
            exact k_retiP dX8_pupilInClass_64 rfl rfl rfl (show (-1 ≤ (i28 : Int) ∧ (i28 : Int) ≤ 1000) ∧ k_MA (k_up σ 123 (k_u1 (σ 123) 7 (0))) from ⟨by omega, ⟨(show k_F0 (k_u1 (σ 123) 7 (0)) from (k_F0_u (hMA).1 (by omega))), (hMA).2.1, (hMA).2.2.1, (hMA).2.2.2.1, (hMA).2.2.2.2.1, (hMA).2.2.2.2.2.1, (hMA).2.2.2.2.2.2.1, (hMA).2.2.2.2.2.2.2.1, (hMA).2.2.2.2.2.2.2.2.1, (hMA).2.2.2.2.2.2.2.2.2.1, (hMA).2.2.2.2.2.2.2.2.2.2.1, (hMA).2.2.2.2.2.2.2.2.2.2.2.1, (hMA).2.2.2.2.2.2.2.2.2.2.2.2⟩⟩)
        · refine k_iff (F := (fun t => (k_pP sh R_pupilInClass) (k_els (r_pupilInClass_28 σ s b ix) (k_cn2 (k_for (b_pupilInClass_28 σ s b ix) n28 (i28 + 1)) t)))) h12 ?_
          refine k_goto (tgt := 68) dX8_pupilInClass_50 rfl ?_
          refine k_iinc (ls' := [(0, .ref 123), (1, .int (iI (s))), (2, .int (iI (b))), (3, .int (iI (ix))), (4, .int (iI (x28))), (5, .int (iI ((i28 : Int) + 1)))]) dX8_pupilInClass_68 5 rfl (by decide) rfl rfl ?_
          refine k_goto (tgt := 28) dX8_pupilInClass_71 rfl ?_
          exact ih28 (x28) (show -2147483648 - ((i28 + 1 : Nat) : Int) ≤ x28 ∧ x28 < 2147483648 from by omega)
    · have h5 := zb_0.mp h5
      refine k_iff (F := (k_pP sh R_pupilInClass)) h5 ?_
      refine k_aload_n dX8_pupilInClass_16 0 rfl rfl (by decide) ?_
      refine k_iconst (v := 1) dX8_pupilInClass_17 rfl ?_
      refine k_callVr (st := []) (as := [.int (iI (1))]) dX8_pupilInClass_18 oX8_fails w_1850 w_1852 w_31 rfl (by omega) rfl (Nat.le_of_ble_eq_true rfl) (by decide) (s_123 hsh) rfl (c8_fails hsh) ?_
      refine k_eqσ (σ' := (k_up σ 123 (k_u1 (σ 123) 7 (1)))) ((show k_up σ 123 (k_u1 (σ 123) 7 (1)) = (k_up σ 123 (k_u1 (σ 123) 7 (1))) from rfl)).symm ?_
      exact k_retiP dX8_pupilInClass_21 rfl rfl rfl (show (-1 ≤ (0 : Int) ∧ (0 : Int) ≤ 1000) ∧ k_MA (k_up σ 123 (k_u1 (σ 123) 7 (1))) from ⟨by omega, ⟨(show k_F0 (k_u1 (σ 123) 7 (1)) from (k_F0_u (hMA).1 (by omega))), (hMA).2.1, (hMA).2.2.1, (hMA).2.2.2.1, (hMA).2.2.2.2.1, (hMA).2.2.2.2.2.1, (hMA).2.2.2.2.2.2.1, (hMA).2.2.2.2.2.2.2.1, (hMA).2.2.2.2.2.2.2.2.1, (hMA).2.2.2.2.2.2.2.2.2.1, (hMA).2.2.2.2.2.2.2.2.2.2.1, (hMA).2.2.2.2.2.2.2.2.2.2.2.1, (hMA).2.2.2.2.2.2.2.2.2.2.2.2⟩⟩)
abbrev R_isOpen (t : Bool × (Nat → Nat → Int)) : Prop := k_MA t.2
def m_isOpen (σ : Nat → Nat → Int) (s : Int) (b : Int) : Bool × (Nat → Nat → Int) := if 0 ≤ s ∧ s < (σ 124) 0 then if 0 ≤ b ∧ b < (σ 124) 1 then if (σ 124) (17 + 4 * s + b).toNat = 1 then (true, (k_up σ 123 (k_u1 (σ 123) 7 (0)))) else (false, (k_up σ 123 (k_u1 (σ 123) 7 (0)))) else (false, (k_up σ 123 (k_u1 (σ 123) 7 (1)))) else (false, (k_up σ 123 (k_u1 (σ 123) 7 (1))))
set_option maxRecDepth 100000 in
set_option maxHeartbeats 4000000 in
theorem c8_isOpen (hsh : k_Main sh) (hMA : k_MA σ) {s b : Int} (h_s : -2147483648 ≤ s ∧ s < 2147483648) (h_b : -2147483648 ≤ b ∧ b < 2147483648) : k_C E mX8_isOpen 4 [.ref 123, .int (iI (s)), .int (iI (b))] sh σ 0 0 ((k_pPB sh R_isOpen) (m_isOpen σ s b)) := by
  refine k_C_of (ls0 := [(0, .ref 123), (1, .int (iI (s))), (2, .int (iI (b)))]) rfl pnX8 (fun v hv => k_cat1 rfl hv) (Nat.le_of_ble_eq_true rfl) rfl ?_
  obtain ⟨⟨t0, t0b⟩, ⟨t1, t1b⟩, ⟨t2, t2b⟩, ⟨t3, t3b⟩, -⟩ := id hMA.2.1
  obtain ⟨⟨f10_0, g10_0⟩, ⟨f10_1, g10_1⟩, ⟨f10_2, g10_2⟩, ⟨f10_3, g10_3⟩, ⟨f10_4, g10_4⟩, ⟨f10_5, g10_5⟩, ⟨f10_6, g10_6⟩, ⟨f10_7, g10_7⟩, ⟨f10_8, g10_8⟩, ⟨f10_9, g10_9⟩, ⟨f10_10, g10_10⟩, ⟨f10_11, g10_11⟩, ⟨f10_12, g10_12⟩, ⟨f10_13, g10_13⟩⟩ := id hMA.1
  unfold m_isOpen
  refine k_aload_n dX8_isOpen_0 0 rfl rfl (by decide) ?_
  refine k_aload_n dX8_isOpen_1 0 rfl rfl (by decide) ?_
  refine k_iload_n dX8_isOpen_2 1 rfl rfl ?_
  refine k_callVr (st := [.ref 123]) (as := [.int (iI (s))]) dX8_isOpen_3 oX8_isSubject w_1900 w_1902 w_38 rfl (by omega) rfl (Nat.le_of_ble_eq_true rfl) (by decide) (s_123 hsh) rfl (c8_isSubject (σ := σ) hsh (hMA).2.1 ⟨by omega, by omega⟩) ?_
  refine k_if_eq (tgt := 21) dX8_isOpen_6 rfl (zb_kr _) (fun h2 => ?_) (fun h2 => ?_)
  · have h2 := zb_0.mp h2
    refine k_iff (F := (k_pPB sh R_isOpen)) h2 ?_
    refine k_iconst (v := 1) dX8_isOpen_21 rfl ?_
    refine k_putfW (kf := 7) dX8_isOpen_22 kcX8 w_1754 (by decide) (by decide) (s_123 hsh) rfl rfl rfl rfl ?_
    refine k_eqσ (σ' := (k_up σ 123 (k_u1 (σ 123) 7 (1)))) rfl ?_
    refine k_aload_n dX8_isOpen_25 0 rfl rfl (by decide) ?_
    refine k_get (kf := 7) (v := .int (iI (1))) dX8_isOpen_26 kcX8 w_1754 (by decide) (by decide) (s_123 hsh) rfl rfl ?_
    refine k_if_ne (tgt := 45) dX8_isOpen_29 rfl ⟨by decide, by decide⟩ (fun h3 => ?_) (fun h3 => absurd h3 (by decide))
    refine k_iconst (v := 0) dX8_isOpen_45 rfl ?_
    exact k_retzP dX8_isOpen_46 rfl (Or.inl rfl) rfl k_lfF (show k_MA (k_up σ 123 (k_u1 (σ 123) 7 (1))) from ⟨(show k_F0 (k_u1 (σ 123) 7 (1)) from (k_F0_u (hMA).1 (by omega))), (hMA).2.1, (hMA).2.2.1, (hMA).2.2.2.1, (hMA).2.2.2.2.1, (hMA).2.2.2.2.2.1, (hMA).2.2.2.2.2.2.1, (hMA).2.2.2.2.2.2.2.1, (hMA).2.2.2.2.2.2.2.2.1, (hMA).2.2.2.2.2.2.2.2.2.1, (hMA).2.2.2.2.2.2.2.2.2.2.1, (hMA).2.2.2.2.2.2.2.2.2.2.2.1, (hMA).2.2.2.2.2.2.2.2.2.2.2.2⟩)
  · have h2 := zb_n0.mp h2
    refine k_ift (F := (k_pPB sh R_isOpen)) h2 ?_
    refine k_aload_n dX8_isOpen_9 0 rfl rfl (by decide) ?_
    refine k_iload_n dX8_isOpen_10 2 rfl rfl ?_
    refine k_callVr (st := [.ref 123]) (as := [.int (iI (b))]) dX8_isOpen_11 oX8_isBlock w_1944 w_1946 w_44 rfl (by omega) rfl (Nat.le_of_ble_eq_true rfl) (by decide) (s_123 hsh) rfl (c8_isBlock (σ := σ) hsh (hMA).2.1 ⟨by omega, by omega⟩) ?_
    refine k_if_eq (tgt := 21) dX8_isOpen_14 rfl (zb_kr _) (fun h5 => ?_) (fun h5 => ?_)
    · have h5 := zb_0.mp h5
      refine k_iff (F := (k_pPB sh R_isOpen)) h5 ?_
      refine k_iconst (v := 1) dX8_isOpen_21 rfl ?_
      refine k_putfW (kf := 7) dX8_isOpen_22 kcX8 w_1754 (by decide) (by decide) (s_123 hsh) rfl rfl rfl rfl ?_
      refine k_eqσ (σ' := (k_up σ 123 (k_u1 (σ 123) 7 (1)))) rfl ?_
      refine k_aload_n dX8_isOpen_25 0 rfl rfl (by decide) ?_
      refine k_get (kf := 7) (v := .int (iI (1))) dX8_isOpen_26 kcX8 w_1754 (by decide) (by decide) (s_123 hsh) rfl rfl ?_
      refine k_if_ne (tgt := 45) dX8_isOpen_29 rfl ⟨by decide, by decide⟩ (fun h6 => ?_) (fun h6 => absurd h6 (by decide))
      refine k_iconst (v := 0) dX8_isOpen_45 rfl ?_
      exact k_retzP dX8_isOpen_46 rfl (Or.inl rfl) rfl k_lfF (show k_MA (k_up σ 123 (k_u1 (σ 123) 7 (1))) from ⟨(show k_F0 (k_u1 (σ 123) 7 (1)) from (k_F0_u (hMA).1 (by omega))), (hMA).2.1, (hMA).2.2.1, (hMA).2.2.2.1, (hMA).2.2.2.2.1, (hMA).2.2.2.2.2.1, (hMA).2.2.2.2.2.2.1, (hMA).2.2.2.2.2.2.2.1, (hMA).2.2.2.2.2.2.2.2.1, (hMA).2.2.2.2.2.2.2.2.2.1, (hMA).2.2.2.2.2.2.2.2.2.2.1, (hMA).2.2.2.2.2.2.2.2.2.2.2.1, (hMA).2.2.2.2.2.2.2.2.2.2.2.2⟩)
    · have h5 := zb_n0.mp h5
      refine k_ift (F := (k_pPB sh R_isOpen)) h5 ?_
      refine k_iconst (v := 0) dX8_isOpen_17 rfl ?_
      refine k_goto (tgt := 22) dX8_isOpen_18 rfl ?_
      refine k_putfW (kf := 7) dX8_isOpen_22 kcX8 w_1754 (by decide) (by decide) (s_123 hsh) rfl rfl rfl rfl ?_
      refine k_eqσ (σ' := (k_up σ 123 (k_u1 (σ 123) 7 (0)))) rfl ?_
      refine k_aload_n dX8_isOpen_25 0 rfl rfl (by decide) ?_
      refine k_get (kf := 7) (v := .int (iI (0))) dX8_isOpen_26 kcX8 w_1754 (by decide) (by decide) (s_123 hsh) rfl rfl ?_
      refine k_if_ne (tgt := 45) dX8_isOpen_29 rfl ⟨by decide, by decide⟩ (fun h7 => absurd h7 (by decide)) (fun h7 => ?_)
      refine k_aload_n dX8_isOpen_32 0 rfl rfl (by decide) ?_
      refine k_iload_n dX8_isOpen_33 1 rfl rfl ?_
      refine k_iload_n dX8_isOpen_34 2 rfl rfl ?_
      refine k_callVr (st := []) (as := [.int (iI (s)), .int (iI (b))]) dX8_isOpen_35 oX8_hasOpen w_1928 w_1930 w_42 rfl (by omega) rfl (Nat.le_of_ble_eq_true rfl) (by decide) (s_123 hsh) rfl (c8_hasOpen (σ := (k_up σ 123 (k_u1 (σ 123) 7 (0)))) hsh (hMA).2.1 (by omega) (by omega)) ?_
      refine k_eqst (st' := [.int (iI (zb ((σ 124) (17 + 4 * s + b).toNat = 1)))]) rfl ?_
      refine k_if_eq (tgt := 45) dX8_isOpen_38 rfl (zb_kr _) (fun h9 => ?_) (fun h9 => ?_)
      · have h9 := zb_0.mp h9
        refine k_iff (F := (k_pPB sh R_isOpen)) h9 ?_
        refine k_iconst (v := 0) dX8_isOpen_45 rfl ?_
        exact k_retzP dX8_isOpen_46 rfl (Or.inl rfl) rfl k_lfF (show k_MA (k_up σ 123 (k_u1 (σ 123) 7 (0))) from ⟨(show k_F0 (k_u1 (σ 123) 7 (0)) from (k_F0_u (hMA).1 (by omega))), (hMA).2.1, (hMA).2.2.1, (hMA).2.2.2.1, (hMA).2.2.2.2.1, (hMA).2.2.2.2.2.1, (hMA).2.2.2.2.2.2.1, (hMA).2.2.2.2.2.2.2.1, (hMA).2.2.2.2.2.2.2.2.1, (hMA).2.2.2.2.2.2.2.2.2.1, (hMA).2.2.2.2.2.2.2.2.2.2.1, (hMA).2.2.2.2.2.2.2.2.2.2.2.1, (hMA).2.2.2.2.2.2.2.2.2.2.2.2⟩)
      · have h9 := zb_n0.mp h9
        refine k_ift (F := (k_pPB sh R_isOpen)) h9 ?_
        refine k_iconst (v := 1) dX8_isOpen_41 rfl ?_
        refine k_goto (tgt := 46) dX8_isOpen_42 rfl ?_
        exact k_retzP dX8_isOpen_46 rfl (Or.inr rfl) rfl k_lfT (show k_MA (k_up σ 123 (k_u1 (σ 123) 7 (0))) from ⟨(show k_F0 (k_u1 (σ 123) 7 (0)) from (k_F0_u (hMA).1 (by omega))), (hMA).2.1, (hMA).2.2.1, (hMA).2.2.2.1, (hMA).2.2.2.2.1, (hMA).2.2.2.2.2.1, (hMA).2.2.2.2.2.2.1, (hMA).2.2.2.2.2.2.2.1, (hMA).2.2.2.2.2.2.2.2.1, (hMA).2.2.2.2.2.2.2.2.2.1, (hMA).2.2.2.2.2.2.2.2.2.2.1, (hMA).2.2.2.2.2.2.2.2.2.2.2.1, (hMA).2.2.2.2.2.2.2.2.2.2.2.2⟩)
abbrev R_doClash (t : Bool × (Nat → Nat → Int)) : Prop := k_MA t.2
def m_doClash (σ : Nat → Nat → Int) (s : Int) (o : Int) : Bool × (Nat → Nat → Int) := if (m_wrongPair (σ 124) s o) = 0 then if m_clash (σ 124) s o = true then (true, (k_up σ 123 (k_u1 (σ 123) 7 (m_wrongPair (σ 124) s o)))) else (false, (k_up σ 123 (k_u1 (σ 123) 7 (m_wrongPair (σ 124) s o)))) else (false, (k_up σ 123 (k_u1 (σ 123) 7 (m_wrongPair (σ 124) s o))))
set_option maxRecDepth 100000 in
set_option maxHeartbeats 4000000 in
theorem c8_doClash (hsh : k_Main sh) (hMA : k_MA σ) {s o : Int} (h_s : -2147483648 ≤ s ∧ s < 2147483648) (h_o : -2147483648 ≤ o ∧ o < 2147483648) : k_C E mX8_doClash 5 [.ref 123, .int (iI (s)), .int (iI (o))] sh σ 0 0 ((k_pPB sh R_doClash) (m_doClash σ s o)) := by
  refine k_C_of (ls0 := [(0, .ref 123), (1, .int (iI (s))), (2, .int (iI (o)))]) rfl pnX8 (fun v hv => k_cat1 rfl hv) (Nat.le_of_ble_eq_true rfl) rfl ?_
  obtain ⟨⟨t0, t0b⟩, ⟨t1, t1b⟩, ⟨t2, t2b⟩, ⟨t3, t3b⟩, -⟩ := id hMA.2.1
  obtain ⟨⟨f6_0, g6_0⟩, ⟨f6_1, g6_1⟩, ⟨f6_2, g6_2⟩, ⟨f6_3, g6_3⟩, ⟨f6_4, g6_4⟩, ⟨f6_5, g6_5⟩, ⟨f6_6, g6_6⟩, ⟨f6_7, g6_7⟩, ⟨f6_8, g6_8⟩, ⟨f6_9, g6_9⟩, ⟨f6_10, g6_10⟩, ⟨f6_11, g6_11⟩, ⟨f6_12, g6_12⟩, ⟨f6_13, g6_13⟩⟩ := id hMA.1
  unfold m_doClash
  refine k_aload_n dX8_doClash_0 0 rfl rfl (by decide) ?_
  refine k_aload_n dX8_doClash_1 0 rfl rfl (by decide) ?_
  refine k_iload_n dX8_doClash_2 1 rfl rfl ?_
  refine k_iload_n dX8_doClash_3 2 rfl rfl ?_
  refine k_callVrP (st := [.ref 123]) (as := [.int (iI (s)), .int (iI (o))]) dX8_doClash_4 oX8_wrongPair w_2192 w_2194 w_74 rfl (by omega) rfl (Nat.le_of_ble_eq_true rfl) (by decide) (s_123 hsh) rfl (c8_wrongPair hsh (hMA).2.1 (by omega) (by omega)) (fun z1 => ?_)
  have z1 : 0 ≤ m_wrongPair (σ 124) s o ∧ m_wrongPair (σ 124) s o ≤ 2 := z1
  refine k_putfW (kf := 7) dX8_doClash_7 kcX8 w_1754 (by decide) (by decide) (s_123 hsh) rfl rfl rfl rfl ?_
  refine k_eqσ (σ' := (k_up σ 123 (k_u1 (σ 123) 7 (m_wrongPair (σ 124) s o)))) rfl ?_
  refine k_aload_n dX8_doClash_10 0 rfl rfl (by decide) ?_
  refine k_get (kf := 7) (v := .int (iI (m_wrongPair (σ 124) s o))) dX8_doClash_11 kcX8 w_1754 (by decide) (by decide) (s_123 hsh) rfl rfl ?_
  refine k_if_ne (tgt := 30) dX8_doClash_14 rfl ⟨by omega, by omega⟩ (fun h2 => ?_) (fun h2 => ?_)
  · refine k_iff (F := (k_pPB sh R_doClash)) h2 ?_
    refine k_iconst (v := 0) dX8_doClash_30 rfl ?_
    exact k_retzP dX8_doClash_31 rfl (Or.inl rfl) rfl k_lfF (show k_MA (k_up σ 123 (k_u1 (σ 123) 7 (m_wrongPair (σ 124) s o))) from ⟨(show k_F0 (k_u1 (σ 123) 7 (m_wrongPair (σ 124) s o)) from (k_F0_u (hMA).1 (by omega))), (hMA).2.1, (hMA).2.2.1, (hMA).2.2.2.1, (hMA).2.2.2.2.1, (hMA).2.2.2.2.2.1, (hMA).2.2.2.2.2.2.1, (hMA).2.2.2.2.2.2.2.1, (hMA).2.2.2.2.2.2.2.2.1, (hMA).2.2.2.2.2.2.2.2.2.1, (hMA).2.2.2.2.2.2.2.2.2.2.1, (hMA).2.2.2.2.2.2.2.2.2.2.2.1, (hMA).2.2.2.2.2.2.2.2.2.2.2.2⟩)
  · refine k_ift (F := (k_pPB sh R_doClash)) h2 ?_
    have y3 := m_wp0 h2
    refine k_aload_n dX8_doClash_17 0 rfl rfl (by decide) ?_
    refine k_iload_n dX8_doClash_18 1 rfl rfl ?_
    refine k_iload_n dX8_doClash_19 2 rfl rfl ?_
    refine k_callVrP (st := []) (as := [.int (iI (s)), .int (iI (o))]) dX8_doClash_20 oX8_clash w_2204 w_2206 w_76 rfl (by omega) rfl (Nat.le_of_ble_eq_true rfl) (by decide) (s_123 hsh) rfl (c8_clash (σ := (k_up σ 123 (k_u1 (σ 123) 7 (m_wrongPair (σ 124) s o)))) hsh (hMA).2.1 (by omega) (by omega)) (fun z4 => ?_)
    refine k_eqst (st' := [.int (iI (zb (m_clash (σ 124) s o = true)))]) rfl ?_
    refine k_if_eq (tgt := 30) dX8_doClash_23 rfl (zb_kr _) (fun h5 => ?_) (fun h5 => ?_)
    · have h5 := zb_0.mp h5
      refine k_iff (F := (k_pPB sh R_doClash)) h5 ?_
      refine k_iconst (v := 0) dX8_doClash_30 rfl ?_
      exact k_retzP dX8_doClash_31 rfl (Or.inl rfl) rfl k_lfF (show k_MA (k_up σ 123 (k_u1 (σ 123) 7 (m_wrongPair (σ 124) s o))) from ⟨(show k_F0 (k_u1 (σ 123) 7 (m_wrongPair (σ 124) s o)) from (k_F0_u (hMA).1 (by omega))), (hMA).2.1, (hMA).2.2.1, (hMA).2.2.2.1, (hMA).2.2.2.2.1, (hMA).2.2.2.2.2.1, (hMA).2.2.2.2.2.2.1, (hMA).2.2.2.2.2.2.2.1, (hMA).2.2.2.2.2.2.2.2.1, (hMA).2.2.2.2.2.2.2.2.2.1, (hMA).2.2.2.2.2.2.2.2.2.2.1, (hMA).2.2.2.2.2.2.2.2.2.2.2.1, (hMA).2.2.2.2.2.2.2.2.2.2.2.2⟩)
    · have h5 := zb_n0.mp h5
      refine k_ift (F := (k_pPB sh R_doClash)) h5 ?_
      refine k_iconst (v := 1) dX8_doClash_26 rfl ?_
      refine k_goto (tgt := 31) dX8_doClash_27 rfl ?_
      exact k_retzP dX8_doClash_31 rfl (Or.inr rfl) rfl k_lfT (show k_MA (k_up σ 123 (k_u1 (σ 123) 7 (m_wrongPair (σ 124) s o))) from ⟨(show k_F0 (k_u1 (σ 123) 7 (m_wrongPair (σ 124) s o)) from (k_F0_u (hMA).1 (by omega))), (hMA).2.1, (hMA).2.2.1, (hMA).2.2.2.1, (hMA).2.2.2.2.1, (hMA).2.2.2.2.2.1, (hMA).2.2.2.2.2.2.1, (hMA).2.2.2.2.2.2.2.1, (hMA).2.2.2.2.2.2.2.2.1, (hMA).2.2.2.2.2.2.2.2.2.1, (hMA).2.2.2.2.2.2.2.2.2.2.1, (hMA).2.2.2.2.2.2.2.2.2.2.2.1, (hMA).2.2.2.2.2.2.2.2.2.2.2.2⟩)
abbrev R_clashCount (t : Int × (Nat → Nat → Int)) : Prop := (-1 ≤ t.1 ∧ t.1 ≤ 1000) ∧ k_MA t.2
def r_clashCount_4 (σ : Nat → Nat → Int) (x4 : Int) : Int × (Nat → Nat → Int) := (x4, (k_up σ 123 (k_u1 (σ 123) 7 (0))))
def r_clashCount_16 (σ : Nat → Nat → Int) (i4 : Nat) (x4 : Int) (x16 : Int) : Int := x16
def r_clashCount_32 (σ : Nat → Nat → Int) (i4 : Nat) (x4 : Int) (i16 : Nat) (x16 : Int) (x32 : Int) : Int := x32
def b_clashCount_32 (σ : Nat → Nat → Int) (i4 : Nat) (x4 : Int) (i16 : Nat) (x16 : Int) (i32 : Nat) (x32 : Int) : Int := if m_clash (σ 124) ((σ 124) (57 + 3 * (i4 : Int) + (i32 : Int)).toNat) ((σ 124) (57 + 3 * (i4 : Int) + (i16 : Int)).toNat) = true then x32 + 1 else x32 + 0
def b_clashCount_16 (σ : Nat → Nat → Int) (i4 : Nat) (x4 : Int) (i16 : Nat) (x16 : Int) : Int := (r_clashCount_32 σ i4 x4 i16 x16) (k_it (b_clashCount_32 σ i4 x4 i16 x16) (((i16 : Int)).toNat) 0 (x16))
def b_clashCount_4 (σ : Nat → Nat → Int) (i4 : Nat) (x4 : Int) : Int := (r_clashCount_16 σ i4 x4) (k_it (b_clashCount_16 σ i4 x4) (((σ 124) (45 + ((i4 : Int))).toNat).toNat) 0 (x4))
def m_clashCount (σ : Nat → Nat → Int) : Int × (Nat → Nat → Int) := (r_clashCount_4 σ) (k_it (b_clashCount_4 σ) (((σ 124) 2).toNat) 0 (0))
set_option maxRecDepth 100000 in
set_option maxHeartbeats 4000000 in
theorem c8_clashCount (hsh : k_Main sh) (hMA : k_MA σ)  : k_C E mX8_clashCount 4 [.ref 123] sh σ 0 0 ((k_pP sh R_clashCount) (m_clashCount σ)) := by
  refine k_C_of (ls0 := [(0, .ref 123)]) rfl pnX8 (fun v hv => k_cat1 rfl hv) (Nat.le_of_ble_eq_true rfl) rfl ?_
  obtain ⟨⟨t0, t0b⟩, ⟨t1, t1b⟩, ⟨t2, t2b⟩, ⟨t3, t3b⟩, -⟩ := id hMA.2.1
  obtain ⟨⟨f19_0, g19_0⟩, ⟨f19_1, g19_1⟩, ⟨f19_2, g19_2⟩, ⟨f19_3, g19_3⟩, ⟨f19_4, g19_4⟩, ⟨f19_5, g19_5⟩, ⟨f19_6, g19_6⟩, ⟨f19_7, g19_7⟩, ⟨f19_8, g19_8⟩, ⟨f19_9, g19_9⟩, ⟨f19_10, g19_10⟩, ⟨f19_11, g19_11⟩, ⟨f19_12, g19_12⟩, ⟨f19_13, g19_13⟩⟩ := id hMA.1
  unfold m_clashCount
  refine k_iconst (v := 0) dX8_clashCount_0 rfl ?_
  refine k_istore_n (ls' := [(0, .ref 123), (1, .int (iI (0)))]) dX8_clashCount_1 rfl (by decide) rfl rfl ?_
  refine k_iconst (v := 0) dX8_clashCount_2 rfl ?_
  refine k_istore_n (ls' := [(0, .ref 123), (1, .int (iI (0))), (2, .int (iI (0)))]) dX8_clashCount_3 rfl (by decide) rfl rfl ?_
  refine k_loop (α := Int) (P := fun (i4 : Nat) (x4 : Int) Q => k_V E mX8_clashCount _ 4 [(0, .ref 123), (1, .int (iI (x4))), (2, .int (iI ((i4 : Int))))] [] sh σ _ _ Q) (J := fun (i4 : Nat) (x4 : Int) => 0 ≤ x4 ∧ x4 ≤ 9 * (i4 : Int)) (((σ 124) 2).toNat) (b_clashCount_4 σ) (0) (F := fun t => (k_pP sh R_clashCount) ((r_clashCount_4 σ) t)) (show 0 ≤ (0 : Int) ∧ (0 : Int) ≤ 9 * ((0 : Nat) : Int) from by omega) ?_ ?_
  · intro x4 hJ4
    have hJ4 : 0 ≤ x4 ∧ x4 ≤ 9 * ((((σ 124) 2).toNat : Nat) : Int) := hJ4
    have hU4 := hJ4
    show k_V E mX8_clashCount _ 4 [(0, .ref 123), (1, .int (iI (x4))), (2, .int (iI (((((σ 124) 2).toNat : Nat) : Int))))] [] sh σ _ _ ((k_pP sh R_clashCount) ((r_clashCount_4 σ) x4))
    unfold r_clashCount_4
    refine k_iload_n dX8_clashCount_4 2 rfl rfl ?_
    refine k_aload_n dX8_clashCount_5 0 rfl rfl (by decide) ?_
    refine k_get (kf := 0) (v := .ref 124) dX8_clashCount_6 kcX8 w_1747 (by decide) (by decide) (s_123 hsh) rfl rfl ?_
    refine k_iconst (v := 2) dX8_clashCount_9 rfl ?_
    refine k_iald dX8_clashCount_10 (by decide) (s_124 hsh) (by omega) (by omega) (by decide) ?_
    refine k_eqst (st' := [.int (iI ((σ 124) 2)), .int (iI (((((σ 124) 2).toNat : Nat) : Int)))]) rfl ?_
    refine k_icmp_ge (tgt := 84) dX8_clashCount_11 rfl ⟨by omega, by omega⟩ ⟨by omega, by omega⟩ (fun h2 => ?_) (fun h2 => absurd h2 (by omega))
    refine k_aload_n dX8_clashCount_84 0 rfl rfl (by decide) ?_
    refine k_iload_n dX8_clashCount_85 1 rfl rfl ?_
    refine k_callVr (st := []) (as := [.int (iI (x4))]) dX8_clashCount_86 oX8_tells w_1854 w_1856 w_32 rfl (by omega) rfl (Nat.le_of_ble_eq_true rfl) (by decide) (s_123 hsh) rfl (c8_tells hsh) ?_
    refine k_eqσ (σ' := (k_up σ 123 (k_u1 (σ 123) 7 (0)))) ((show k_up σ 123 (k_u1 (σ 123) 7 (0)) = (k_up σ 123 (k_u1 (σ 123) 7 (0))) from rfl)).symm ?_
    exact k_retiP dX8_clashCount_89 rfl rfl rfl (show (-1 ≤ x4 ∧ x4 ≤ 1000) ∧ k_MA (k_up σ 123 (k_u1 (σ 123) 7 (0))) from ⟨by omega, ⟨(show k_F0 (k_u1 (σ 123) 7 (0)) from (k_F0_u (hMA).1 (by omega))), (hMA).2.1, (hMA).2.2.1, (hMA).2.2.2.1, (hMA).2.2.2.2.1, (hMA).2.2.2.2.2.1, (hMA).2.2.2.2.2.2.1, (hMA).2.2.2.2.2.2.2.1, (hMA).2.2.2.2.2.2.2.2.1, (hMA).2.2.2.2.2.2.2.2.2.1, (hMA).2.2.2.2.2.2.2.2.2.2.1, (hMA).2.2.2.2.2.2.2.2.2.2.2.1, (hMA).2.2.2.2.2.2.2.2.2.2.2.2⟩⟩)
  · intro n4 i4 x4 hi4 hJ4 ih4
    have hJ4 : 0 ≤ x4 ∧ x4 ≤ 9 * (i4 : Int) := hJ4
    have hU4 := hJ4
    show k_V E mX8_clashCount _ 4 [(0, .ref 123), (1, .int (iI (x4))), (2, .int (iI ((i4 : Int))))] [] sh σ _ _ ((fun t => (k_pP sh R_clashCount) ((r_clashCount_4 σ) (k_it (b_clashCount_4 σ) n4 (i4 + 1) t))) ((b_clashCount_4 σ) i4 x4))
    unfold b_clashCount_4
    refine k_iload_n dX8_clashCount_4 2 rfl rfl ?_
    refine k_aload_n dX8_clashCount_5 0 rfl rfl (by decide) ?_
    refine k_get (kf := 0) (v := .ref 124) dX8_clashCount_6 kcX8 w_1747 (by decide) (by decide) (s_123 hsh) rfl rfl ?_
    refine k_iconst (v := 2) dX8_clashCount_9 rfl ?_
    refine k_iald dX8_clashCount_10 (by decide) (s_124 hsh) (by omega) (by omega) (by decide) ?_
    refine k_eqst (st' := [.int (iI ((σ 124) 2)), .int (iI ((i4 : Int)))]) rfl ?_
    refine k_icmp_ge (tgt := 84) dX8_clashCount_11 rfl ⟨by omega, by omega⟩ ⟨by omega, by omega⟩ (fun h4 => absurd h4 (by omega)) (fun h4 => ?_)
    refine k_iconst (v := 0) dX8_clashCount_14 rfl ?_
    refine k_istore_n (ls' := [(0, .ref 123), (1, .int (iI (x4))), (2, .int (iI ((i4 : Int)))), (3, .int (iI (0)))]) dX8_clashCount_15 rfl (by decide) rfl rfl ?_
    refine k_loop (α := Int) (P := fun (i16 : Nat) (x16 : Int) Q => k_V E mX8_clashCount _ 16 [(0, .ref 123), (1, .int (iI (x16))), (2, .int (iI ((i4 : Int)))), (3, .int (iI ((i16 : Int))))] [] sh σ _ _ Q) (J := fun (i16 : Nat) (x16 : Int) => 0 ≤ x16 ∧ x16 ≤ 9 * (i4 : Int) + 3 * (i16 : Int)) (((σ 124) (45 + ((i4 : Int))).toNat).toNat) (b_clashCount_16 σ i4 x4) (x4) (F := fun t => (fun t => (k_pP sh R_clashCount) ((r_clashCount_4 σ) (k_it (b_clashCount_4 σ) n4 (i4 + 1) t))) ((r_clashCount_16 σ i4 x4) t)) (show 0 ≤ x4 ∧ x4 ≤ 9 * (i4 : Int) + 3 * ((0 : Nat) : Int) from by omega) ?_ ?_
    · intro x16 hJ16
      have hJ16 : 0 ≤ x16 ∧ x16 ≤ 9 * (i4 : Int) + 3 * ((((σ 124) (45 + ((i4 : Int))).toNat).toNat : Nat) : Int) := hJ16
      have hU16 := hJ16
      show k_V E mX8_clashCount _ 16 [(0, .ref 123), (1, .int (iI (x16))), (2, .int (iI ((i4 : Int)))), (3, .int (iI (((((σ 124) (45 + ((i4 : Int))).toNat).toNat : Nat) : Int))))] [] sh σ _ _ ((fun t => (k_pP sh R_clashCount) ((r_clashCount_4 σ) (k_it (b_clashCount_4 σ) n4 (i4 + 1) t))) ((r_clashCount_16 σ i4 x4) x16))
      unfold r_clashCount_16
      refine k_iload_n dX8_clashCount_16 3 rfl rfl ?_
      refine k_aload_n dX8_clashCount_17 0 rfl rfl (by decide) ?_
      refine k_get (kf := 0) (v := .ref 124) dX8_clashCount_18 kcX8 w_1747 (by decide) (by decide) (s_123 hsh) rfl rfl ?_
      refine k_bipush (v := 45) dX8_clashCount_21 (by decide) ?_
      refine k_iload_n dX8_clashCount_23 2 rfl rfl ?_
      refine k_iadd dX8_clashCount_24 ?_
      refine k_iald dX8_clashCount_25 (by decide) (s_124 hsh) (by omega) (by omega) (by decide) ?_
      have q6 := k_Mo_many (hMA).2.1 (x := 45 + ((i4 : Int))) (by omega) (by omega)
      refine k_icmp_ge (tgt := 78) dX8_clashCount_26 rfl ⟨by omega, by omega⟩ ⟨by omega, by omega⟩ (fun h7 => ?_) (fun h7 => absurd h7 (by omega))
      refine k_iinc (ls' := [(0, .ref 123), (1, .int (iI (x16))), (2, .int (iI ((i4 : Int) + 1))), (3, .int (iI (((((σ 124) (45 + ((i4 : Int))).toNat).toNat : Nat) : Int))))]) dX8_clashCount_78 2 rfl (by decide) rfl rfl ?_
      refine k_goto (tgt := 4) dX8_clashCount_81 rfl ?_
      refine k_dropr (ls' := [(0, .ref 123), (1, .int (iI (x16))), (2, .int (iI ((i4 : Int) + 1)))]) (ex := [(3, .int (iI (((((σ 124) (45 + ((i4 : Int))).toNat).toNat : Nat) : Int))))]) rfl ?_
      exact ih4 (x16) (show 0 ≤ x16 ∧ x16 ≤ 9 * ((i4 + 1 : Nat) : Int) from by omega)
    · intro n16 i16 x16 hi16 hJ16 ih16
      have hJ16 : 0 ≤ x16 ∧ x16 ≤ 9 * (i4 : Int) + 3 * (i16 : Int) := hJ16
      have hU16 := hJ16
      show k_V E mX8_clashCount _ 16 [(0, .ref 123), (1, .int (iI (x16))), (2, .int (iI ((i4 : Int)))), (3, .int (iI ((i16 : Int))))] [] sh σ _ _ ((fun t => (fun t => (k_pP sh R_clashCount) ((r_clashCount_4 σ) (k_it (b_clashCount_4 σ) n4 (i4 + 1) t))) ((r_clashCount_16 σ i4 x4) (k_it (b_clashCount_16 σ i4 x4) n16 (i16 + 1) t))) ((b_clashCount_16 σ i4 x4) i16 x16))
      unfold b_clashCount_16
      refine k_iload_n dX8_clashCount_16 3 rfl rfl ?_
      refine k_aload_n dX8_clashCount_17 0 rfl rfl (by decide) ?_
      refine k_get (kf := 0) (v := .ref 124) dX8_clashCount_18 kcX8 w_1747 (by decide) (by decide) (s_123 hsh) rfl rfl ?_
      refine k_bipush (v := 45) dX8_clashCount_21 (by decide) ?_
      refine k_iload_n dX8_clashCount_23 2 rfl rfl ?_
      refine k_iadd dX8_clashCount_24 ?_
      refine k_iald dX8_clashCount_25 (by decide) (s_124 hsh) (by omega) (by omega) (by decide) ?_
      have q8 := k_Mo_many (hMA).2.1 (x := 45 + ((i4 : Int))) (by omega) (by omega)
      refine k_icmp_ge (tgt := 78) dX8_clashCount_26 rfl ⟨by omega, by omega⟩ ⟨by omega, by omega⟩ (fun h9 => absurd h9 (by omega)) (fun h9 => ?_)
      refine k_iconst (v := 0) dX8_clashCount_29 rfl ?_
      refine k_istore (ls' := [(0, .ref 123), (1, .int (iI (x16))), (2, .int (iI ((i4 : Int)))), (3, .int (iI ((i16 : Int)))), (4, .int (iI (0)))]) dX8_clashCount_30 (by decide) rfl rfl ?_
      refine k_loop (α := Int) (P := fun (i32 : Nat) (x32 : Int) Q => k_V E mX8_clashCount _ 32 [(0, .ref 123), (1, .int (iI (x32))), (2, .int (iI ((i4 : Int)))), (3, .int (iI ((i16 : Int)))), (4, .int (iI ((i32 : Int))))] [] sh σ _ _ Q) (J := fun (i32 : Nat) (x32 : Int) => 0 ≤ x32 ∧ x32 ≤ 9 * (i4 : Int) + 3 * (i16 : Int) + (i32 : Int)) (((i16 : Int)).toNat) (b_clashCount_32 σ i4 x4 i16 x16) (x16) (F := fun t => (fun t => (fun t => (k_pP sh R_clashCount) ((r_clashCount_4 σ) (k_it (b_clashCount_4 σ) n4 (i4 + 1) t))) ((r_clashCount_16 σ i4 x4) (k_it (b_clashCount_16 σ i4 x4) n16 (i16 + 1) t))) ((r_clashCount_32 σ i4 x4 i16 x16) t)) (show 0 ≤ x16 ∧ x16 ≤ 9 * (i4 : Int) + 3 * (i16 : Int) + ((0 : Nat) : Int) from by omega) ?_ ?_
      · intro x32 hJ32
        have hJ32 : 0 ≤ x32 ∧ x32 ≤ 9 * (i4 : Int) + 3 * (i16 : Int) + ((((i16 : Int)).toNat : Nat) : Int) := hJ32
        have hU32 := hJ32
        show k_V E mX8_clashCount _ 32 [(0, .ref 123), (1, .int (iI (x32))), (2, .int (iI ((i4 : Int)))), (3, .int (iI ((i16 : Int)))), (4, .int (iI (((((i16 : Int)).toNat : Nat) : Int))))] [] sh σ _ _ ((fun t => (fun t => (k_pP sh R_clashCount) ((r_clashCount_4 σ) (k_it (b_clashCount_4 σ) n4 (i4 + 1) t))) ((r_clashCount_16 σ i4 x4) (k_it (b_clashCount_16 σ i4 x4) n16 (i16 + 1) t))) ((r_clashCount_32 σ i4 x4 i16 x16) x32))
        unfold r_clashCount_32
        refine k_iload dX8_clashCount_32 4 rfl ?_
        refine k_iload_n dX8_clashCount_34 3 rfl rfl ?_
        refine k_icmp_ge (tgt := 72) dX8_clashCount_35 rfl ⟨by omega, by omega⟩ ⟨by omega, by omega⟩ (fun h11 => ?_) (fun h11 => absurd h11 (by omega))
        refine k_iinc (ls' := [(0, .ref 123), (1, .int (iI (x32))), (2, .int (iI ((i4 : Int)))), (3, .int (iI ((i16 : Int) + 1))), (4, .int (iI (((((i16 : Int)).toNat : Nat) : Int))))]) dX8_clashCount_72 3 rfl (by decide) rfl rfl ?_
        refine k_goto (tgt := 16) dX8_clashCount_75 rfl ?_
        refine k_dropr (ls' := [(0, .ref 123), (1, .int (iI (x32))), (2, .int (iI ((i4 : Int)))), (3, .int (iI ((i16 : Int) + 1)))]) (ex := [(4, .int (iI (((((i16 : Int)).toNat : Nat) : Int))))]) rfl ?_
        exact ih16 (x32) (show 0 ≤ x32 ∧ x32 ≤ 9 * (i4 : Int) + 3 * ((i16 + 1 : Nat) : Int) from by omega)
      · intro n32 i32 x32 hi32 hJ32 ih32
        have hJ32 : 0 ≤ x32 ∧ x32 ≤ 9 * (i4 : Int) + 3 * (i16 : Int) + (i32 : Int) := hJ32
        have hU32 := hJ32
        show k_V E mX8_clashCount _ 32 [(0, .ref 123), (1, .int (iI (x32))), (2, .int (iI ((i4 : Int)))), (3, .int (iI ((i16 : Int)))), (4, .int (iI ((i32 : Int))))] [] sh σ _ _ ((fun t => (fun t => (fun t => (k_pP sh R_clashCount) ((r_clashCount_4 σ) (k_it (b_clashCount_4 σ) n4 (i4 + 1) t))) ((r_clashCount_16 σ i4 x4) (k_it (b_clashCount_16 σ i4 x4) n16 (i16 + 1) t))) ((r_clashCount_32 σ i4 x4 i16 x16) (k_it (b_clashCount_32 σ i4 x4 i16 x16) n32 (i32 + 1) t))) ((b_clashCount_32 σ i4 x4 i16 x16) i32 x32))
        unfold b_clashCount_32
        refine k_iload dX8_clashCount_32 4 rfl ?_
        refine k_iload_n dX8_clashCount_34 3 rfl rfl ?_
        refine k_icmp_ge (tgt := 72) dX8_clashCount_35 rfl ⟨by omega, by omega⟩ ⟨by omega, by omega⟩ (fun h12 => absurd h12 (by omega)) (fun h12 => ?_)
        refine k_iload_n dX8_clashCount_38 1 rfl rfl ?_
        refine k_aload_n dX8_clashCount_39 0 rfl rfl (by decide) ?_
        refine k_aload_n dX8_clashCount_40 0 rfl rfl (by decide) ?_
        refine k_iload_n dX8_clashCount_41 2 rfl rfl ?_
        refine k_iload dX8_clashCount_42 4 rfl ?_
        refine k_callVr (st := [.ref 123, .int (iI (x32))]) (as := [.int (iI ((i4 : Int))), .int (iI ((i32 : Int)))]) dX8_clashCount_44 oX8_wish w_2000 w_2002 w_51 rfl (by omega) rfl (Nat.le_of_ble_eq_true rfl) (by decide) (s_123 hsh) rfl (c8_wish (σ := σ) hsh (hMA).2.1 (by omega) (by omega)) ?_
        have q13 := k_Mo_wish (hMA).2.1 (x := 57 + 3 * (i4 : Int) + (i32 : Int)) (by omega) (by omega)
        refine k_aload_n dX8_clashCount_47 0 rfl rfl (by decide) ?_
        refine k_iload_n dX8_clashCount_48 2 rfl rfl ?_
        refine k_iload_n dX8_clashCount_49 3 rfl rfl ?_
        refine k_callVr (st := [.int (iI ((σ 124) (57 + 3 * (i4 : Int) + (i32 : Int)).toNat)), .ref 123, .int (iI (x32))]) (as := [.int (iI ((i4 : Int))), .int (iI ((i16 : Int)))]) dX8_clashCount_50 oX8_wish w_2000 w_2002 w_51 rfl (by omega) rfl (Nat.le_of_ble_eq_true rfl) (by decide) (s_123 hsh) rfl (c8_wish (σ := σ) hsh (hMA).2.1 (by omega) (by omega)) ?_
        have q15 := k_Mo_wish (hMA).2.1 (x := 57 + 3 * (i4 : Int) + (i16 : Int)) (by omega) (by omega)
        refine k_callVrP (st := [.int (iI (x32))]) (as := [.int (iI ((σ 124) (57 + 3 * (i4 : Int) + (i32 : Int)).toNat)), .int (iI ((σ 124) (57 + 3 * (i4 : Int) + (i16 : Int)).toNat))]) dX8_clashCount_53 oX8_clash w_2204 w_2206 w_76 rfl (by omega) rfl (Nat.le_of_ble_eq_true rfl) (by decide) (s_123 hsh) rfl (c8_clash hsh (hMA).2.1 (by omega) (by omega)) (fun z17 => ?_)
        refine k_if_eq (tgt := 63) dX8_clashCount_56 rfl (zb_kr _) (fun h18 => ?_) (fun h18 => ?_)
        · have h18 := zb_0.mp h18
          refine k_iff (F := (fun t => (fun t => (fun t => (k_pP sh R_clashCount) ((r_clashCount_4 σ) (k_it (b_clashCount_4 σ) n4 (i4 + 1) t))) ((r_clashCount_16 σ i4 x4) (k_it (b_clashCount_16 σ i4 x4) n16 (i16 + 1) t))) ((r_clashCount_32 σ i4 x4 i16 x16) (k_it (b_clashCount_32 σ i4 x4 i16 x16) n32 (i32 + 1) t)))) h18 ?_
          refine k_iconst (v := 0) dX8_clashCount_63 rfl ?_
          refine k_iadd dX8_clashCount_64 ?_
          refine k_istore_n (ls' := [(0, .ref 123), (1, .int (iI (x32 + 0))), (2, .int (iI ((i4 : Int)))), (3, .int (iI ((i16 : Int)))), (4, .int (iI ((i32 : Int))))]) dX8_clashCount_65 rfl (by decide) rfl rfl ?_
          refine k_iinc (ls' := [(0, .ref 123), (1, .int (iI (x32 + 0))), (2, .int (iI ((i4 : Int)))), (3, .int (iI ((i16 : Int)))), (4, .int (iI ((i32 : Int) + 1)))]) dX8_clashCount_66 4 rfl (by decide) rfl rfl ?_
          refine k_goto (tgt := 32) dX8_clashCount_69 rfl ?_
          exact ih32 (x32 + 0) (show 0 ≤ x32 + 0 ∧ x32 + 0 ≤ 9 * (i4 : Int) + 3 * (i16 : Int) + ((i32 + 1 : Nat) : Int) from by omega)
        · have h18 := zb_n0.mp h18
          refine k_ift (F := (fun t => (fun t => (fun t => (k_pP sh R_clashCount) ((r_clashCount_4 σ) (k_it (b_clashCount_4 σ) n4 (i4 + 1) t))) ((r_clashCount_16 σ i4 x4) (k_it (b_clashCount_16 σ i4 x4) n16 (i16 + 1) t))) ((r_clashCount_32 σ i4 x4 i16 x16) (k_it (b_clashCount_32 σ i4 x4 i16 x16) n32 (i32 + 1) t)))) h18 ?_
          refine k_iconst (v := 1) dX8_clashCount_59 rfl ?_
          refine k_goto (tgt := 64) dX8_clashCount_60 rfl ?_
          refine k_iadd dX8_clashCount_64 ?_
          refine k_istore_n (ls' := [(0, .ref 123), (1, .int (iI (x32 + 1))), (2, .int (iI ((i4 : Int)))), (3, .int (iI ((i16 : Int)))), (4, .int (iI ((i32 : Int))))]) dX8_clashCount_65 rfl (by decide) rfl rfl ?_
          refine k_iinc (ls' := [(0, .ref 123), (1, .int (iI (x32 + 1))), (2, .int (iI ((i4 : Int)))), (3, .int (iI ((i16 : Int)))), (4, .int (iI ((i32 : Int) + 1)))]) dX8_clashCount_66 4 rfl (by decide) rfl rfl ?_
          refine k_goto (tgt := 32) dX8_clashCount_69 rfl ?_
          exact ih32 (x32 + 1) (show 0 ≤ x32 + 1 ∧ x32 + 1 ≤ 9 * (i4 : Int) + 3 * (i16 : Int) + ((i32 + 1 : Nat) : Int) from by omega)
abbrev R_undo (t : Int × (Nat → Nat → Int)) : Prop := (-1 ≤ t.1 ∧ t.1 ≤ 1000) ∧ k_MA t.2
def r_undo_25 (σ : Nat → Nat → Int) (x25 : (Nat → Int)) : Int × (Nat → Nat → Int) := (((σ 123) 5) - 1, (k_up (k_up σ 123 (k_u1 (k_u1 (σ 123) 5 (((σ 123) 5) - 1)) 7 (0))) 124 x25))
def b_undo_25 (σ : Nat → Nat → Int) (i25 : Nat) (x25 : (Nat → Int)) : (Nat → Int) := (k_u1 x25 ((i25 : Int)).toNat ((σ 128) ((153 * (((σ 123) 5) - 1)) + ((i25 : Int))).toNat))
def m_undo (σ : Nat → Nat → Int) : Int × (Nat → Nat → Int) := if ((σ 123) 5) = 0 then (0, (k_up σ 123 (k_u1 (σ 123) 7 (1)))) else (r_undo_25 σ) (k_it (b_undo_25 σ) (153) 0 ((σ 124)))
set_option maxRecDepth 100000 in
set_option maxHeartbeats 4000000 in
theorem c8_undo (hsh : k_Main sh) (hMA : k_MA σ)  (hU : ∀ u : Nat, (u : Int) < σ 123 5 → k_Mo (fun j => σ 128 (153 * u + j))) : k_C E mX8_undo 3 [.ref 123] sh σ 0 0 ((k_pP sh R_undo) (m_undo σ)) := by
  refine k_C_of (ls0 := [(0, .ref 123)]) rfl pnX8 (fun v hv => k_cat1 rfl hv) (Nat.le_of_ble_eq_true rfl) rfl ?_
  obtain ⟨⟨t0, t0b⟩, ⟨t1, t1b⟩, ⟨t2, t2b⟩, ⟨t3, t3b⟩, -⟩ := id hMA.2.1
  obtain ⟨⟨f7_0, g7_0⟩, ⟨f7_1, g7_1⟩, ⟨f7_2, g7_2⟩, ⟨f7_3, g7_3⟩, ⟨f7_4, g7_4⟩, ⟨f7_5, g7_5⟩, ⟨f7_6, g7_6⟩, ⟨f7_7, g7_7⟩, ⟨f7_8, g7_8⟩, ⟨f7_9, g7_9⟩, ⟨f7_10, g7_10⟩, ⟨f7_11, g7_11⟩, ⟨f7_12, g7_12⟩, ⟨f7_13, g7_13⟩⟩ := id hMA.1
  unfold m_undo
  refine k_aload_n dX8_undo_0 0 rfl rfl (by decide) ?_
  refine k_get (kf := 5) (v := .int (iI ((σ 123) 5))) dX8_undo_1 kcX8 w_1752 (by decide) (by decide) (s_123 hsh) rfl rfl ?_
  refine k_if_ne (tgt := 13) dX8_undo_4 rfl ⟨by omega, by omega⟩ (fun h1 => ?_) (fun h1 => ?_)
  · refine k_iff (F := (k_pP sh R_undo)) h1 ?_
    refine k_aload_n dX8_undo_13 0 rfl rfl (by decide) ?_
    refine k_dup dX8_undo_14 rfl ?_
    refine k_get (kf := 5) (v := .int (iI ((σ 123) 5))) dX8_undo_15 kcX8 w_1752 (by decide) (by decide) (s_123 hsh) rfl rfl ?_
    refine k_iconst (v := 1) dX8_undo_18 rfl ?_
    refine k_isub dX8_undo_19 ?_
    refine k_putfW (kf := 5) dX8_undo_20 kcX8 w_1752 (by decide) (by decide) (s_123 hsh) rfl rfl rfl rfl ?_
    refine k_eqσ (σ' := (k_up σ 123 (k_u1 (σ 123) 5 (((σ 123) 5) - 1)))) rfl ?_
    refine k_iconst (v := 0) dX8_undo_23 rfl ?_
    refine k_istore_n (ls' := [(0, .ref 123), (1, .int (iI (0)))]) dX8_undo_24 rfl (by decide) rfl rfl ?_
    refine k_eqσ (σ' := (k_up (k_up σ 123 (k_u1 (σ 123) 5 (((σ 123) 5) - 1))) 124 (σ 124))) ((show k_up (k_up σ 123 (k_u1 (σ 123) 5 (((σ 123) 5) - 1))) 124 (σ 124) = (k_up (k_up σ 123 (k_u1 (σ 123) 5 (((σ 123) 5) - 1))) 124 (σ 124)) from rfl).symm.trans (k_up_self _ _)) ?_
    refine k_loop (α := (Nat → Int)) (P := fun (i25 : Nat) (x25 : (Nat → Int)) Q => k_V E mX8_undo _ 25 [(0, .ref 123), (1, .int (iI ((i25 : Int))))] [] sh (k_up (k_up σ 123 (k_u1 (σ 123) 5 (((σ 123) 5) - 1))) 124 x25) _ _ Q) (J := fun (i25 : Nat) (x25 : (Nat → Int)) => (k_Mo x25)) (153) (b_undo_25 σ) ((σ 124)) (F := fun t => (k_pP sh R_undo) ((r_undo_25 σ) t)) (show (k_Mo (σ 124)) from (hMA).2.1) ?_ ?_
    · intro x25 hJ25
      have hJ25 : (k_Mo x25) := hJ25
      have hW25_124 := hJ25
      show k_V E mX8_undo _ 25 [(0, .ref 123), (1, .int (iI (((153 : Nat) : Int))))] [] sh (k_up (k_up σ 123 (k_u1 (σ 123) 5 (((σ 123) 5) - 1))) 124 x25) _ _ ((k_pP sh R_undo) ((r_undo_25 σ) x25))
      unfold r_undo_25
      refine k_iload_n dX8_undo_25 1 rfl rfl ?_
      refine k_sipush (v := 153) dX8_undo_26 (by decide) ?_
      refine k_icmp_ge (tgt := 59) dX8_undo_29 rfl ⟨by omega, by omega⟩ ⟨by decide, by decide⟩ (fun h3 => ?_) (fun h3 => absurd h3 (by omega))
      refine k_aload_n dX8_undo_59 0 rfl rfl (by decide) ?_
      refine k_aload_n dX8_undo_60 0 rfl rfl (by decide) ?_
      refine k_get (kf := 5) (v := .int (iI (((σ 123) 5) - 1))) dX8_undo_61 kcX8 w_1752 (by decide) (by decide) (s_123 hsh) rfl rfl ?_
      refine k_callVr (st := []) (as := [.int (iI (((σ 123) 5) - 1))]) dX8_undo_64 oX8_tells w_1854 w_1856 w_32 rfl (by omega) rfl (Nat.le_of_ble_eq_true rfl) (by decide) (s_123 hsh) rfl (c8_tells hsh) ?_
      refine k_eqσ (σ' := (k_up (k_up σ 123 (k_u1 (k_u1 (σ 123) 5 (((σ 123) 5) - 1)) 7 (0))) 124 x25)) ((show k_up (k_up (k_up σ 123 (k_u1 (σ 123) 5 (((σ 123) 5) - 1))) 124 x25) 123 (k_u1 (k_u1 (σ 123) 5 (((σ 123) 5) - 1)) 7 (0)) = (k_up (k_up σ 123 (k_u1 (k_u1 (σ 123) 5 (((σ 123) 5) - 1)) 7 (0))) 124 x25) from ((k_up_comm (by decide)).trans (congrArg (fun s => k_up s 124 _) k_up_up)))).symm ?_
      exact k_retiP dX8_undo_67 rfl rfl rfl (show (-1 ≤ ((σ 123) 5) - 1 ∧ ((σ 123) 5) - 1 ≤ 1000) ∧ k_MA (k_up (k_up σ 123 (k_u1 (k_u1 (σ 123) 5 (((σ 123) 5) - 1)) 7 (0))) 124 x25) from ⟨by omega, ⟨(show k_F0 (k_u1 (k_u1 (σ 123) 5 (((σ 123) 5) - 1)) 7 (0)) from (k_F0_u (show k_F0 (k_u1 (σ 123) 5 (((σ 123) 5) - 1)) from (k_F0_u (hMA).1 (by omega))) (by omega))), hW25_124, (hMA).2.2.1, (hMA).2.2.2.1, (hMA).2.2.2.2.1, (hMA).2.2.2.2.2.1, (hMA).2.2.2.2.2.2.1, (hMA).2.2.2.2.2.2.2.1, (hMA).2.2.2.2.2.2.2.2.1, (hMA).2.2.2.2.2.2.2.2.2.1, (hMA).2.2.2.2.2.2.2.2.2.2.1, (hMA).2.2.2.2.2.2.2.2.2.2.2.1, (hMA).2.2.2.2.2.2.2.2.2.2.2.2⟩⟩)
    · intro n25 i25 x25 hi25 hJ25 ih25
      have hJ25 : (k_Mo x25) := hJ25
      have hW25_124 := hJ25
      show k_V E mX8_undo _ 25 [(0, .ref 123), (1, .int (iI ((i25 : Int))))] [] sh (k_up (k_up σ 123 (k_u1 (σ 123) 5 (((σ 123) 5) - 1))) 124 x25) _ _ ((fun t => (k_pP sh R_undo) ((r_undo_25 σ) (k_it (b_undo_25 σ) n25 (i25 + 1) t))) ((b_undo_25 σ) i25 x25))
      unfold b_undo_25
      refine k_iload_n dX8_undo_25 1 rfl rfl ?_
      refine k_sipush (v := 153) dX8_undo_26 (by decide) ?_
      refine k_icmp_ge (tgt := 59) dX8_undo_29 rfl ⟨by omega, by omega⟩ ⟨by decide, by decide⟩ (fun h5 => absurd h5 (by omega)) (fun h5 => ?_)
      refine k_aload_n dX8_undo_32 0 rfl rfl (by decide) ?_
      refine k_get (kf := 0) (v := .ref 124) dX8_undo_33 kcX8 w_1747 (by decide) (by decide) (s_123 hsh) rfl rfl ?_
      refine k_iload_n dX8_undo_36 1 rfl rfl ?_
      refine k_aload_n dX8_undo_37 0 rfl rfl (by decide) ?_
      refine k_get (kf := 4) (v := .ref 128) dX8_undo_38 kcX8 w_1751 (by decide) (by decide) (s_123 hsh) rfl rfl ?_
      refine k_sipush (v := 153) dX8_undo_41 (by decide) ?_
      refine k_aload_n dX8_undo_44 0 rfl rfl (by decide) ?_
      refine k_get (kf := 5) (v := .int (iI (((σ 123) 5) - 1))) dX8_undo_45 kcX8 w_1752 (by decide) (by decide) (s_123 hsh) rfl rfl ?_
      refine k_imul dX8_undo_48 ?_
      refine k_iload_n dX8_undo_49 1 rfl rfl ?_
      refine k_iadd dX8_undo_50 ?_
      refine k_iald dX8_undo_51 (by decide) (s_128 hsh) (by omega) (by omega) (by decide) ?_
      refine k_eqst (st' := [.int (iI ((σ 128) ((153 * (((σ 123) 5) - 1)) + ((i25 : Int))).toNat)), .int (iI ((i25 : Int))), .ref 124]) rfl ?_
      refine k_iastW dX8_undo_52 (by decide) (s_124 hsh) (by omega) (by omega) (by decide) ?_
      refine k_eqσ (σ' := (k_up (k_up σ 123 (k_u1 (σ 123) 5 (((σ 123) 5) - 1))) 124 (k_u1 x25 ((i25 : Int)).toNat ((σ 128) ((153 * (((σ 123) 5) - 1)) + ((i25 : Int))).toNat)))) (show k_up (k_up (k_up σ 123 (k_u1 (σ 123) 5 (((σ 123) 5) - 1))) 124 x25) 124 (k_u1 x25 ((i25 : Int)).toNat ((σ 128) ((153 * (((σ 123) 5) - 1)) + ((i25 : Int))).toNat)) = _ from k_up_up).symm ?_
      refine k_iinc (ls' := [(0, .ref 123), (1, .int (iI ((i25 : Int) + 1)))]) dX8_undo_53 1 rfl (by decide) rfl rfl ?_
      refine k_goto (tgt := 25) dX8_undo_56 rfl ?_
      exact ih25 ((k_u1 x25 ((i25 : Int)).toNat ((σ 128) ((153 * (((σ 123) 5) - 1)) + ((i25 : Int))).toNat))) (show (k_Mo (k_u1 x25 ((i25 : Int)).toNat ((σ 128) ((153 * (((σ 123) 5) - 1)) + ((i25 : Int))).toNat))) from (show k_Mo (k_u1 x25 ((i25 : Int)).toNat ((σ 128) ((153 * (((σ 123) 5) - 1)) + ((i25 : Int))).toNat)) from (k_Mo_mixU hW25_124 (hU (σ 123 5 - 1).toNat (by omega)) (by omega))))
  · refine k_ift (F := (k_pP sh R_undo)) h1 ?_
    refine k_aload_n dX8_undo_7 0 rfl rfl (by decide) ?_
    refine k_iconst (v := 1) dX8_undo_8 rfl ?_
    refine k_callVr (st := []) (as := [.int (iI (1))]) dX8_undo_9 oX8_fails w_1850 w_1852 w_31 rfl (by omega) rfl (Nat.le_of_ble_eq_true rfl) (by decide) (s_123 hsh) rfl (c8_fails hsh) ?_
    refine k_eqσ (σ' := (k_up σ 123 (k_u1 (σ 123) 7 (1)))) ((show k_up σ 123 (k_u1 (σ 123) 7 (1)) = (k_up σ 123 (k_u1 (σ 123) 7 (1))) from rfl)).symm ?_
    exact k_retiP dX8_undo_12 rfl rfl rfl (show (-1 ≤ (0 : Int) ∧ (0 : Int) ≤ 1000) ∧ k_MA (k_up σ 123 (k_u1 (σ 123) 7 (1))) from ⟨by omega, ⟨(show k_F0 (k_u1 (σ 123) 7 (1)) from (k_F0_u (hMA).1 (by omega))), (hMA).2.1, (hMA).2.2.1, (hMA).2.2.2.1, (hMA).2.2.2.2.1, (hMA).2.2.2.2.2.1, (hMA).2.2.2.2.2.2.1, (hMA).2.2.2.2.2.2.2.1, (hMA).2.2.2.2.2.2.2.2.1, (hMA).2.2.2.2.2.2.2.2.2.1, (hMA).2.2.2.2.2.2.2.2.2.2.1, (hMA).2.2.2.2.2.2.2.2.2.2.2.1, (hMA).2.2.2.2.2.2.2.2.2.2.2.2⟩⟩)
end K_M4
