/-! ===== THE LAW: a chain made backwards ===== -/
section P_J1
variable {E : k_E} {sh : List k_Sh} {σ τ : Nat → Nat → Int} {r x0 M P : Nat → Int} {p s : Int} {m0 mm e A : Nat}
def p_Pre (sh sh' : List k_Sh) : Prop := ∀ (i : Nat) (x : k_Sh), sh[i]? = some x → sh'[i]? = some x
theorem p_upup (σ : Nat → Nat → Int) (N : Nat) (f g : Nat → Int) : k_up (k_up σ N f) N g = k_up σ N g := by
  funext i
  unfold k_up
  split <;> rfl
theorem p_upu (σ : Nat → Nat → Int) (N : Nat) (f : Nat → Int) (j : Nat) (v : Int) : k_up σ N (k_u1 f j v) = k_up (k_up σ N f) N (k_u1 (k_up σ N f N) j v) := by
  rw [p_upup, k_up_same]
set_option maxHeartbeats 8000000 in
theorem c_leadsBack (hS : p_Sh sh m0) (hm : m0 < 800) (hJ : p_J σ) (hLB : p_LB r σ p s mm e M P x0) (hA : sh[A]? = some (.inl (0, (4 * σ 1 2).toNat))) (hc : ∀ j : Nat, j < (4 * σ 1 2).toNat → σ A j = r (105 + j)) (hrr : ∀ j : Nat, j < (4 * σ 1 2).toNat → -1 ≤ r (105 + j) ∧ r (105 + j) < 7) : k_C E mL_leadsBack 18 [.ref 0, .int (iI (p)), .int (iI (s)), .int (iI ((mm : Int))), .ref A] sh σ 300 1800 (k_rj (some (.int (iI 1))) (fun sh' σ' => p_Sh sh' (m0 + 1) ∧ p_Pre sh sh' ∧ ∀ i, i < sh.length → σ' i = σ i)) := by
  refine k_C_of (ls0 := [(0, .ref 0), (1, .int (iI (p))), (2, .int (iI (s))), (3, .int (iI ((mm : Int)))), (4, .ref A)]) rfl pnL (fun v hv => k_cat1 rfl hv) (Nat.le_of_ble_eq_true rfl) rfl ?_
  have hsh := p_Sh_main hS
  have hsh1 := p_Sh_main (p_Sh_push hS (4 * σ 1 2).toNat)
  have hl0 := p_Sh_len hS
  have hI := hJ.1.1.1
  obtain ⟨j0, j1, j2⟩ := p_J_rg hJ
  have hAl := (List.getElem?_eq_some_iff.mp hA).1
  obtain ⟨hpth, ⟨⟨hm3, he4⟩, heb⟩, ⟨hpM, hpe, hno⟩, ⟨⟨hr2, hp⟩, hs⟩, hx, hrow, h7, h8, h9⟩ := id hLB
  refine k_aload_n dL_leadsBack_0 0 rfl rfl (by decide) ?_
  refine k_less (k' := 200 + (100)) (n' := 1200 + (600)) (by omega) (by omega) ?_
  refine p_callA (k1 := 200) (n1 := 1200) (k := 100) (n := 600) (st := []) (as := [.ref 0]) dL_leadsBack_1 oL_tables rfl w_p1058 w_p1059 (by decide) rfl (Nat.le_of_ble_eq_true rfl) (c_tables hS (by omega) hJ) (k_okl_l (Or.inl (by show (0 : Nat) < _; omega)) (k_okl_l True.intro (k_okl_l True.intro (k_okl_l True.intro (k_okl_l (Or.inl (by show (A : Nat) < _; omega)) k_okl_0))))) ?_
  refine k_astore (ls' := [(0, .ref 0), (1, .int (iI (p))), (2, .int (iI (s))), (3, .int (iI ((mm : Int)))), (4, .ref A), (5, .ref sh.length)]) dL_leadsBack_4 (by omega) (by decide) rfl rfl ?_
  refine k_iconst (v := (-1)) dL_leadsBack_6 rfl ?_
  refine k_istore (ls' := [(0, .ref 0), (1, .int (iI (p))), (2, .int (iI (s))), (3, .int (iI ((mm : Int)))), (4, .ref A), (5, .ref sh.length), (6, .int (iI (-1)))]) dL_leadsBack_7 (by decide) rfl rfl ?_
  refine k_iconst (v := 0) dL_leadsBack_9 rfl ?_
  refine k_istore (ls' := [(0, .ref 0), (1, .int (iI (p))), (2, .int (iI (s))), (3, .int (iI ((mm : Int)))), (4, .ref A), (5, .ref sh.length), (6, .int (iI (-1))), (7, .int (iI (0)))]) dL_leadsBack_10 (by decide) rfl rfl ?_
  refine k_less (k' := 1 * ((σ 1 1).toNat - 0) + 30) (n' := 6 * ((σ 1 1).toNat - 0) + 180) (by omega) (by omega) ?_
  refine k_down (P := fun i12 : Nat => k_V E mL_leadsBack _ 12 [(0, .ref 0), (1, .int (iI (p))), (2, .int (iI (s))), (3, .int (iI ((mm : Int)))), (4, .ref A), (5, .ref sh.length), (6, .int (iI ((if e < i12 then (e : Int) else -1)))), (7, .int (iI ((i12 : Int))))] [] (sh ++ [.inl (0, (4 * σ 1 2).toNat)]) (k_up σ sh.length (p_Tn σ (4 * σ 1 2).toNat)) (1 * ((σ 1 1).toNat - i12) + 30) (6 * ((σ 1 1).toNat - i12) + 180) _) ((σ 1 1).toNat) ?_ ?_
  · refine k_less (k' := 30) (n' := 180) (by omega) (by omega) ?_
    refine k_iload dL_leadsBack_12 7 rfl ?_
    refine k_aload_n dL_leadsBack_14 0 rfl rfl (by decide) ?_
    have hbc := d_blockCount (E := E) hsh1 (p_J_up (f := p_Tn σ (4 * σ 1 2).toNat) hJ hl0.1)
    rw [k_up_ne (show (1 : Nat) ≠ sh.length by omega)] at hbc
    refine k_less (k' := 1 + (29)) (n' := 6 + (174)) (by omega) (by omega) ?_
    refine p_callV (k1 := 1) (n1 := 6) (k := 29) (n := 174) (st := [.int (iI ((((σ 1 1).toNat : Nat) : Int)))]) (as := []) dL_leadsBack_15 oX7_blockCount rfl w_p914 w_406 w_407 (by decide) rfl (Nat.le_of_ble_eq_true rfl) (by decide) (s_0 hsh1) rfl (hbc) ?_
    refine k_icmp_ge (tgt := 49) dL_leadsBack_18 rfl ⟨by omega, by omega⟩ ⟨by omega, by omega⟩ (fun h_1 => ?_) (fun h_1 => absurd h_1 (by omega))
    refine k_lrw (q := 6) (j := 6) (a' := (e : Int)) (ls' := [(0, .ref 0), (1, .int (iI (p))), (2, .int (iI (s))), (3, .int (iI ((mm : Int)))), (4, .ref A), (5, .ref sh.length), (6, .int (iI ((e : Int)))), (7, .int (iI ((((σ 1 1).toNat : Nat) : Int))))]) rfl (if_pos (by omega)) rfl ?_
    refine k_iload dL_leadsBack_49 6 rfl ?_
    refine k_if_lt (tgt := 84) dL_leadsBack_51 rfl ⟨by omega, by omega⟩ (fun h_2 => absurd h_2 (by omega)) (fun h_2 => ?_)
    refine k_aload_n dL_leadsBack_54 0 rfl rfl (by decide) ?_
    have hcm := v_chainMoves (E := E) hsh1 (p_J_up (f := p_Tn σ (4 * σ 1 2).toNat) hJ hl0.1) (by rw [k_up_ne (show (1 : Nat) ≠ sh.length by omega), h7]; omega)
    rw [k_up_ne (show (1 : Nat) ≠ sh.length by omega), h7] at hcm
    refine k_less (k' := 1 + (28)) (n' := 6 + (168)) (by omega) (by omega) ?_
    refine p_callW (k1 := 1) (n1 := 6) (k := 28) (n := 168) (st := []) (as := [.ref 0]) dL_leadsBack_55 oL_chainMoves rfl w_p1082 w_1247 (by decide) rfl (Nat.le_of_ble_eq_true rfl) (hcm) ?_
    refine k_iload_n dL_leadsBack_58 3 rfl rfl ?_
    refine k_icmp_ne (tgt := 84) dL_leadsBack_59 rfl ⟨by omega, by omega⟩ ⟨by omega, by omega⟩ (fun h_3 => absurd h_3 (by omega)) (fun h_3 => ?_)
    refine k_aload_n dL_leadsBack_62 0 rfl rfl (by decide) ?_
    refine k_iload_n dL_leadsBack_63 3 rfl rfl ?_
    refine k_less (k' := 1 + (27)) (n' := 6 + (162)) (by omega) (by omega) ?_
    refine p_callW (k1 := 1) (n1 := 6) (k := 27) (n := 162) (st := []) (as := [.ref 0, .int (iI ((mm : Int)))]) dL_leadsBack_64 oL_chainPupil rfl w_p1089 w_1254 (by decide) rfl (Nat.le_of_ble_eq_true rfl) (v_chainPupilX hsh1 (p_J_up (f := p_Tn σ (4 * σ 1 2).toNat) hJ hl0.1) (by rw [k_up_ne (show (1 : Nat) ≠ sh.length by omega), h7]; omega) ⟨by omega, by omega⟩) ?_
    refine k_sipush (v := (-1001)) dL_leadsBack_67 (by decide) ?_
    refine k_icmp_ne (tgt := 84) dL_leadsBack_70 rfl ⟨by decide, by decide⟩ ⟨by decide, by decide⟩ (fun h_4 => absurd h_4 (by decide)) (fun h_4 => ?_)
    refine k_aload_n dL_leadsBack_73 0 rfl rfl (by decide) ?_
    refine k_iconst (v := (-1)) dL_leadsBack_74 rfl ?_
    refine k_less (k' := 1 + (26)) (n' := 6 + (156)) (by omega) (by omega) ?_
    refine p_callW (k1 := 1) (n1 := 6) (k := 26) (n := 156) (st := []) (as := [.ref 0, .int (iI (-1))]) dL_leadsBack_75 oL_chainBlock rfl w_p1096 w_1261 (by decide) rfl (Nat.le_of_ble_eq_true rfl) (v_chainBlockX hsh1 (p_J_up (f := p_Tn σ (4 * σ 1 2).toNat) hJ hl0.1) (by omega) ⟨by decide, by decide⟩) ?_
    refine k_sipush (v := (-1001)) dL_leadsBack_78 (by decide) ?_
    refine k_icmp_eq (tgt := 86) dL_leadsBack_81 rfl ⟨by decide, by decide⟩ ⟨by decide, by decide⟩ (fun h_5 => ?_) (fun h_5 => absurd h_5 (by decide))
    refine k_aload dL_leadsBack_86 5 rfl (by omega) ?_
    refine k_iconst (v := 4) dL_leadsBack_88 rfl ?_
    refine k_iload_n dL_leadsBack_89 1 rfl rfl ?_
    refine k_imul dL_leadsBack_90 ?_
    refine k_iload dL_leadsBack_91 6 rfl ?_
    refine k_iadd dL_leadsBack_93 ?_
    refine k_iconst (v := (-1)) dL_leadsBack_94 rfl ?_
    refine k_iast (w := (4 * σ 1 2).toNat) dL_leadsBack_95 (by omega) (p_last _ _) (by omega) (by omega) (by omega) ?_
    refine k_eqσ (σ' := k_up σ sh.length (k_u1 (p_Tn σ (4 * σ 1 2).toNat) (4 * p + (e : Int)).toNat (-1))) (p_upu _ _ _ _ _) ?_
    refine k_iload dL_leadsBack_96 6 rfl ?_
    refine k_istore (ls' := [(0, .ref 0), (1, .int (iI (p))), (2, .int (iI (s))), (3, .int (iI ((mm : Int)))), (4, .ref A), (5, .ref sh.length), (6, .int (iI ((e : Int)))), (7, .int (iI ((e : Int))))]) dL_leadsBack_98 (by decide) rfl rfl ?_
    refine k_iconst (v := 0) dL_leadsBack_100 rfl ?_
    refine k_istore (ls' := [(0, .ref 0), (1, .int (iI (p))), (2, .int (iI (s))), (3, .int (iI ((mm : Int)))), (4, .ref A), (5, .ref sh.length), (6, .int (iI ((e : Int)))), (7, .int (iI ((e : Int)))), (8, .int (iI (0)))]) dL_leadsBack_101 (by decide) rfl rfl ?_
    refine k_lrw (q := 7) (j := 7) (a' := P 0) (ls' := [(0, .ref 0), (1, .int (iI (p))), (2, .int (iI (s))), (3, .int (iI ((mm : Int)))), (4, .ref A), (5, .ref sh.length), (6, .int (iI ((e : Int)))), (7, .int (iI (P 0))), (8, .int (iI (0)))]) rfl (h9.symm) rfl ?_
    have hb0 := p_BI_0 hpth hx (p := p) (e := (e : Int)) (by omega) ⟨by omega, by omega⟩ hpM hpe (f := p_Tn σ (4 * σ 1 2).toNat) (fun j hj => (if_pos (by omega)).trans (p_T_row hrow hI (by omega)))
    refine k_less (k' := 2 * (mm - 0) + 0) (n' := 12 * (mm - 0) + 0) (by omega) (by omega) ?_
    refine k_down (P := fun i103 : Nat => ∀ f, p_BI r M P s mm i103 f → k_V E mL_leadsBack _ 103 [(0, .ref 0), (1, .int (iI (p))), (2, .int (iI (s))), (3, .int (iI ((mm : Int)))), (4, .ref A), (5, .ref sh.length), (6, .int (iI ((e : Int)))), (7, .int (iI (P i103))), (8, .int (iI ((i103 : Int))))] [] (sh ++ [.inl (0, (4 * σ 1 2).toNat)]) (k_up σ sh.length f) (2 * (mm - i103) + 0) (12 * (mm - i103) + 0) _) (mm) ?_ ?_ _ hb0
    · intro f hf
      refine k_less (k' := 0) (n' := 0) (by omega) (by omega) ?_
      refine k_iload dL_leadsBack_103 8 rfl ?_
      refine k_iload_n dL_leadsBack_105 3 rfl rfl ?_
      refine k_icmp_ge (tgt := 203) dL_leadsBack_106 rfl ⟨by omega, by omega⟩ ⟨by omega, by omega⟩ (fun h_6 => ?_) (fun h_6 => absurd h_6 (by omega))
      have hend := fun (j : Nat) (hj : (j : Int) < 4 * r 2) => p_BI_m hf hj
      refine k_aload dL_leadsBack_203 5 rfl (by omega) ?_
      refine k_aload dL_leadsBack_205 4 rfl (by omega) ?_
      refine k_less (k' := 0 + (0)) (n' := 0 + (0)) (by omega) (by omega) ?_
      refine p_callS (k1 := 0) (n1 := 0) (k := 0) (n := 0) (st := []) (as := [.ref sh.length, .ref A]) dL_leadsBack_207 oL_same rfl w_p1069 w_p1070 (by decide) rfl (Nat.le_of_ble_eq_true rfl) (c_same (A := sh.length) (B := A) (W := (4 * σ 1 2).toNat) (p_last _ _) (p_before hA) ⟨⟨by omega, by omega⟩, by omega⟩ (fun j hj => by rw [k_up_same, hend j (by omega)]; have := hrr j hj; omega) (fun j hj => by rw [k_up_same, k_up_ne (show A ≠ sh.length by omega), hend j (by omega), hc j hj])) ?_
      exact k_ret_z dL_leadsBack_210 rfl (k_nar_z (Or.inr rfl)) ⟨rfl, p_Sh_push hS _, fun i x hx => p_before hx, fun i hi => k_up_ne (by omega)⟩
    · intro i103 hi103 ih103
      intro f hf
      refine k_less (k' := 2 + (2 * (mm - (i103 + 1)) + 0)) (n' := 12 + (12 * (mm - (i103 + 1)) + 0)) (by omega) (by omega) ?_
      refine k_iload dL_leadsBack_103 8 rfl ?_
      refine k_iload_n dL_leadsBack_105 3 rfl rfl ?_
      refine k_icmp_ge (tgt := 203) dL_leadsBack_106 rfl ⟨by omega, by omega⟩ ⟨by omega, by omega⟩ (fun h_7 => absurd h_7 (by omega)) (fun h_7 => ?_)
      obtain ⟨hv1, hv2, hv3⟩ := p_BI_s hpth (show i103 < mm by omega) hf
      have hm1 := (hpth.2.2.1 i103 (by omega)).1
      have hp0 := hpth.1 i103 (by omega)
      have hp1 := hpth.1 (i103 + 1) (by omega)
      have hpk := hpM i103 (by omega)
      refine k_aload_n dL_leadsBack_109 0 rfl rfl (by decide) ?_
      refine k_iload dL_leadsBack_110 8 rfl ?_
      have hcp := v_chainPupil (E := E) hsh1 (p_J_up (f := f) hJ hl0.1) (m := (i103 : Int)) (by rw [k_up_ne (show (1 : Nat) ≠ sh.length by omega), h7]; omega)
      rw [k_up_ne (show (8 : Nat) ≠ sh.length by omega), Int.toNat_natCast, (h8 i103 (by omega)).1] at hcp
      refine k_less (k' := 1 + (1 + (2 * (mm - (i103 + 1)) + 0))) (n' := 6 + (6 + (12 * (mm - (i103 + 1)) + 0))) (by omega) (by omega) ?_
      refine p_callW (k1 := 1) (n1 := 6) (k := 1 + (2 * (mm - (i103 + 1)) + 0)) (n := 6 + (12 * (mm - (i103 + 1)) + 0)) (st := []) (as := [.ref 0, .int (iI ((i103 : Int)))]) dL_leadsBack_112 oL_chainPupil rfl w_p1089 w_1254 (by decide) rfl (Nat.le_of_ble_eq_true rfl) (hcp) ?_
      refine k_istore (ls' := [(0, .ref 0), (1, .int (iI (p))), (2, .int (iI (s))), (3, .int (iI ((mm : Int)))), (4, .ref A), (5, .ref sh.length), (6, .int (iI ((e : Int)))), (7, .int (iI (P i103))), (8, .int (iI ((i103 : Int)))), (9, .int (iI (M i103)))]) dL_leadsBack_115 (by decide) rfl rfl ?_
      refine k_aload_n dL_leadsBack_117 0 rfl rfl (by decide) ?_
      refine k_iload dL_leadsBack_118 8 rfl ?_
      have hcb := v_chainBlock (E := E) hsh1 (p_J_up (f := f) hJ hl0.1) (m := (i103 : Int)) (by rw [k_up_ne (show (1 : Nat) ≠ sh.length by omega), h7]; omega)
      rw [k_up_ne (show (9 : Nat) ≠ sh.length by omega), Int.toNat_natCast, (h8 i103 (by omega)).2] at hcb
      refine k_less (k' := 1 + (2 * (mm - (i103 + 1)) + 0)) (n' := 6 + (12 * (mm - (i103 + 1)) + 0)) (by omega) (by omega) ?_
      refine p_callW (k1 := 1) (n1 := 6) (k := 2 * (mm - (i103 + 1)) + 0) (n := 12 * (mm - (i103 + 1)) + 0) (st := []) (as := [.ref 0, .int (iI ((i103 : Int)))]) dL_leadsBack_120 oL_chainBlock rfl w_p1096 w_1261 (by decide) rfl (Nat.le_of_ble_eq_true rfl) (hcb) ?_
      refine k_istore (ls' := [(0, .ref 0), (1, .int (iI (p))), (2, .int (iI (s))), (3, .int (iI ((mm : Int)))), (4, .ref A), (5, .ref sh.length), (6, .int (iI ((e : Int)))), (7, .int (iI (P i103))), (8, .int (iI ((i103 : Int)))), (9, .int (iI (M i103))), (10, .int (iI (P (i103 + 1))))]) dL_leadsBack_123 (by decide) rfl rfl ?_
      refine k_iload dL_leadsBack_125 9 rfl ?_
      refine k_if_lt (tgt := 169) dL_leadsBack_127 rfl ⟨by omega, by omega⟩ (fun h_8 => absurd h_8 (by omega)) (fun h_8 => ?_)
      refine k_iload dL_leadsBack_130 9 rfl ?_
      refine k_iload_n dL_leadsBack_132 1 rfl rfl ?_
      refine k_icmp_eq (tgt := 169) dL_leadsBack_133 rfl ⟨by omega, by omega⟩ ⟨by omega, by omega⟩ (fun h_9 => absurd h_9 (by omega)) (fun h_9 => ?_)
      refine k_iload dL_leadsBack_136 10 rfl ?_
      refine k_if_lt (tgt := 169) dL_leadsBack_138 rfl ⟨by omega, by omega⟩ (fun h_10 => absurd h_10 (by omega)) (fun h_10 => ?_)
      refine k_aload dL_leadsBack_141 5 rfl (by omega) ?_
      refine k_iconst (v := 4) dL_leadsBack_143 rfl ?_
      refine k_iload dL_leadsBack_144 9 rfl ?_
      refine k_imul dL_leadsBack_146 ?_
      refine k_iload dL_leadsBack_147 10 rfl ?_
      refine k_iadd dL_leadsBack_149 ?_
      refine k_iald (w := (4 * σ 1 2).toNat) dL_leadsBack_150 (by omega) (p_last _ _) (by omega) (by omega) (by omega) ?_
      refine k_eqst (congrArg (fun z : Int => Value.int (iI z) :: []) (show s = (k_up σ sh.length f) sh.length ((4 * (M i103)) + (P (i103 + 1))).toNat from by rw [k_up_same]; exact hv1.symm)) ?_
      refine k_iload_n dL_leadsBack_151 2 rfl rfl ?_
      refine k_icmp_ne (tgt := 169) dL_leadsBack_152 rfl ⟨by omega, by omega⟩ ⟨by omega, by omega⟩ (fun h_11 => absurd h_11 (by omega)) (fun h_11 => ?_)
      refine k_aload dL_leadsBack_155 5 rfl (by omega) ?_
      refine k_iconst (v := 4) dL_leadsBack_157 rfl ?_
      refine k_iload dL_leadsBack_158 9 rfl ?_
      refine k_imul dL_leadsBack_160 ?_
      refine k_iload dL_leadsBack_161 7 rfl ?_
      refine k_iadd dL_leadsBack_163 ?_
      refine k_iald (w := (4 * σ 1 2).toNat) dL_leadsBack_164 (by omega) (p_last _ _) (by omega) (by omega) (by omega) ?_
      refine k_eqst (congrArg (fun z : Int => Value.int (iI z) :: []) (show -1 = (k_up σ sh.length f) sh.length ((4 * (M i103)) + (P i103)).toNat from by rw [k_up_same]; exact hv2.symm)) ?_
      refine k_iconst (v := (-1)) dL_leadsBack_165 rfl ?_
      refine k_icmp_eq (tgt := 171) dL_leadsBack_166 rfl ⟨by decide, by decide⟩ ⟨by decide, by decide⟩ (fun h_12 => ?_) (fun h_12 => absurd h_12 (by decide))
      refine k_aload dL_leadsBack_171 5 rfl (by omega) ?_
      refine k_iconst (v := 4) dL_leadsBack_173 rfl ?_
      refine k_iload dL_leadsBack_174 9 rfl ?_
      refine k_imul dL_leadsBack_176 ?_
      refine k_iload dL_leadsBack_177 10 rfl ?_
      refine k_iadd dL_leadsBack_179 ?_
      refine k_iconst (v := (-1)) dL_leadsBack_180 rfl ?_
      refine k_iast (w := (4 * σ 1 2).toNat) dL_leadsBack_181 (by omega) (p_last _ _) (by omega) (by omega) (by omega) ?_
      refine k_eqσ (σ' := (k_up σ sh.length (k_u1 f (4 * M i103 + P (i103 + 1)).toNat (-1)))) (p_upu _ _ _ _ _) ?_
      refine k_aload dL_leadsBack_182 5 rfl (by omega) ?_
      refine k_iconst (v := 4) dL_leadsBack_184 rfl ?_
      refine k_iload dL_leadsBack_185 9 rfl ?_
      refine k_imul dL_leadsBack_187 ?_
      refine k_iload dL_leadsBack_188 7 rfl ?_
      refine k_iadd dL_leadsBack_190 ?_
      refine k_iload_n dL_leadsBack_191 2 rfl rfl ?_
      refine k_iast (w := (4 * σ 1 2).toNat) dL_leadsBack_192 (by omega) (p_last _ _) (by omega) (by omega) (by omega) ?_
      refine k_eqσ (σ' := (k_up σ sh.length (p_bk M P s i103 f))) (p_upu _ _ _ _ _) ?_
      refine k_iload dL_leadsBack_193 10 rfl ?_
      refine k_istore (ls' := [(0, .ref 0), (1, .int (iI (p))), (2, .int (iI (s))), (3, .int (iI ((mm : Int)))), (4, .ref A), (5, .ref sh.length), (6, .int (iI ((e : Int)))), (7, .int (iI (P (i103 + 1)))), (8, .int (iI ((i103 : Int)))), (9, .int (iI (M i103))), (10, .int (iI (P (i103 + 1))))]) dL_leadsBack_195 (by decide) rfl rfl ?_
      refine k_iinc (ls' := [(0, .ref 0), (1, .int (iI (p))), (2, .int (iI (s))), (3, .int (iI ((mm : Int)))), (4, .ref A), (5, .ref sh.length), (6, .int (iI ((e : Int)))), (7, .int (iI (P (i103 + 1)))), (8, .int (iI ((i103 : Int) + 1))), (9, .int (iI (M i103))), (10, .int (iI (P (i103 + 1))))]) dL_leadsBack_197 8 rfl (by decide) rfl rfl ?_
      refine k_goto (tgt := 103) dL_leadsBack_200 rfl ?_
      refine k_dropr (ls' := [(0, .ref 0), (1, .int (iI (p))), (2, .int (iI (s))), (3, .int (iI ((mm : Int)))), (4, .ref A), (5, .ref sh.length), (6, .int (iI ((e : Int)))), (7, .int (iI (P (i103 + 1)))), (8, .int (iI ((i103 : Int) + 1)))]) (ex := [(9, .int (iI (M i103))), (10, .int (iI (P (i103 + 1))))]) rfl ?_
      refine k_lrw (q := 8) (j := 8) (a' := ((i103 + 1 : Nat) : Int)) (ls' := [(0, .ref 0), (1, .int (iI (p))), (2, .int (iI (s))), (3, .int (iI ((mm : Int)))), (4, .ref A), (5, .ref sh.length), (6, .int (iI ((e : Int)))), (7, .int (iI (P (i103 + 1)))), (8, .int (iI (((i103 + 1 : Nat) : Int))))]) rfl (by omega) rfl ?_
      refine k_less (k' := 2 * (mm - (i103 + 1)) + 0) (n' := 12 * (mm - (i103 + 1)) + 0) (by omega) (by omega) ?_
      exact ih103 _ hv3
  · intro i12 hi12 ih12
    refine k_less (k' := 1 + (1 * ((σ 1 1).toNat - (i12 + 1)) + 30)) (n' := 6 + (6 * ((σ 1 1).toNat - (i12 + 1)) + 180)) (by omega) (by omega) ?_
    refine k_iload dL_leadsBack_12 7 rfl ?_
    refine k_aload_n dL_leadsBack_14 0 rfl rfl (by decide) ?_
    have hbc := d_blockCount (E := E) hsh1 (p_J_up (f := p_Tn σ (4 * σ 1 2).toNat) hJ hl0.1)
    rw [k_up_ne (show (1 : Nat) ≠ sh.length by omega)] at hbc
    refine k_less (k' := 1 + (1 * ((σ 1 1).toNat - (i12 + 1)) + 30)) (n' := 6 + (6 * ((σ 1 1).toNat - (i12 + 1)) + 180)) (by omega) (by omega) ?_
    refine p_callV (k1 := 1) (n1 := 6) (k := 1 * ((σ 1 1).toNat - (i12 + 1)) + 30) (n := 6 * ((σ 1 1).toNat - (i12 + 1)) + 180) (st := [.int (iI ((i12 : Int)))]) (as := []) dL_leadsBack_15 oX7_blockCount rfl w_p914 w_406 w_407 (by decide) rfl (Nat.le_of_ble_eq_true rfl) (by decide) (s_0 hsh1) rfl (hbc) ?_
    refine k_icmp_ge (tgt := 49) dL_leadsBack_18 rfl ⟨by omega, by omega⟩ ⟨by omega, by omega⟩ (fun h_13 => absurd h_13 (by omega)) (fun h_13 => ?_)
    refine k_aload dL_leadsBack_21 5 rfl (by omega) ?_
    refine k_iconst (v := 4) dL_leadsBack_23 rfl ?_
    refine k_iload_n dL_leadsBack_24 1 rfl rfl ?_
    refine k_imul dL_leadsBack_25 ?_
    refine k_iload dL_leadsBack_26 7 rfl ?_
    refine k_iadd dL_leadsBack_28 ?_
    refine k_iald (w := (4 * σ 1 2).toNat) dL_leadsBack_29 (by omega) (p_last _ _) (by omega) (by omega) (by omega) ?_
    refine k_eqst (congrArg (fun z : Int => Value.int (iI z) :: []) (show p_T σ (4 * p + (i12 : Int)).toNat = (k_up σ sh.length (p_Tn σ (4 * σ 1 2).toNat)) sh.length ((4 * p) + ((i12 : Int))).toNat from by rw [k_up_same]; exact (if_pos (by omega)).symm)) ?_
    have hent := p_LB_entry hI hLB (b := i12) (by omega)
    have htr := p_T_r hI (4 * p + (i12 : Int)).toNat
    refine k_iload_n dL_leadsBack_30 2 rfl rfl ?_
    refine k_icmp_ne (tgt := 39) dL_leadsBack_31 rfl ⟨by omega, by omega⟩ ⟨by omega, by omega⟩ (fun h_14 => ?_) (fun h_14 => ?_)
    · refine k_iload dL_leadsBack_39 6 rfl ?_
      refine k_istore (ls' := [(0, .ref 0), (1, .int (iI (p))), (2, .int (iI (s))), (3, .int (iI ((mm : Int)))), (4, .ref A), (5, .ref sh.length), (6, .int (iI ((if e < i12 then (e : Int) else -1)))), (7, .int (iI ((i12 : Int))))]) dL_leadsBack_41 (by decide) rfl rfl ?_
      refine k_iinc (ls' := [(0, .ref 0), (1, .int (iI (p))), (2, .int (iI (s))), (3, .int (iI ((mm : Int)))), (4, .ref A), (5, .ref sh.length), (6, .int (iI ((if e < i12 then (e : Int) else -1)))), (7, .int (iI ((i12 : Int) + 1)))]) dL_leadsBack_43 7 rfl (by decide) rfl rfl ?_
      refine k_goto (tgt := 12) dL_leadsBack_46 rfl ?_
      refine k_lrw (q := 6) (j := 6) (a' := (if e < (i12 + 1) then (e : Int) else -1)) (ls' := [(0, .ref 0), (1, .int (iI (p))), (2, .int (iI (s))), (3, .int (iI ((mm : Int)))), (4, .ref A), (5, .ref sh.length), (6, .int (iI ((if e < (i12 + 1) then (e : Int) else -1)))), (7, .int (iI ((i12 : Int) + 1)))]) rfl (by split <;> split <;> omega) rfl ?_
      refine k_lrw (q := 7) (j := 7) (a' := ((i12 + 1 : Nat) : Int)) (ls' := [(0, .ref 0), (1, .int (iI (p))), (2, .int (iI (s))), (3, .int (iI ((mm : Int)))), (4, .ref A), (5, .ref sh.length), (6, .int (iI ((if e < (i12 + 1) then (e : Int) else -1)))), (7, .int (iI (((i12 + 1 : Nat) : Int))))]) rfl (by omega) rfl ?_
      refine k_less (k' := 1 * ((σ 1 1).toNat - (i12 + 1)) + 30) (n' := 6 * ((σ 1 1).toNat - (i12 + 1)) + 180) (by omega) (by omega) ?_
      exact ih12
    · refine k_iload dL_leadsBack_34 7 rfl ?_
      refine k_goto (tgt := 41) dL_leadsBack_36 rfl ?_
      refine k_istore (ls' := [(0, .ref 0), (1, .int (iI (p))), (2, .int (iI (s))), (3, .int (iI ((mm : Int)))), (4, .ref A), (5, .ref sh.length), (6, .int (iI ((i12 : Int)))), (7, .int (iI ((i12 : Int))))]) dL_leadsBack_41 (by decide) rfl rfl ?_
      refine k_iinc (ls' := [(0, .ref 0), (1, .int (iI (p))), (2, .int (iI (s))), (3, .int (iI ((mm : Int)))), (4, .ref A), (5, .ref sh.length), (6, .int (iI ((i12 : Int)))), (7, .int (iI ((i12 : Int) + 1)))]) dL_leadsBack_43 7 rfl (by decide) rfl rfl ?_
      refine k_goto (tgt := 12) dL_leadsBack_46 rfl ?_
      refine k_lrw (q := 6) (j := 6) (a' := (if e < (i12 + 1) then (e : Int) else -1)) (ls' := [(0, .ref 0), (1, .int (iI (p))), (2, .int (iI (s))), (3, .int (iI ((mm : Int)))), (4, .ref A), (5, .ref sh.length), (6, .int (iI ((if e < (i12 + 1) then (e : Int) else -1)))), (7, .int (iI ((i12 : Int) + 1)))]) rfl (by rw [if_pos (by omega)]; omega) rfl ?_
      refine k_lrw (q := 7) (j := 7) (a' := ((i12 + 1 : Nat) : Int)) (ls' := [(0, .ref 0), (1, .int (iI (p))), (2, .int (iI (s))), (3, .int (iI ((mm : Int)))), (4, .ref A), (5, .ref sh.length), (6, .int (iI ((if e < (i12 + 1) then (e : Int) else -1)))), (7, .int (iI (((i12 + 1 : Nat) : Int))))]) rfl (by omega) rfl ?_
      refine k_less (k' := 1 * ((σ 1 1).toNat - (i12 + 1)) + 30) (n' := 6 * ((σ 1 1).toNat - (i12 + 1)) + 180) (by omega) (by omega) ?_
      exact ih12
end P_J1
