/-! ===== THE MAKING: the model's own ===== -/
section K_CM8
variable {E : k_E} {M M1 : k_M} {dp d1 pc k n k1 n1 na : Nat} {ls : List (Nat × Value)} {st as : List Value} {sh L T : List k_Sh} {σ σ' τ : Nat → Nat → Int} {Q Q1 : k_Q} {o : Option Value}
def u_fm (σ : Nat → Nat → Int) (r : Nat) : Nat → Nat → Nat → Int
  | 0 => σ
  | q + 1 => k_up (u_fm σ r q) r (k_u1 (u_fm σ r q r) q (((1000010 + (12 + q) : Nat) : Int) + 1))
theorem k_I_row {a kd w : Nat} {f : Nat → Int} (h : k_I sh σ) (hs : sh[a]? = some (.inl (kd, w))) (hk : kd < 5) : k_I sh (k_up σ a f) := by
  have hl : a < sh.length := (List.getElem?_eq_some_iff.mp hs).1
  refine ⟨fun i y hy => ?_, fun i hi => by rw [k_up_ne (by omega)]; exact h.2 i hi⟩
  by_cases e : i = a
  · subst e
    rw [hs] at hy
    cases hy
    match kd, hk with
    | 0, _ => trivial
    | 1, _ => trivial
    | 2, _ => trivial
    | 3, _ => trivial
    | 4, _ => trivial
  · rw [k_up_ne e]
    exact h.1 i y hy
theorem k_at_T (L T : List k_Sh) (x y : k_Sh) (j : Nat) (h : T[j]? = some y) : (L ++ (x :: T))[L.length + (1 + j)]? = some y := by
  rw [List.getElem?_append_right (by omega), show L.length + (1 + j) - L.length = j + 1 by omega]
  exact h
def k_mdlS (A : Nat) : List k_Sh := .inr (9, [A + 4, A + 5, A + 6, A + 7, A + 8, 0, 0, 0, 0, 0, 0, 0, 0, A + 9, A + 10, 0, 0, A + 11, A + 12, 0, A + 13, A + 14, A + 15, A + 16, A + 17, A + 18, A + 19, A + 20, 0, 0, 0]) :: [.inl (0, 153), .inl (0, 153), .inl (0, 153), .inl (0, 153), .inl (0, 1224), .inl (1, 40), .inl (1, 60), .inl (0, 4), .inl (0, 4), .inl (0, 5), .inl (0, 49), .inl (0, 7), .inl (0, 7), .inl (6, 12), .inl (0, 12), .inl (0, 36), .inl (0, 3)]
def u_mp (σ : Nat → Nat → Int) (A : Nat) : Nat → Nat → Int := k_up (k_up σ A (k_u1 (σ A) 10 (-1))) A (k_u1 (k_up σ A (k_u1 (σ A) 10 (-1)) A) 11 (-1))
def u_rw (σ : Nat → Nat → Int) (r : Nat) : Nat → Nat → Int := k_up (k_up σ r (k_u1 (σ r) 1 3)) r (k_u1 (k_up σ r (k_u1 (σ r) 1 3) r) 3 (-1))
def u_mdl0 (σ : Nat → Nat → Int) (A : Nat) : Nat → Nat → Int := u_rw (u_fm (u_mp σ A) (A + 14) 12) (A + 1)
set_option maxRecDepth 100000 in
set_option maxHeartbeats 4000000 in
theorem c8_init (hN : L.length < 800000) (hI : k_I (L ++ [.inr (9, [2, 2, 2, 2, 2, 0, 0, 0, 0, 0, 0, 0, 0, 2, 2, 0, 0, 2, 2, 0, 2, 2, 2, 2, 2, 2, 2, 2, 0, 0, 0])]) σ) : k_C E mX8_init 1 [.ref L.length] (L ++ [.inr (9, [2, 2, 2, 2, 2, 0, 0, 0, 0, 0, 0, 0, 0, 2, 2, 0, 0, 2, 2, 0, 2, 2, 2, 2, 2, 2, 2, 2, 0, 0, 0])]) σ 17 2075 (fun r sh' σ' => r = .inl none ∧ sh' = L ++ k_mdlS L.length ∧ σ' = u_mdl0 σ L.length ∧ k_I sh' σ') := by
  refine k_C_of (ls0 := [(0, .ref L.length)]) rfl pnX8 (fun v hv => k_cat1 rfl hv) (Nat.le_of_ble_eq_true rfl) rfl ?_
  refine k_aload_n dX8_init_0 0 rfl rfl (by omega) ?_
  refine k_objI dX8_init_1 w_1732 w_123 k_codeobj (by omega) (Nat.le_of_ble_eq_true rfl) (by omega) ?_
  refine k_aload_n dX8_init_4 0 rfl rfl (by omega) ?_
  refine k_sipush (v := 153) dX8_init_5 (by decide) ?_
  refine k_rowI (kf := 0) (w := 153) (cs' := [L.length + 4, 2, 2, 2, 2, 0, 0, 0, 0, 0, 0, 0, 0, 2, 2, 0, 0, 2, 2, 0, 2, 2, 2, 2, 2, 2, 2, 2, 0, 0, 0]) (T' := [.inl (0, 153)]) dX8_init_8 dX8_init_10 kcX8 w_1747 (by decide) (Nat.le_of_ble_eq_true rfl) rfl rfl rfl (fun x => rfl) (fun x => rfl) w_186 rfl (by decide) ⟨by omega, by decide⟩ hI k_okl1 rfl rfl (fun hI => ?_)
  refine k_aload_n dX8_init_13 0 rfl rfl (by omega) ?_
  refine k_sipush (v := 153) dX8_init_14 (by decide) ?_
  refine k_rowI (kf := 1) (w := 153) (cs' := [L.length + 4, L.length + 5, 2, 2, 2, 0, 0, 0, 0, 0, 0, 0, 0, 2, 2, 0, 0, 2, 2, 0, 2, 2, 2, 2, 2, 2, 2, 2, 0, 0, 0]) (T' := [.inl (0, 153), .inl (0, 153)]) dX8_init_17 dX8_init_19 kcX8 w_1748 (by decide) (Nat.le_of_ble_eq_true rfl) rfl rfl rfl (fun x => rfl) (fun x => rfl) w_186 rfl (by decide) ⟨by omega, by decide⟩ hI k_okl1 rfl rfl (fun hI => ?_)
  refine k_aload_n dX8_init_22 0 rfl rfl (by omega) ?_
  refine k_sipush (v := 153) dX8_init_23 (by decide) ?_
  refine k_rowI (kf := 2) (w := 153) (cs' := [L.length + 4, L.length + 5, L.length + 6, 2, 2, 0, 0, 0, 0, 0, 0, 0, 0, 2, 2, 0, 0, 2, 2, 0, 2, 2, 2, 2, 2, 2, 2, 2, 0, 0, 0]) (T' := [.inl (0, 153), .inl (0, 153), .inl (0, 153)]) dX8_init_26 dX8_init_28 kcX8 w_1749 (by decide) (Nat.le_of_ble_eq_true rfl) rfl rfl rfl (fun x => rfl) (fun x => rfl) w_186 rfl (by decide) ⟨by omega, by decide⟩ hI k_okl1 rfl rfl (fun hI => ?_)
  refine k_aload_n dX8_init_31 0 rfl rfl (by omega) ?_
  refine k_sipush (v := 153) dX8_init_32 (by decide) ?_
  refine k_rowI (kf := 3) (w := 153) (cs' := [L.length + 4, L.length + 5, L.length + 6, L.length + 7, 2, 0, 0, 0, 0, 0, 0, 0, 0, 2, 2, 0, 0, 2, 2, 0, 2, 2, 2, 2, 2, 2, 2, 2, 0, 0, 0]) (T' := [.inl (0, 153), .inl (0, 153), .inl (0, 153), .inl (0, 153)]) dX8_init_35 dX8_init_37 kcX8 w_1750 (by decide) (Nat.le_of_ble_eq_true rfl) rfl rfl rfl (fun x => rfl) (fun x => rfl) w_186 rfl (by decide) ⟨by omega, by decide⟩ hI k_okl1 rfl rfl (fun hI => ?_)
  refine k_aload_n dX8_init_40 0 rfl rfl (by omega) ?_
  refine k_sipush (v := 1224) dX8_init_41 (by decide) ?_
  refine k_rowI (kf := 4) (w := 1224) (cs' := [L.length + 4, L.length + 5, L.length + 6, L.length + 7, L.length + 8, 0, 0, 0, 0, 0, 0, 0, 0, 2, 2, 0, 0, 2, 2, 0, 2, 2, 2, 2, 2, 2, 2, 2, 0, 0, 0]) (T' := [.inl (0, 153), .inl (0, 153), .inl (0, 153), .inl (0, 153), .inl (0, 1224)]) dX8_init_44 dX8_init_46 kcX8 w_1751 (by decide) (Nat.le_of_ble_eq_true rfl) rfl rfl rfl (fun x => rfl) (fun x => rfl) w_186 rfl (by decide) ⟨by omega, by decide⟩ hI k_okl1 rfl rfl (fun hI => ?_)
  refine k_aload_n dX8_init_49 0 rfl rfl (by omega) ?_
  refine k_iconst (v := (-1)) dX8_init_50 rfl ?_
  refine k_intF (kf := 10) dX8_init_51 kcX8 w_1757 (by decide) rfl rfl rfl rfl (by omega) hI (fun hI => ?_)
  refine k_aload_n dX8_init_54 0 rfl rfl (by omega) ?_
  refine k_iconst (v := (-1)) dX8_init_55 rfl ?_
  refine k_intF (kf := 11) dX8_init_56 kcX8 w_1758 (by decide) rfl rfl rfl rfl (by omega) hI (fun hI => ?_)
  have eσ : k_up (k_up σ L.length (k_u1 (σ L.length) 10 (-1))) L.length (k_u1 (k_up σ L.length (k_u1 (σ L.length) 10 (-1)) L.length) 11 (-1)) = u_mp σ L.length := rfl
  rw [eσ] at hI ⊢
  generalize hσ1 : u_mp σ L.length = σ1 at hI
  refine k_aload_n dX8_init_59 0 rfl rfl (by omega) ?_
  refine k_bipush (v := 40) dX8_init_60 (by decide) ?_
  refine k_rowC (kf := 13) (w := 40) (cs' := [L.length + 4, L.length + 5, L.length + 6, L.length + 7, L.length + 8, 0, 0, 0, 0, 0, 0, 0, 0, L.length + 9, 2, 0, 0, 2, 2, 0, 2, 2, 2, 2, 2, 2, 2, 2, 0, 0, 0]) (T' := [.inl (0, 153), .inl (0, 153), .inl (0, 153), .inl (0, 153), .inl (0, 1224), .inl (1, 40)]) dX8_init_62 dX8_init_64 kcX8 w_1760 (by decide) (Nat.le_of_ble_eq_true rfl) rfl rfl rfl (fun x => rfl) (fun x => rfl) w_1841 rfl (by decide) ⟨by omega, by decide⟩ hI k_okl1 rfl rfl (fun hI => ?_)
  refine k_aload_n dX8_init_67 0 rfl rfl (by omega) ?_
  refine k_bipush (v := 60) dX8_init_68 (by decide) ?_
  refine k_rowC (kf := 14) (w := 60) (cs' := [L.length + 4, L.length + 5, L.length + 6, L.length + 7, L.length + 8, 0, 0, 0, 0, 0, 0, 0, 0, L.length + 9, L.length + 10, 0, 0, 2, 2, 0, 2, 2, 2, 2, 2, 2, 2, 2, 0, 0, 0]) (T' := [.inl (0, 153), .inl (0, 153), .inl (0, 153), .inl (0, 153), .inl (0, 1224), .inl (1, 40), .inl (1, 60)]) dX8_init_70 dX8_init_72 kcX8 w_1761 (by decide) (Nat.le_of_ble_eq_true rfl) rfl rfl rfl (fun x => rfl) (fun x => rfl) w_1841 rfl (by decide) ⟨by omega, by decide⟩ hI k_okl1 rfl rfl (fun hI => ?_)
  refine k_aload_n dX8_init_75 0 rfl rfl (by omega) ?_
  refine k_iconst (v := 4) dX8_init_76 rfl ?_
  refine k_rowI (kf := 17) (w := 4) (cs' := [L.length + 4, L.length + 5, L.length + 6, L.length + 7, L.length + 8, 0, 0, 0, 0, 0, 0, 0, 0, L.length + 9, L.length + 10, 0, 0, L.length + 11, 2, 0, 2, 2, 2, 2, 2, 2, 2, 2, 0, 0, 0]) (T' := [.inl (0, 153), .inl (0, 153), .inl (0, 153), .inl (0, 153), .inl (0, 1224), .inl (1, 40), .inl (1, 60), .inl (0, 4)]) dX8_init_77 dX8_init_79 kcX8 w_1764 (by decide) (Nat.le_of_ble_eq_true rfl) rfl rfl rfl (fun x => rfl) (fun x => rfl) w_186 rfl (by decide) ⟨by omega, by decide⟩ hI k_okl1 rfl rfl (fun hI => ?_)
  refine k_aload_n dX8_init_82 0 rfl rfl (by omega) ?_
  refine k_iconst (v := 4) dX8_init_83 rfl ?_
  refine k_rowI (kf := 18) (w := 4) (cs' := [L.length + 4, L.length + 5, L.length + 6, L.length + 7, L.length + 8, 0, 0, 0, 0, 0, 0, 0, 0, L.length + 9, L.length + 10, 0, 0, L.length + 11, L.length + 12, 0, 2, 2, 2, 2, 2, 2, 2, 2, 0, 0, 0]) (T' := [.inl (0, 153), .inl (0, 153), .inl (0, 153), .inl (0, 153), .inl (0, 1224), .inl (1, 40), .inl (1, 60), .inl (0, 4), .inl (0, 4)]) dX8_init_84 dX8_init_86 kcX8 w_1765 (by decide) (Nat.le_of_ble_eq_true rfl) rfl rfl rfl (fun x => rfl) (fun x => rfl) w_186 rfl (by decide) ⟨by omega, by decide⟩ hI k_okl1 rfl rfl (fun hI => ?_)
  refine k_aload_n dX8_init_89 0 rfl rfl (by omega) ?_
  refine k_iconst (v := 5) dX8_init_90 rfl ?_
  refine k_rowI (kf := 20) (w := 5) (cs' := [L.length + 4, L.length + 5, L.length + 6, L.length + 7, L.length + 8, 0, 0, 0, 0, 0, 0, 0, 0, L.length + 9, L.length + 10, 0, 0, L.length + 11, L.length + 12, 0, L.length + 13, 2, 2, 2, 2, 2, 2, 2, 0, 0, 0]) (T' := [.inl (0, 153), .inl (0, 153), .inl (0, 153), .inl (0, 153), .inl (0, 1224), .inl (1, 40), .inl (1, 60), .inl (0, 4), .inl (0, 4), .inl (0, 5)]) dX8_init_91 dX8_init_93 kcX8 w_1767 (by decide) (Nat.le_of_ble_eq_true rfl) rfl rfl rfl (fun x => rfl) (fun x => rfl) w_186 rfl (by decide) ⟨by omega, by decide⟩ hI k_okl1 rfl rfl (fun hI => ?_)
  refine k_aload_n dX8_init_96 0 rfl rfl (by omega) ?_
  refine k_bipush (v := 49) dX8_init_97 (by decide) ?_
  refine k_rowI (kf := 21) (w := 49) (cs' := [L.length + 4, L.length + 5, L.length + 6, L.length + 7, L.length + 8, 0, 0, 0, 0, 0, 0, 0, 0, L.length + 9, L.length + 10, 0, 0, L.length + 11, L.length + 12, 0, L.length + 13, L.length + 14, 2, 2, 2, 2, 2, 2, 0, 0, 0]) (T' := [.inl (0, 153), .inl (0, 153), .inl (0, 153), .inl (0, 153), .inl (0, 1224), .inl (1, 40), .inl (1, 60), .inl (0, 4), .inl (0, 4), .inl (0, 5), .inl (0, 49)]) dX8_init_99 dX8_init_101 kcX8 w_1768 (by decide) (Nat.le_of_ble_eq_true rfl) rfl rfl rfl (fun x => rfl) (fun x => rfl) w_186 rfl (by decide) ⟨by omega, by decide⟩ hI k_okl1 rfl rfl (fun hI => ?_)
  refine k_aload_n dX8_init_104 0 rfl rfl (by omega) ?_
  refine k_bipush (v := 7) dX8_init_105 (by decide) ?_
  refine k_rowI (kf := 22) (w := 7) (cs' := [L.length + 4, L.length + 5, L.length + 6, L.length + 7, L.length + 8, 0, 0, 0, 0, 0, 0, 0, 0, L.length + 9, L.length + 10, 0, 0, L.length + 11, L.length + 12, 0, L.length + 13, L.length + 14, L.length + 15, 2, 2, 2, 2, 2, 0, 0, 0]) (T' := [.inl (0, 153), .inl (0, 153), .inl (0, 153), .inl (0, 153), .inl (0, 1224), .inl (1, 40), .inl (1, 60), .inl (0, 4), .inl (0, 4), .inl (0, 5), .inl (0, 49), .inl (0, 7)]) dX8_init_107 dX8_init_109 kcX8 w_1769 (by decide) (Nat.le_of_ble_eq_true rfl) rfl rfl rfl (fun x => rfl) (fun x => rfl) w_186 rfl (by decide) ⟨by omega, by decide⟩ hI k_okl1 rfl rfl (fun hI => ?_)
  refine k_aload_n dX8_init_112 0 rfl rfl (by omega) ?_
  refine k_bipush (v := 7) dX8_init_113 (by decide) ?_
  refine k_rowI (kf := 23) (w := 7) (cs' := [L.length + 4, L.length + 5, L.length + 6, L.length + 7, L.length + 8, 0, 0, 0, 0, 0, 0, 0, 0, L.length + 9, L.length + 10, 0, 0, L.length + 11, L.length + 12, 0, L.length + 13, L.length + 14, L.length + 15, L.length + 16, 2, 2, 2, 2, 0, 0, 0]) (T' := [.inl (0, 153), .inl (0, 153), .inl (0, 153), .inl (0, 153), .inl (0, 1224), .inl (1, 40), .inl (1, 60), .inl (0, 4), .inl (0, 4), .inl (0, 5), .inl (0, 49), .inl (0, 7), .inl (0, 7)]) dX8_init_115 dX8_init_117 kcX8 w_1770 (by decide) (Nat.le_of_ble_eq_true rfl) rfl rfl rfl (fun x => rfl) (fun x => rfl) w_186 rfl (by decide) ⟨by omega, by decide⟩ hI k_okl1 rfl rfl (fun hI => ?_)
  refine k_aload_n dX8_init_120 0 rfl rfl (by omega) ?_
  refine k_bipush (v := 12) dX8_init_121 (by decide) ?_
  refine k_mkQ (kd := 6) (w := 12) (x := .inr (9, [L.length + 4, L.length + 5, L.length + 6, L.length + 7, L.length + 8, 0, 0, 0, 0, 0, 0, 0, 0, L.length + 9, L.length + 10, 0, 0, L.length + 11, L.length + 12, 0, L.length + 13, L.length + 14, L.length + 15, L.length + 16, 2, 2, 2, 2, 0, 0, 0])) (r := (L.length + 14)) (T' := [.inl (0, 153), .inl (0, 153), .inl (0, 153), .inl (0, 153), .inl (0, 1224), .inl (1, 40), .inl (1, 60), .inl (0, 4), .inl (0, 4), .inl (0, 5), .inl (0, 49), .inl (0, 7), .inl (0, 7), .inl (6, 12)]) dX8_init_123 w_1733 k_ao6 (k_tys_at E (k := 6) (by decide)) (Or.inr rfl) rfl (by decide) ⟨by omega, by decide⟩ hI (k_okl_s (Or.inl (by show L.length < _; omega)) k_okl1) rfl rfl (fun hI => ?_)
  have hfs : (L ++ (.inr (9, [L.length + 4, L.length + 5, L.length + 6, L.length + 7, L.length + 8, 0, 0, 0, 0, 0, 0, 0, 0, L.length + 9, L.length + 10, 0, 0, L.length + 11, L.length + 12, 0, L.length + 13, L.length + 14, L.length + 15, L.length + 16, 2, 2, 2, 2, 0, 0, 0]) :: [.inl (0, 153), .inl (0, 153), .inl (0, 153), .inl (0, 153), .inl (0, 1224), .inl (1, 40), .inl (1, 60), .inl (0, 4), .inl (0, 4), .inl (0, 5), .inl (0, 49), .inl (0, 7), .inl (0, 7), .inl (6, 12)]))[L.length + (1 + 13)]? = some (.inl (6, 12)) := k_at_T L _ _ _ 13 rfl
  refine k_dup dX8_init_126 rfl ?_
  refine k_iconst (v := 0) dX8_init_127 rfl ?_
  refine k_ldcS 12 dX8_init_128 (by decide) rfl rfl ?_
  refine k_aast6 dX8_init_130 (by omega) hfs (by decide) (by decide) (by decide) (by decide) ?_
  have hI := k_I_q (i := 0) (v := 1000010 + 12) hI hfs (Or.inr (by decide))
  change k_I _ (u_fm σ1 (L.length + 14) 1) at hI
  show k_V E mX8_init 1 131 [(0, .ref L.length)] [.ref (L.length + 14), .ref L.length] _ (u_fm σ1 (L.length + 14) 1) _ _ _
  refine k_dup dX8_init_131 rfl ?_
  refine k_iconst (v := 1) dX8_init_132 rfl ?_
  refine k_ldcS 13 dX8_init_133 (by decide) rfl rfl ?_
  refine k_aast6 dX8_init_135 (by omega) hfs (by decide) (by decide) (by decide) (by decide) ?_
  have hI := k_I_q (i := 1) (v := 1000010 + 13) hI hfs (Or.inr (by decide))
  change k_I _ (u_fm σ1 (L.length + 14) 2) at hI
  show k_V E mX8_init 1 136 [(0, .ref L.length)] [.ref (L.length + 14), .ref L.length] _ (u_fm σ1 (L.length + 14) 2) _ _ _
  refine k_dup dX8_init_136 rfl ?_
  refine k_iconst (v := 2) dX8_init_137 rfl ?_
  refine k_ldcS 14 dX8_init_138 (by decide) rfl rfl ?_
  refine k_aast6 dX8_init_140 (by omega) hfs (by decide) (by decide) (by decide) (by decide) ?_
  have hI := k_I_q (i := 2) (v := 1000010 + 14) hI hfs (Or.inr (by decide))
  change k_I _ (u_fm σ1 (L.length + 14) 3) at hI
  show k_V E mX8_init 1 141 [(0, .ref L.length)] [.ref (L.length + 14), .ref L.length] _ (u_fm σ1 (L.length + 14) 3) _ _ _
  refine k_dup dX8_init_141 rfl ?_
  refine k_iconst (v := 3) dX8_init_142 rfl ?_
  refine k_ldcS 15 dX8_init_143 (by decide) rfl rfl ?_
  refine k_aast6 dX8_init_145 (by omega) hfs (by decide) (by decide) (by decide) (by decide) ?_
  have hI := k_I_q (i := 3) (v := 1000010 + 15) hI hfs (Or.inr (by decide))
  change k_I _ (u_fm σ1 (L.length + 14) 4) at hI
  show k_V E mX8_init 1 146 [(0, .ref L.length)] [.ref (L.length + 14), .ref L.length] _ (u_fm σ1 (L.length + 14) 4) _ _ _
  refine k_dup dX8_init_146 rfl ?_
  refine k_iconst (v := 4) dX8_init_147 rfl ?_
  refine k_ldcS 16 dX8_init_148 (by decide) rfl rfl ?_
  refine k_aast6 dX8_init_150 (by omega) hfs (by decide) (by decide) (by decide) (by decide) ?_
  have hI := k_I_q (i := 4) (v := 1000010 + 16) hI hfs (Or.inr (by decide))
  change k_I _ (u_fm σ1 (L.length + 14) 5) at hI
  show k_V E mX8_init 1 151 [(0, .ref L.length)] [.ref (L.length + 14), .ref L.length] _ (u_fm σ1 (L.length + 14) 5) _ _ _
  refine k_dup dX8_init_151 rfl ?_
  refine k_iconst (v := 5) dX8_init_152 rfl ?_
  refine k_ldcS 17 dX8_init_153 (by decide) rfl rfl ?_
  refine k_aast6 dX8_init_155 (by omega) hfs (by decide) (by decide) (by decide) (by decide) ?_
  have hI := k_I_q (i := 5) (v := 1000010 + 17) hI hfs (Or.inr (by decide))
  change k_I _ (u_fm σ1 (L.length + 14) 6) at hI
  show k_V E mX8_init 1 156 [(0, .ref L.length)] [.ref (L.length + 14), .ref L.length] _ (u_fm σ1 (L.length + 14) 6) _ _ _
  refine k_dup dX8_init_156 rfl ?_
  refine k_bipush (v := 6) dX8_init_157 (by decide) ?_
  refine k_ldcS 18 dX8_init_159 (by decide) rfl rfl ?_
  refine k_aast6 dX8_init_161 (by omega) hfs (by decide) (by decide) (by decide) (by decide) ?_
  have hI := k_I_q (i := 6) (v := 1000010 + 18) hI hfs (Or.inr (by decide))
  change k_I _ (u_fm σ1 (L.length + 14) 7) at hI
  show k_V E mX8_init 1 162 [(0, .ref L.length)] [.ref (L.length + 14), .ref L.length] _ (u_fm σ1 (L.length + 14) 7) _ _ _
  refine k_dup dX8_init_162 rfl ?_
  refine k_bipush (v := 7) dX8_init_163 (by decide) ?_
  refine k_ldcS 19 dX8_init_165 (by decide) rfl rfl ?_
  refine k_aast6 dX8_init_167 (by omega) hfs (by decide) (by decide) (by decide) (by decide) ?_
  have hI := k_I_q (i := 7) (v := 1000010 + 19) hI hfs (Or.inr (by decide))
  change k_I _ (u_fm σ1 (L.length + 14) 8) at hI
  show k_V E mX8_init 1 168 [(0, .ref L.length)] [.ref (L.length + 14), .ref L.length] _ (u_fm σ1 (L.length + 14) 8) _ _ _
  refine k_dup dX8_init_168 rfl ?_
  refine k_bipush (v := 8) dX8_init_169 (by decide) ?_
  refine k_ldcS 20 dX8_init_171 (by decide) rfl rfl ?_
  refine k_aast6 dX8_init_173 (by omega) hfs (by decide) (by decide) (by decide) (by decide) ?_
  have hI := k_I_q (i := 8) (v := 1000010 + 20) hI hfs (Or.inr (by decide))
  change k_I _ (u_fm σ1 (L.length + 14) 9) at hI
  show k_V E mX8_init 1 174 [(0, .ref L.length)] [.ref (L.length + 14), .ref L.length] _ (u_fm σ1 (L.length + 14) 9) _ _ _
  refine k_dup dX8_init_174 rfl ?_
  refine k_bipush (v := 9) dX8_init_175 (by decide) ?_
  refine k_ldcS 21 dX8_init_177 (by decide) rfl rfl ?_
  refine k_aast6 dX8_init_179 (by omega) hfs (by decide) (by decide) (by decide) (by decide) ?_
  have hI := k_I_q (i := 9) (v := 1000010 + 21) hI hfs (Or.inr (by decide))
  change k_I _ (u_fm σ1 (L.length + 14) 10) at hI
  show k_V E mX8_init 1 180 [(0, .ref L.length)] [.ref (L.length + 14), .ref L.length] _ (u_fm σ1 (L.length + 14) 10) _ _ _
  refine k_dup dX8_init_180 rfl ?_
  refine k_bipush (v := 10) dX8_init_181 (by decide) ?_
  refine k_ldcS 22 dX8_init_183 (by decide) rfl rfl ?_
  refine k_aast6 dX8_init_185 (by omega) hfs (by decide) (by decide) (by decide) (by decide) ?_
  have hI := k_I_q (i := 10) (v := 1000010 + 22) hI hfs (Or.inr (by decide))
  change k_I _ (u_fm σ1 (L.length + 14) 11) at hI
  show k_V E mX8_init 1 186 [(0, .ref L.length)] [.ref (L.length + 14), .ref L.length] _ (u_fm σ1 (L.length + 14) 11) _ _ _
  refine k_dup dX8_init_186 rfl ?_
  refine k_bipush (v := 11) dX8_init_187 (by decide) ?_
  refine k_ldcS 23 dX8_init_189 (by decide) rfl rfl ?_
  refine k_aast6 dX8_init_191 (by omega) hfs (by decide) (by decide) (by decide) (by decide) ?_
  have hI := k_I_q (i := 11) (v := 1000010 + 23) hI hfs (Or.inr (by decide))
  change k_I _ (u_fm σ1 (L.length + 14) 12) at hI
  show k_V E mX8_init 1 192 [(0, .ref L.length)] [.ref (L.length + 14), .ref L.length] _ (u_fm σ1 (L.length + 14) 12) _ _ _
  generalize hσ2 : u_fm σ1 (L.length + 14) 12 = σ2 at hI
  refine k_refF (kf := 24) (r := (L.length + 14)) (cs' := [L.length + 4, L.length + 5, L.length + 6, L.length + 7, L.length + 8, 0, 0, 0, 0, 0, 0, 0, 0, L.length + 9, L.length + 10, 0, 0, L.length + 11, L.length + 12, 0, L.length + 13, L.length + 14, L.length + 15, L.length + 16, L.length + 17, 2, 2, 2, 0, 0, 0]) dX8_init_192 kcX8 w_1771 (by decide) (Nat.le_of_ble_eq_true rfl) rfl rfl rfl (fun x => rfl) (fun x => rfl) ⟨by omega, by decide⟩ hI (by show L.length + 14 < L.length + (1 + 14); omega) rfl (fun hI => ?_)
  refine k_aload_n dX8_init_195 0 rfl rfl (by omega) ?_
  refine k_bipush (v := 12) dX8_init_196 (by decide) ?_
  refine k_rowI (kf := 25) (w := 12) (cs' := [L.length + 4, L.length + 5, L.length + 6, L.length + 7, L.length + 8, 0, 0, 0, 0, 0, 0, 0, 0, L.length + 9, L.length + 10, 0, 0, L.length + 11, L.length + 12, 0, L.length + 13, L.length + 14, L.length + 15, L.length + 16, L.length + 17, L.length + 18, 2, 2, 0, 0, 0]) (T' := [.inl (0, 153), .inl (0, 153), .inl (0, 153), .inl (0, 153), .inl (0, 1224), .inl (1, 40), .inl (1, 60), .inl (0, 4), .inl (0, 4), .inl (0, 5), .inl (0, 49), .inl (0, 7), .inl (0, 7), .inl (6, 12), .inl (0, 12)]) dX8_init_198 dX8_init_200 kcX8 w_1772 (by decide) (Nat.le_of_ble_eq_true rfl) rfl rfl rfl (fun x => rfl) (fun x => rfl) w_186 rfl (by decide) ⟨by omega, by decide⟩ hI k_okl1 rfl rfl (fun hI => ?_)
  refine k_aload_n dX8_init_203 0 rfl rfl (by omega) ?_
  refine k_bipush (v := 36) dX8_init_204 (by decide) ?_
  refine k_rowI (kf := 26) (w := 36) (cs' := [L.length + 4, L.length + 5, L.length + 6, L.length + 7, L.length + 8, 0, 0, 0, 0, 0, 0, 0, 0, L.length + 9, L.length + 10, 0, 0, L.length + 11, L.length + 12, 0, L.length + 13, L.length + 14, L.length + 15, L.length + 16, L.length + 17, L.length + 18, L.length + 19, 2, 0, 0, 0]) (T' := [.inl (0, 153), .inl (0, 153), .inl (0, 153), .inl (0, 153), .inl (0, 1224), .inl (1, 40), .inl (1, 60), .inl (0, 4), .inl (0, 4), .inl (0, 5), .inl (0, 49), .inl (0, 7), .inl (0, 7), .inl (6, 12), .inl (0, 12), .inl (0, 36)]) dX8_init_206 dX8_init_208 kcX8 w_1773 (by decide) (Nat.le_of_ble_eq_true rfl) rfl rfl rfl (fun x => rfl) (fun x => rfl) w_186 rfl (by decide) ⟨by omega, by decide⟩ hI k_okl1 rfl rfl (fun hI => ?_)
  refine k_aload_n dX8_init_211 0 rfl rfl (by omega) ?_
  refine k_iconst (v := 3) dX8_init_212 rfl ?_
  refine k_rowI (kf := 27) (w := 3) (cs' := [L.length + 4, L.length + 5, L.length + 6, L.length + 7, L.length + 8, 0, 0, 0, 0, 0, 0, 0, 0, L.length + 9, L.length + 10, 0, 0, L.length + 11, L.length + 12, 0, L.length + 13, L.length + 14, L.length + 15, L.length + 16, L.length + 17, L.length + 18, L.length + 19, L.length + 20, 0, 0, 0]) (T' := [.inl (0, 153), .inl (0, 153), .inl (0, 153), .inl (0, 153), .inl (0, 1224), .inl (1, 40), .inl (1, 60), .inl (0, 4), .inl (0, 4), .inl (0, 5), .inl (0, 49), .inl (0, 7), .inl (0, 7), .inl (6, 12), .inl (0, 12), .inl (0, 36), .inl (0, 3)]) dX8_init_213 dX8_init_215 kcX8 w_1774 (by decide) (Nat.le_of_ble_eq_true rfl) rfl rfl rfl (fun x => rfl) (fun x => rfl) w_186 rfl (by decide) ⟨by omega, by decide⟩ hI k_okl1 rfl rfl (fun hI => ?_)
  have h0 : (L ++ (.inr (9, [L.length + 4, L.length + 5, L.length + 6, L.length + 7, L.length + 8, 0, 0, 0, 0, 0, 0, 0, 0, L.length + 9, L.length + 10, 0, 0, L.length + 11, L.length + 12, 0, L.length + 13, L.length + 14, L.length + 15, L.length + 16, L.length + 17, L.length + 18, L.length + 19, L.length + 20, 0, 0, 0]) :: [.inl (0, 153), .inl (0, 153), .inl (0, 153), .inl (0, 153), .inl (0, 1224), .inl (1, 40), .inl (1, 60), .inl (0, 4), .inl (0, 4), .inl (0, 5), .inl (0, 49), .inl (0, 7), .inl (0, 7), .inl (6, 12), .inl (0, 12), .inl (0, 36), .inl (0, 3)]))[L.length]? = some (.inr (9, [L.length + 4, L.length + 5, L.length + 6, L.length + 7, L.length + 8, 0, 0, 0, 0, 0, 0, 0, 0, L.length + 9, L.length + 10, 0, 0, L.length + 11, L.length + 12, 0, L.length + 13, L.length + 14, L.length + 15, L.length + 16, L.length + 17, L.length + 18, L.length + 19, L.length + 20, 0, 0, 0])) := k_get_mid L _ _
  have h1 : (L ++ (.inr (9, [L.length + 4, L.length + 5, L.length + 6, L.length + 7, L.length + 8, 0, 0, 0, 0, 0, 0, 0, 0, L.length + 9, L.length + 10, 0, 0, L.length + 11, L.length + 12, 0, L.length + 13, L.length + 14, L.length + 15, L.length + 16, L.length + 17, L.length + 18, L.length + 19, L.length + 20, 0, 0, 0]) :: [.inl (0, 153), .inl (0, 153), .inl (0, 153), .inl (0, 153), .inl (0, 1224), .inl (1, 40), .inl (1, 60), .inl (0, 4), .inl (0, 4), .inl (0, 5), .inl (0, 49), .inl (0, 7), .inl (0, 7), .inl (6, 12), .inl (0, 12), .inl (0, 36), .inl (0, 3)]))[L.length + 1]? = some (.inl (0, 153)) := k_at_T L _ _ _ 0 rfl
  refine k_aload_n dX8_init_218 0 rfl rfl (by omega) ?_
  refine k_get (kf := 0) (v := .ref (L.length + 1)) dX8_init_219 kcX8 w_1747 (by decide) (by omega) h0 rfl rfl ?_
  refine k_iconst (v := 1) dX8_init_222 rfl ?_
  refine k_iconst (v := (3)) dX8_init_223 rfl ?_
  refine k_iast dX8_init_224 (by omega) h1 (by decide) (by decide) (by decide) ?_
  refine k_aload_n dX8_init_225 0 rfl rfl (by omega) ?_
  refine k_get (kf := 0) (v := .ref (L.length + 1)) dX8_init_226 kcX8 w_1747 (by decide) (by omega) h0 rfl rfl ?_
  refine k_iconst (v := 3) dX8_init_229 rfl ?_
  refine k_iconst (v := (-1)) dX8_init_230 rfl ?_
  refine k_iast dX8_init_231 (by omega) h1 (by decide) (by decide) (by decide) ?_
  have hI := k_I_row (f := k_u1 (σ2 (L.length + 1)) 1 3) hI h1 (by decide)
  have hI := k_I_row (f := k_u1 (k_up σ2 (L.length + 1) (k_u1 (σ2 (L.length + 1)) 1 3) (L.length + 1)) 3 (-1)) hI h1 (by decide)
  refine k_ret_v dX8_init_232 rfl ⟨rfl, rfl, ?_, hI⟩
  subst hσ2 hσ1
  rfl
end K_CM8
