/-! ===== THE LAW: joins and changes ===== -/
section P_K
variable {E : k_E} {sh : List k_Sh} {σ τ : Nat → Nat → Int} {r : Nat → Int} {p s a c : Int} {m0 : Nat}
theorem u_car_1 {j : Nat} (hj : j ≠ 9) : u_car σ p s 1 j = σ 1 j := by
  unfold u_car u_carE
  rw [u_enter_ne (by decide)]
  unfold u_moves
  rw [u_movesN_1]
  have e1 : ∀ (m e : Int) (n : Nat), u_carN σ s m e n 1 = σ 1 := fun m e n => by
    unfold u_carN
    rw [k_up_ne (by decide), k_up_ne (by decide), u_few_far (by omega)]
  rw [e1]
  exact if_neg hj
/-- subjects, blocks and pupils stay -/
theorem p_one (hJ : p_J σ) {m : Int} (hm : m = 7 ∨ m = 8 ∨ m = 9 ∨ m = 10) {b d : Int} {j : Nat} (hj : j ≠ 9) : u_make σ m a b d 1 j = σ 1 j := by
  have hk := p_kept hJ.1.1 m a b d
  unfold u_make
  split
  · rcases hm with rfl | rfl | rfl | rfl
    · show u_give (u_kept σ 7 a b d) a 1 j = _
      rw [u_give_far _ (by decide), hk.c1]
    · show u_car (u_kept σ 8 a b d) a b 1 j = _
      rw [u_car_1 hj, hk.c1]
    · show u_quit (u_kept σ 9 a b d) a b 1 j = _
      unfold u_quit
      rw [u_leave_ne (by decide), hk.c1]
    · show u_car (u_quit (u_kept σ 10 a b d) a b) a d 1 j = _
      rw [u_car_1 hj]
      unfold u_quit
      rw [u_leave_ne (by decide), hk.c1]
  · rw [(u_fault_pl m a b d).c1]
theorem p_make_x {m b d : Int} (h : e_fault σ m a b d ≠ 0) : k_PlEq (u_make σ m a b d) σ := by
  have e : u_make σ m a b d = u_fault σ m a b d := if_neg h
  rw [e]
  exact u_fault_pl m a b d
/-- what a join does -/
theorem p_join (hJ : p_J σ) (hR : k_P1 r σ) (hp : 0 ≤ p ∧ p < σ 1 2) (hs : 0 ≤ s ∧ s < σ 1 0) : (p_mv σ p s < 0 ∧ k_PlEq (u_make σ 8 p s 0) σ ∧ (p_mv σ p s = -1002 ∨ (1 ≤ u_make σ 8 p s 0 23 4 ∧ u_make σ 8 p s 0 23 4 ≤ 3))) ∨ (0 ≤ p_mv σ p s ∧ e_fault σ 8 p s 0 = 0 ∧ ∃ (mm e : Nat) (M P x0 : Nat → Int), p_mv σ p s = (mm : Int) ∧ p_LB r (u_make σ 8 p s 0) p s mm e M P x0) := by
  have he := e_join_in hp hs
  have hk := p_kept hJ.1.1 8 p s 0
  rcases p_mv_r hJ p s with ⟨h1, h2⟩ | ⟨h1, h2, h3⟩ | ⟨h1, h2, h3, h4⟩
  · rw [if_neg h2] at he
    exact Or.inl ⟨by omega, p_make_x (by rw [he]; decide), Or.inl h1⟩
  · rw [if_pos h2, if_pos h3] at he
    refine Or.inl ⟨by omega, p_make_x (by rw [he]; decide), Or.inr ?_⟩
    have e : u_make σ 8 p s 0 = u_fault σ 8 p s 0 := if_neg (by rw [he]; decide)
    have e2 : u_fault σ 8 p s 0 = k_up (u_few σ s) 23 (k_u1 (σ 23) 4 (f_reason σ s (f_free σ p))) := by
      show u_joinE σ p s = _
      unfold u_joinE u_seek
      rw [e_joiner_in hp hs, if_pos h2, if_pos rfl, if_pos h3]
    rw [e, e2, k_up_same]
    have := f_reason_r σ s (f_free σ p)
    have e3 : k_u1 (σ 23) 4 (f_reason σ s (f_free σ p)) 4 = f_reason σ s (f_free σ p) := if_pos rfl
    rw [e3]
    exact this
  · rw [if_pos h2, if_neg h3] at he
    have hkk := k_OK_keep (B := 1) (k_OK_fault hJ.1.1 8 p s 0)
    obtain ⟨mm, e, M, P, x0, hf, hLB⟩ := p_LB_car (σ := u_kept σ 8 p s 0) (k_P1_pl hk hR) hkk.1 hkk.2.2.1 (p := p) (s := s) (by rw [hk.c1]; exact hp) (by rw [hk.c1]; exact hs) (by rw [hk.taken]; exact h2) (by rw [hk.few, hk.free]; exact h3)
    rw [hk.few, hk.free] at hf
    have hem : u_make σ 8 p s 0 = u_car (u_kept σ 8 p s 0) p s := if_pos he
    rw [← hem] at hLB
    exact Or.inr ⟨h1.1, he, mm, e, M, P, x0, h4.trans hf, hLB⟩
/-- what a change does -/
theorem p_change (hJ : p_J σ) (hR : k_P1 r σ) (hp : 0 ≤ p ∧ p < σ 1 2) (ha : 0 ≤ a ∧ a < σ 1 0) (hc : 0 ≤ c ∧ c < σ 1 0) : (p_cv σ p a c = -1002 ∧ (f_taken σ p a = -1 ∨ f_taken σ p c ≠ -1) ∧ k_PlEq (u_make σ 10 p a c) σ) ∨ (p_cv σ p a c = -1003 ∧ ¬ (f_taken σ p a = -1 ∨ f_taken σ p c ≠ -1) ∧ k_PlEq (u_make σ 10 p a c) σ) ∨ ((0 ≤ p_cv σ p a c ∧ p_cv σ p a c ≤ 3) ∧ ¬ (f_taken σ p a = -1 ∨ f_taken σ p c ≠ -1) ∧ f_taken (u_make σ 10 p a c) p a = -1 ∧ f_taken (u_make σ 10 p a c) p c ≠ -1 ∧ u_make σ 10 p a c 1 9 = p_cv σ p a c) := by
  have he := e_change_in hp ha hc
  have hk := p_kept hJ.1.1 10 p a c
  have hkk := k_OK_keep (B := 1) (k_OK_fault hJ.1.1 10 p a c)
  unfold p_cv
  by_cases q : f_taken σ p a = -1 ∨ f_taken σ p c ≠ -1
  · rw [if_pos q] at he ⊢
    exact Or.inl ⟨rfl, q, p_make_x (by rw [he]; decide)⟩
  · rw [if_neg q] at he ⊢
    by_cases w : f_few σ c (f_freeQ σ p a) = -1
    · rw [if_pos w] at he ⊢
      exact Or.inr (Or.inl ⟨rfl, q, p_make_x (by rw [he]; decide)⟩)
    · rw [if_neg w] at he ⊢
      have hch := (p_row hJ.1.1 hR (by decide)).1 he rfl
      have h : -1 ≤ f_few (u_quit (u_kept σ 10 p a c) p a) c (f_free (u_quit (u_kept σ 10 p a c) p a) p) ∧ f_few (u_quit (u_kept σ 10 p a c) p a) c (f_free (u_quit (u_kept σ 10 p a c) p a) p) ≤ 3 := f_few_r (u_leave_ty hkk.1) (u_leave_ch hkk.2.2.1) c _
      have e : u_make σ 10 p a c = u_car (u_quit (u_kept σ 10 p a c) p a) p c := if_pos he
      have hec : e_change (u_kept σ 10 p a c) p a c = 0 := (hk.fault 10 p a c).trans he
      have hx := p_chg (σ := u_kept σ 10 p a c) (k_P1_pl hk hR) hkk hec hch
      rw [e]
      exact Or.inr (Or.inr ⟨by omega, q, hx⟩)
set_option maxHeartbeats 8000000 in
theorem c_joins (hS : p_Sh sh m0) (hm : m0 < 700) (hJ : p_J σ) (hp : 0 ≤ p ∧ p < σ 1 2) (hs : 0 ≤ s ∧ s < σ 1 0) : k_C E mL_joins 19 [.ref 0, .int (iI (p)), .int (iI (s))] sh σ 1000 6000 (k_rj (some (.int (iI 1))) (fun sh' σ' => p_Sh sh' (m0 + 3) ∧ p_J σ' ∧ (σ' 1 0 = σ 1 0 ∧ σ' 1 1 = σ 1 1 ∧ σ' 1 2 = σ 1 2))) := by
  refine k_C_of (ls0 := [(0, .ref 0), (1, .int (iI (p))), (2, .int (iI (s)))]) rfl pnL (fun v hv => k_cat1 rfl hv) (Nat.le_of_ble_eq_true rfl) rfl ?_
  have hsh := p_Sh_main hS
  have hsh1 := p_Sh_main (p_Sh_push hS (4 * σ 1 2).toNat)
  have hl0 := p_Sh_len hS
  have hlen1 : (sh ++ [(.inl (0, (4 * σ 1 2).toNat) : k_Sh)]).length = sh.length + 1 := by rw [List.length_append, List.length_singleton]
  have hI := hJ.1.1.1
  obtain ⟨j0, j1, j2⟩ := p_J_rg hJ
  obtain ⟨r, hR⟩ := hJ.2.1
  have hJ1 : p_J (k_up σ sh.length (p_Tn σ (4 * σ 1 2).toNat)) := p_J_up hJ hl0.1
  have hu1 : (k_up σ sh.length (p_Tn σ (4 * σ 1 2).toNat)) 1 = σ 1 := k_up_ne (by omega)
  refine k_aload_n dL_joins_0 0 rfl rfl (by decide) ?_
  refine k_less (k' := 200 + (800)) (n' := 1200 + (4800)) (by omega) (by omega) ?_
  refine p_callA (k1 := 200) (n1 := 1200) (k := 800) (n := 4800) (st := []) (as := [.ref 0]) dL_joins_1 oL_tables rfl w_p1058 w_p1059 (by decide) rfl (Nat.le_of_ble_eq_true rfl) (c_tables hS (by omega) hJ) (k_okl_l (Or.inl (by show (0 : Nat) < _; omega)) (k_okl_l True.intro (k_okl_l True.intro k_okl_0))) ?_
  refine k_astore_n (ls' := [(0, .ref 0), (1, .int (iI (p))), (2, .int (iI (s))), (3, .ref sh.length)]) dL_joins_4 rfl (by omega) (by decide) rfl rfl ?_
  refine k_aload_n dL_joins_5 0 rfl rfl (by decide) ?_
  refine k_iload_n dL_joins_6 1 rfl rfl ?_
  refine k_iload_n dL_joins_7 2 rfl rfl ?_
  obtain ⟨τ1, hQ1, hmv⟩ := q_movesFor (E := E) hsh1 (p_Q_rf hJ1) (p := p) (s := s) (by rw [hu1]; exact hp) (by rw [hu1]; exact hs)
  rw [p_mv_pl (p_pl_up hl0.1)] at hmv
  have hpl1 : k_PlEq τ1 σ := hQ1.pl.trans (p_pl_up hl0.1)
  refine k_less (k' := 1 + (799)) (n' := 6 + (4794)) (by omega) (by omega) ?_
  refine p_callW (k1 := 1) (n1 := 6) (k := 799) (n := 4794) (st := []) (as := [.ref 0, .int (iI (p)), .int (iI (s))]) dL_joins_8 oL_movesFor rfl w_p1031 w_1194 (by decide) rfl (Nat.le_of_ble_eq_true rfl) (hmv) ?_
  refine k_istore (ls' := [(0, .ref 0), (1, .int (iI (p))), (2, .int (iI (s))), (3, .ref sh.length), (4, .int (iI (p_mv σ p s)))]) dL_joins_11 (by decide) rfl rfl ?_
  refine k_aload_n dL_joins_13 0 rfl rfl (by decide) ?_
  refine k_iload_n dL_joins_14 1 rfl rfl ?_
  refine k_iload_n dL_joins_15 2 rfl rfl ?_
  have hjn := v_join (E := E) hsh1 hQ1.2 (p := p) (s := s) (by rw [hpl1.c1]; exact hp) (by rw [hpl1.c1]; exact hs)
  rw [p_mv_pl hpl1] at hjn
  obtain ⟨hJ2, hf2⟩ := p_make hQ1.2 (m := 8) (a := p) (b := s) (c := 0) (by decide)
  have hjf := p_join hQ1.2 (k_P1_pl hpl1 hR) (p := p) (s := s) (by rw [hpl1.c1]; exact hp) (by rw [hpl1.c1]; exact hs)
  rw [p_mv_pl hpl1] at hjf
  have hmr := p_mv_r hJ p s
  have hr2 : u_make τ1 8 p s 0 1 2 = σ 1 2 := (p_one hQ1.2 (by omega) (by decide)).trans (by rw [hpl1.c1])
  have hb2 : u_make τ1 8 p s 0 sh.length = p_Tn σ (4 * σ 1 2).toNat := by rw [hf2 _ (by omega), hQ1.1 _ (by omega), k_up_same]
  refine k_less (k' := 1 + (798)) (n' := 6 + (4788)) (by omega) (by omega) ?_
  refine p_callW (k1 := 1) (n1 := 6) (k := 798) (n := 4788) (st := []) (as := [.ref 0, .int (iI (p)), .int (iI (s))]) dL_joins_16 oL_join rfl w_p1061 w_1218 (by decide) rfl (Nat.le_of_ble_eq_true rfl) (hjn) ?_
  refine k_istore (ls' := [(0, .ref 0), (1, .int (iI (p))), (2, .int (iI (s))), (3, .ref sh.length), (4, .int (iI (p_mv σ p s))), (5, .int (iI (p_mv σ p s)))]) dL_joins_19 (by decide) rfl rfl ?_
  refine k_iload dL_joins_21 4 rfl ?_
  refine k_if_ge (tgt := 74) dL_joins_23 rfl ⟨by omega, by omega⟩ (fun h_1 => ?_) (fun h_1 => ?_)
  · obtain ⟨-, he0, mm, e, M, P, x0, hmm, hLB⟩ := hjf.resolve_left (fun y => by have := y.1; omega)
    refine k_lrw (q := 4) (j := 4) (a' := (mm : Int)) (ls' := [(0, .ref 0), (1, .int (iI (p))), (2, .int (iI (s))), (3, .ref sh.length), (4, .int (iI ((mm : Int)))), (5, .int (iI (p_mv σ p s)))]) rfl (hmm) rfl ?_
    refine k_lrw (q := 5) (j := 5) (a' := (mm : Int)) (ls' := [(0, .ref 0), (1, .int (iI (p))), (2, .int (iI (s))), (3, .ref sh.length), (4, .int (iI ((mm : Int)))), (5, .int (iI ((mm : Int))))]) rfl (hmm) rfl ?_
    have hmm3 := hLB.2.1.1.1
    refine k_iload dL_joins_74 5 rfl ?_
    refine k_iload dL_joins_76 4 rfl ?_
    refine k_icmp_ne (tgt := 126) dL_joins_78 rfl ⟨by omega, by omega⟩ ⟨by omega, by omega⟩ (fun h_2 => absurd h_2 (by omega)) (fun h_2 => ?_)
    refine k_aload_n dL_joins_81 0 rfl rfl (by decide) ?_
    refine k_iload_n dL_joins_82 1 rfl rfl ?_
    refine k_iload_n dL_joins_83 2 rfl rfl ?_
    refine k_iload dL_joins_84 4 rfl ?_
    refine k_aload_n dL_joins_86 3 rfl rfl (by omega) ?_
    refine k_less (k' := 300 + (498)) (n' := 1800 + (2988)) (by omega) (by omega) ?_
    refine p_callQ (k1 := 300) (n1 := 1800) (k := 498) (n := 2988) (st := []) (as := [.ref 0, .int (iI (p)), .int (iI (s)), .int (iI ((mm : Int))), .ref sh.length]) dL_joins_87 oL_leadsBack rfl w_p1079 w_p1080 (by decide) rfl (Nat.le_of_ble_eq_true rfl) (c_leadsBack (p_Sh_push hS _) (by omega) hJ2 hLB (A := sh.length) (by rw [hr2]; exact p_last _ _) (fun j hj => by rw [hb2]; exact (if_pos (by omega)).trans (p_T_row hR hI (by omega))) (fun j hj => by rw [← p_T_row hR hI (by omega)]; exact p_T_r hI j)) (k_okl_l (Or.inl (by show (0 : Nat) < _; omega)) (k_okl_l True.intro (k_okl_l True.intro (k_okl_l (Or.inl (by show (sh.length : Nat) < _; omega)) (k_okl_l True.intro (k_okl_l True.intro k_okl_0)))))) (fun sh_3 τ_4 hq_5 => ?_)
    obtain ⟨hS3, hPre3, hf3⟩ := hq_5
    have hl3 := p_Sh_len hS3
    have hsh3 := p_Sh_main hS3
    have hJ3 : p_J τ_4 := p_J_cong hJ2 (fun i hi => hf3 i (by omega))
    have hlx := (List.getElem?_eq_some_iff.mp (hPre3 _ _ (p_last _ _))).1
    refine k_if_eq (tgt := 126) dL_joins_90 rfl ⟨by decide, by decide⟩ (fun h_6 => absurd h_6 (by decide)) (fun h_6 => ?_)
    refine k_aload_n dL_joins_93 0 rfl rfl (by decide) ?_
    obtain ⟨hu0, hpl4, hJ4, hun0, hun1, hf4⟩ := p_undo hQ1.2 (m := 8) (a := p) (b := s) (c := 0) (by decide) he0 (τ := τ_4) (fun i hi => hf3 i (by omega)) (fun j h0 h1 h2 h9 => p_one hQ1.2 (by omega) h9) hJ3
    refine k_less (k' := 1 + (497)) (n' := 6 + (2982)) (by omega) (by omega) ?_
    refine p_callW (k1 := 1) (n1 := 6) (k := 497) (n := 2982) (st := []) (as := [.ref 0]) dL_joins_94 oL_undo rfl w_p1103 w_1704 (by decide) rfl (Nat.le_of_ble_eq_true rfl) (v_undo hsh3 hJ3 hu0) ?_
    refine k_if_lt (tgt := 126) dL_joins_97 rfl ⟨by omega, by omega⟩ (fun h_7 => absurd h_7 (by omega)) (fun h_7 => ?_)
    refine k_aload_n dL_joins_100 0 rfl rfl (by decide) ?_
    have hpl5 := hpl4.trans hpl1
    have hb4 : (u_back τ_4) sh.length = p_Tn σ (4 * σ 1 2).toNat := (hf4 _ (by omega)).trans ((hf3 _ (by omega)).trans hb2)
    have hr4 : (u_back τ_4) 1 2 = σ 1 2 := by rw [hpl5.c1]
    refine k_less (k' := 200 + (297)) (n' := 1200 + (1782)) (by omega) (by omega) ?_
    refine p_callA (k1 := 200) (n1 := 1200) (k := 297) (n := 1782) (st := []) (as := [.ref 0]) dL_joins_101 oL_tables rfl w_p1058 w_p1059 (by decide) rfl (Nat.le_of_ble_eq_true rfl) (c_tables hS3 (by omega) hJ4) (k_okl_l (Or.inl (by show (0 : Nat) < _; omega)) (k_okl_l True.intro (k_okl_l True.intro (k_okl_l (Or.inl (by show (sh.length : Nat) < _; omega)) (k_okl_l True.intro (k_okl_l True.intro k_okl_0)))))) ?_
    refine k_aload_n dL_joins_104 3 rfl rfl (by omega) ?_
    refine k_less (k' := 0 + (297)) (n' := 0 + (1782)) (by omega) (by omega) ?_
    refine p_callS (k1 := 0) (n1 := 0) (k := 297) (n := 1782) (st := []) (as := [.ref sh_3.length, .ref sh.length]) dL_joins_105 oL_same rfl w_p1069 w_p1070 (by decide) rfl (Nat.le_of_ble_eq_true rfl) (c_same (A := sh_3.length) (B := sh.length) (W := (4 * (u_back τ_4) 1 2).toNat) (p_last _ _) (p_before (hPre3 _ _ (by rw [hr4]; exact p_last _ _))) ⟨⟨by omega, by omega⟩, by omega⟩ (fun j hj => by rw [k_up_same]; have := p_T_r hJ4.1.1.1 j; rw [show p_Tn (u_back τ_4) (4 * (u_back τ_4) 1 2).toNat j = p_T (u_back τ_4) j from if_pos hj]; omega) (fun j hj => by rw [k_up_same, k_up_ne (show sh.length ≠ sh_3.length by omega), hb4, show p_Tn (u_back τ_4) (4 * (u_back τ_4) 1 2).toNat j = p_T (u_back τ_4) j from if_pos hj, p_T_pl hpl5]; exact (if_pos (by omega)).symm)) ?_
    refine k_if_eq (tgt := 126) dL_joins_108 rfl ⟨by decide, by decide⟩ (fun h_8 => absurd h_8 (by decide)) (fun h_8 => ?_)
    refine k_aload_n dL_joins_111 0 rfl rfl (by decide) ?_
    refine k_iload_n dL_joins_112 1 rfl rfl ?_
    refine k_iload_n dL_joins_113 2 rfl rfl ?_
    have hJ5 : p_J (k_up (u_back τ_4) sh_3.length (p_Tn (u_back τ_4) (4 * (u_back τ_4) 1 2).toNat)) := p_J_up hJ4 (by omega)
    have hpl6 : k_PlEq (k_up (u_back τ_4) sh_3.length (p_Tn (u_back τ_4) (4 * (u_back τ_4) 1 2).toNat)) σ := (p_pl_up (by omega)).trans hpl5
    have hj6 := v_join (E := E) (p_Sh_main (p_Sh_push hS3 (4 * (u_back τ_4) 1 2).toNat)) hJ5 (p := p) (s := s) (by rw [hpl6.c1]; exact hp) (by rw [hpl6.c1]; exact hs)
    rw [p_mv_pl hpl6, hmm] at hj6
    refine k_less (k' := 1 + (296)) (n' := 6 + (1776)) (by omega) (by omega) ?_
    refine p_callW (k1 := 1) (n1 := 6) (k := 296) (n := 1776) (st := []) (as := [.ref 0, .int (iI (p)), .int (iI (s))]) dL_joins_114 oL_join rfl w_p1061 w_1218 (by decide) rfl (Nat.le_of_ble_eq_true rfl) (hj6) ?_
    refine k_iload dL_joins_117 4 rfl ?_
    refine k_icmp_ne (tgt := 126) dL_joins_119 rfl ⟨by omega, by omega⟩ ⟨by omega, by omega⟩ (fun h_9 => absurd h_9 (by omega)) (fun h_9 => ?_)
    refine k_iconst (v := 1) dL_joins_122 rfl ?_
    refine k_goto (tgt := 127) dL_joins_123 rfl ?_
    exact k_ret_z dL_joins_127 rfl (k_nar_z (Or.inr rfl)) ⟨rfl, p_Sh_mono (p_Sh_push hS3 _) (by omega), (p_make hJ5 (by decide)).1, by rw [p_one hJ5 (by omega) (by decide), p_one hJ5 (by omega) (by decide), p_one hJ5 (by omega) (by decide), hpl6.c1]; exact ⟨rfl, rfl, rfl⟩⟩
  · obtain ⟨-, hpl2, hre⟩ := hjf.resolve_right (fun y => by have := y.1; omega)
    have hplx := hpl2.trans hpl1
    refine k_iload dL_joins_26 5 rfl ?_
    refine k_iload dL_joins_28 4 rfl ?_
    refine k_icmp_ne (tgt := 72) dL_joins_30 rfl ⟨by omega, by omega⟩ ⟨by omega, by omega⟩ (fun h_10 => absurd h_10 (by omega)) (fun h_10 => ?_)
    refine k_aload_n dL_joins_33 0 rfl rfl (by decide) ?_
    refine k_less (k' := 200 + (598)) (n' := 1200 + (3588)) (by omega) (by omega) ?_
    refine p_callA (k1 := 200) (n1 := 1200) (k := 598) (n := 3588) (st := []) (as := [.ref 0]) dL_joins_34 oL_tables rfl w_p1058 w_p1059 (by decide) rfl (Nat.le_of_ble_eq_true rfl) (c_tables (p_Sh_push hS _) (by omega) hJ2) (k_okl_l (Or.inl (by show (0 : Nat) < _; omega)) (k_okl_l True.intro (k_okl_l True.intro (k_okl_l (Or.inl (by show (sh.length : Nat) < _; omega)) (k_okl_l True.intro (k_okl_l True.intro k_okl_0)))))) ?_
    refine k_aload_n dL_joins_37 3 rfl rfl (by omega) ?_
    refine k_less (k' := 0 + (598)) (n' := 0 + (3588)) (by omega) (by omega) ?_
    refine p_callS (k1 := 0) (n1 := 0) (k := 598) (n := 3588) (st := []) (as := [.ref (sh ++ [(.inl (0, (4 * σ 1 2).toNat) : k_Sh)]).length, .ref sh.length]) dL_joins_38 oL_same rfl w_p1069 w_p1070 (by decide) rfl (Nat.le_of_ble_eq_true rfl) (c_same (A := (sh ++ [(.inl (0, (4 * σ 1 2).toNat) : k_Sh)]).length) (B := sh.length) (W := (4 * (u_make τ1 8 p s 0) 1 2).toNat) (p_last _ _) (p_before (by rw [hr2]; exact p_last _ _)) ⟨⟨by omega, by omega⟩, by omega⟩ (fun j hj => by rw [k_up_same]; have := p_T_r hJ2.1.1.1 j; rw [show p_Tn (u_make τ1 8 p s 0) (4 * (u_make τ1 8 p s 0) 1 2).toNat j = p_T (u_make τ1 8 p s 0) j from if_pos hj]; omega) (fun j hj => by rw [k_up_same, k_up_ne (show sh.length ≠ (sh ++ [(.inl (0, (4 * σ 1 2).toNat) : k_Sh)]).length by omega), hb2, show p_Tn (u_make τ1 8 p s 0) (4 * (u_make τ1 8 p s 0) 1 2).toNat j = p_T (u_make τ1 8 p s 0) j from if_pos hj, p_T_pl hplx]; exact (if_pos (by omega)).symm)) ?_
    refine k_if_eq (tgt := 72) dL_joins_41 rfl ⟨by decide, by decide⟩ (fun h_11 => absurd h_11 (by decide)) (fun h_11 => ?_)
    refine k_iload dL_joins_44 5 rfl ?_
    refine k_sipush (v := (-1002)) dL_joins_46 (by decide) ?_
    refine k_icmp_eq (tgt := 68) dL_joins_49 rfl ⟨by omega, by omega⟩ ⟨by decide, by decide⟩ (fun h_12 => ?_) (fun h_12 => ?_)
    · refine k_iconst (v := 1) dL_joins_68 rfl ?_
      refine k_goto (tgt := 73) dL_joins_69 rfl ?_
      exact k_ret_z dL_joins_73 rfl (k_nar_z (Or.inr rfl)) ⟨rfl, p_Sh_mono (p_Sh_push (p_Sh_push hS _) _) (by omega), p_J_up hJ2 (by omega), by rw [k_up_ne (by omega), hplx.c1]; exact ⟨rfl, rfl, rfl⟩⟩
    · refine k_aload_n dL_joins_52 0 rfl rfl (by decide) ?_
      have hrr := v_refusalReason (E := E) (p_Sh_main (p_Sh_push (p_Sh_push hS (4 * σ 1 2).toNat) (4 * (u_make τ1 8 p s 0) 1 2).toNat)) (p_J_up (N := (sh ++ [(.inl (0, (4 * σ 1 2).toNat) : k_Sh)]).length) (f := p_Tn (u_make τ1 8 p s 0) (4 * (u_make τ1 8 p s 0) 1 2).toNat) hJ2 (by omega)) (by rw [k_up_ne (by omega)]; have := hre.resolve_left (by omega); omega)
      rw [k_up_ne (by omega)] at hrr
      refine k_less (k' := 1 + (597)) (n' := 6 + (3582)) (by omega) (by omega) ?_
      refine p_callW (k1 := 1) (n1 := 6) (k := 597) (n := 3582) (st := []) (as := [.ref 0]) dL_joins_53 oL_refusalReason rfl w_p1072 w_1240 (by decide) rfl (Nat.le_of_ble_eq_true rfl) (hrr) ?_
      refine k_iconst (v := 1) dL_joins_56 rfl ?_
      refine k_icmp_lt (tgt := 72) dL_joins_57 rfl ⟨by omega, by omega⟩ ⟨by decide, by decide⟩ (fun h_13 => absurd h_13 (by have := hre.resolve_left (by omega); omega)) (fun h_13 => ?_)
      refine k_aload_n dL_joins_60 0 rfl rfl (by decide) ?_
      have hrr := v_refusalReason (E := E) (p_Sh_main (p_Sh_push (p_Sh_push hS (4 * σ 1 2).toNat) (4 * (u_make τ1 8 p s 0) 1 2).toNat)) (p_J_up (N := (sh ++ [(.inl (0, (4 * σ 1 2).toNat) : k_Sh)]).length) (f := p_Tn (u_make τ1 8 p s 0) (4 * (u_make τ1 8 p s 0) 1 2).toNat) hJ2 (by omega)) (by rw [k_up_ne (by omega)]; have := hre.resolve_left (by omega); omega)
      rw [k_up_ne (by omega)] at hrr
      refine k_less (k' := 1 + (596)) (n' := 6 + (3576)) (by omega) (by omega) ?_
      refine p_callW (k1 := 1) (n1 := 6) (k := 596) (n := 3576) (st := []) (as := [.ref 0]) dL_joins_61 oL_refusalReason rfl w_p1072 w_1240 (by decide) rfl (Nat.le_of_ble_eq_true rfl) (hrr) ?_
      refine k_iconst (v := 3) dL_joins_64 rfl ?_
      refine k_icmp_gt (tgt := 72) dL_joins_65 rfl ⟨by omega, by omega⟩ ⟨by decide, by decide⟩ (fun h_14 => absurd h_14 (by have := hre.resolve_left (by omega); omega)) (fun h_14 => ?_)
      refine k_iconst (v := 1) dL_joins_68 rfl ?_
      refine k_goto (tgt := 73) dL_joins_69 rfl ?_
      exact k_ret_z dL_joins_73 rfl (k_nar_z (Or.inr rfl)) ⟨rfl, p_Sh_mono (p_Sh_push (p_Sh_push hS _) _) (by omega), p_J_up hJ2 (by omega), by rw [k_up_ne (by omega), hplx.c1]; exact ⟨rfl, rfl, rfl⟩⟩
set_option maxHeartbeats 8000000 in
theorem c_changes (hS : p_Sh sh m0) (hm : m0 < 700) (hJ : p_J σ) (hp : 0 ≤ p ∧ p < σ 1 2) (ha : 0 ≤ a ∧ a < σ 1 0) (hc : 0 ≤ c ∧ c < σ 1 0) : k_C E mL_changes 19 [.ref 0, .int (iI (p)), .int (iI (a)), .int (iI (c))] sh σ 1000 6000 (k_rj (some (.int (iI 1))) (fun sh' σ' => p_Sh sh' (m0 + 3) ∧ p_J σ' ∧ (σ' 1 0 = σ 1 0 ∧ σ' 1 1 = σ 1 1 ∧ σ' 1 2 = σ 1 2))) := by
  refine k_C_of (ls0 := [(0, .ref 0), (1, .int (iI (p))), (2, .int (iI (a))), (3, .int (iI (c)))]) rfl pnL (fun v hv => k_cat1 rfl hv) (Nat.le_of_ble_eq_true rfl) rfl ?_
  have hsh := p_Sh_main hS
  have hsh1 := p_Sh_main (p_Sh_push hS (4 * σ 1 2).toNat)
  have hl0 := p_Sh_len hS
  have hlen1 : (sh ++ [(.inl (0, (4 * σ 1 2).toNat) : k_Sh)]).length = sh.length + 1 := by rw [List.length_append, List.length_singleton]
  have hI := hJ.1.1.1
  obtain ⟨j0, j1, j2⟩ := p_J_rg hJ
  obtain ⟨r, hR⟩ := hJ.2.1
  have hJ1 : p_J (k_up σ sh.length (p_Tn σ (4 * σ 1 2).toNat)) := p_J_up hJ hl0.1
  have hu1 : (k_up σ sh.length (p_Tn σ (4 * σ 1 2).toNat)) 1 = σ 1 := k_up_ne (by omega)
  refine k_aload_n dL_changes_0 0 rfl rfl (by decide) ?_
  refine k_less (k' := 200 + (800)) (n' := 1200 + (4800)) (by omega) (by omega) ?_
  refine p_callA (k1 := 200) (n1 := 1200) (k := 800) (n := 4800) (st := []) (as := [.ref 0]) dL_changes_1 oL_tables rfl w_p1058 w_p1059 (by decide) rfl (Nat.le_of_ble_eq_true rfl) (c_tables hS (by omega) hJ) (k_okl_l (Or.inl (by show (0 : Nat) < _; omega)) (k_okl_l True.intro (k_okl_l True.intro (k_okl_l True.intro k_okl_0)))) ?_
  refine k_astore (ls' := [(0, .ref 0), (1, .int (iI (p))), (2, .int (iI (a))), (3, .int (iI (c))), (4, .ref sh.length)]) dL_changes_4 (by omega) (by decide) rfl rfl ?_
  refine k_aload_n dL_changes_6 0 rfl rfl (by decide) ?_
  refine k_iload_n dL_changes_7 1 rfl rfl ?_
  refine k_iload_n dL_changes_8 2 rfl rfl ?_
  have htka := v_blockOf (E := E) hsh1 hJ1 (p := p) (s := a) (by rw [hu1]; exact hp) (by rw [hu1]; exact ha)
  rw [(p_pl_up hl0.1).taken] at htka
  have qa := f_taken_r hI p a
  refine k_less (k' := 1 + (799)) (n' := 6 + (4794)) (by omega) (by omega) ?_
  refine p_callW (k1 := 1) (n1 := 6) (k := 799) (n := 4794) (st := []) (as := [.ref 0, .int (iI (p)), .int (iI (a))]) dL_changes_9 oL_blockOf rfl w_p856 w_1072 (by decide) rfl (Nat.le_of_ble_eq_true rfl) (htka) ?_
  refine k_if_lt (tgt := 28) dL_changes_12 rfl ⟨by omega, by omega⟩ (fun h_1 => ?_) (fun h_1 => ?_)
  · refine k_iconst (v := 0) dL_changes_28 rfl ?_
    refine k_istore (ls' := [(0, .ref 0), (1, .int (iI (p))), (2, .int (iI (a))), (3, .int (iI (c))), (4, .ref sh.length), (5, .int (iI (0)))]) dL_changes_29 (by decide) rfl rfl ?_
    refine k_aload_n dL_changes_31 0 rfl rfl (by decide) ?_
    refine k_iload_n dL_changes_32 1 rfl rfl ?_
    refine k_iload_n dL_changes_33 2 rfl rfl ?_
    refine k_iload_n dL_changes_34 3 rfl rfl ?_
    have hcg := v_change (E := E) hsh1 hJ1 (p := p) (a := a) (c := c) (by rw [hu1]; exact hp) (by rw [hu1]; exact ha) (by rw [hu1]; exact hc)
    obtain ⟨hJ2, hf2⟩ := p_make hJ1 (m := 10) (a := p) (b := a) (c := c) (by decide)
    have hcf := p_change hJ1 (k_P1_pl (p_pl_up hl0.1) hR) (p := p) (a := a) (c := c) (by rw [hu1]; exact hp) (by rw [hu1]; exact ha) (by rw [hu1]; exact hc)
    rw [(p_pl_up hl0.1).taken, (p_pl_up hl0.1).taken] at hcf
    have hr2 : (u_make (k_up σ sh.length (p_Tn σ (4 * σ 1 2).toNat)) 10 p a c) 1 2 = σ 1 2 := (p_one hJ1 (by omega) (by decide)).trans (by rw [hu1])
    have hb2 : (u_make (k_up σ sh.length (p_Tn σ (4 * σ 1 2).toNat)) 10 p a c) sh.length = p_Tn σ (4 * σ 1 2).toNat := by rw [hf2 _ (by omega), k_up_same]
    have hqa := f_taken_r hI p a
    have hqc := f_taken_r hI p c
    generalize hcv : p_cv (k_up σ sh.length (p_Tn σ (4 * σ 1 2).toNat)) p a c = cv at hcg hcf
    refine k_less (k' := 1 + (798)) (n' := 6 + (4788)) (by omega) (by omega) ?_
    refine p_callW (k1 := 1) (n1 := 6) (k := 798) (n := 4788) (st := []) (as := [.ref 0, .int (iI (p)), .int (iI (a)), .int (iI (c))]) dL_changes_35 oL_change rfl w_p1118 w_1233 (by decide) rfl (Nat.le_of_ble_eq_true rfl) (hcg) ?_
    refine k_istore (ls' := [(0, .ref 0), (1, .int (iI (p))), (2, .int (iI (a))), (3, .int (iI (c))), (4, .ref sh.length), (5, .int (iI (0))), (6, .int (iI (cv)))]) dL_changes_38 (by decide) rfl rfl ?_
    refine k_iload dL_changes_40 5 rfl ?_
    refine k_if_ne (tgt := 71) dL_changes_42 rfl ⟨by decide, by decide⟩ (fun h_2 => absurd h_2 (by decide)) (fun h_2 => ?_)
    have hplx : k_PlEq (u_make (k_up σ sh.length (p_Tn σ (4 * σ 1 2).toNat)) 10 p a c) σ := (hcf.elim (fun y => y.2.2) (fun y => absurd y (fun y => y.elim (fun y => by have := y.2.1; omega) (fun y => by have := y.2.1; omega)))).trans (p_pl_up hl0.1)
    refine k_iload dL_changes_45 6 rfl ?_
    refine k_sipush (v := (-1002)) dL_changes_47 (by decide) ?_
    refine k_icmp_ne (tgt := 69) dL_changes_50 rfl ⟨by omega, by omega⟩ ⟨by decide, by decide⟩ (fun h_3 => absurd h_3 (by omega)) (fun h_3 => ?_)
    refine k_aload_n dL_changes_53 0 rfl rfl (by decide) ?_
    refine k_less (k' := 200 + (598)) (n' := 1200 + (3588)) (by omega) (by omega) ?_
    refine p_callA (k1 := 200) (n1 := 1200) (k := 598) (n := 3588) (st := []) (as := [.ref 0]) dL_changes_54 oL_tables rfl w_p1058 w_p1059 (by decide) rfl (Nat.le_of_ble_eq_true rfl) (c_tables (p_Sh_push hS _) (by omega) hJ2) (k_okl_l (Or.inl (by show (0 : Nat) < _; omega)) (k_okl_l True.intro (k_okl_l True.intro (k_okl_l True.intro (k_okl_l (Or.inl (by show (sh.length : Nat) < _; omega)) (k_okl_l True.intro (k_okl_l True.intro k_okl_0))))))) ?_
    refine k_aload dL_changes_57 4 rfl (by omega) ?_
    refine k_less (k' := 0 + (598)) (n' := 0 + (3588)) (by omega) (by omega) ?_
    refine p_callS (k1 := 0) (n1 := 0) (k := 598) (n := 3588) (st := []) (as := [.ref (sh ++ [(.inl (0, (4 * σ 1 2).toNat) : k_Sh)]).length, .ref sh.length]) dL_changes_59 oL_same rfl w_p1069 w_p1070 (by decide) rfl (Nat.le_of_ble_eq_true rfl) (c_same (A := (sh ++ [(.inl (0, (4 * σ 1 2).toNat) : k_Sh)]).length) (B := sh.length) (W := (4 * (u_make (k_up σ sh.length (p_Tn σ (4 * σ 1 2).toNat)) 10 p a c) 1 2).toNat) (p_last _ _) (p_before (by rw [hr2]; exact p_last _ _)) ⟨⟨by omega, by omega⟩, by omega⟩ (fun j hj => by rw [k_up_same]; have := p_T_r hJ2.1.1.1 j; rw [show p_Tn (u_make (k_up σ sh.length (p_Tn σ (4 * σ 1 2).toNat)) 10 p a c) (4 * (u_make (k_up σ sh.length (p_Tn σ (4 * σ 1 2).toNat)) 10 p a c) 1 2).toNat j = p_T (u_make (k_up σ sh.length (p_Tn σ (4 * σ 1 2).toNat)) 10 p a c) j from if_pos hj]; omega) (fun j hj => by rw [k_up_same, k_up_ne (show sh.length ≠ (sh ++ [(.inl (0, (4 * σ 1 2).toNat) : k_Sh)]).length by omega), hb2, show p_Tn (u_make (k_up σ sh.length (p_Tn σ (4 * σ 1 2).toNat)) 10 p a c) (4 * (u_make (k_up σ sh.length (p_Tn σ (4 * σ 1 2).toNat)) 10 p a c) 1 2).toNat j = p_T (u_make (k_up σ sh.length (p_Tn σ (4 * σ 1 2).toNat)) 10 p a c) j from if_pos hj, p_T_pl hplx]; exact (if_pos (by omega)).symm)) ?_
    refine k_if_eq (tgt := 69) dL_changes_62 rfl ⟨by decide, by decide⟩ (fun h_4 => absurd h_4 (by decide)) (fun h_4 => ?_)
    refine k_iconst (v := 1) dL_changes_65 rfl ?_
    refine k_goto (tgt := 70) dL_changes_66 rfl ?_
    exact k_ret_z dL_changes_70 rfl (k_nar_z (Or.inr rfl)) ⟨rfl, p_Sh_mono (p_Sh_push (p_Sh_push hS _) _) (by omega), p_J_up hJ2 (by omega), by rw [k_up_ne (by omega), hplx.c1]; exact ⟨rfl, rfl, rfl⟩⟩
  · refine k_aload_n dL_changes_15 0 rfl rfl (by decide) ?_
    refine k_iload_n dL_changes_16 1 rfl rfl ?_
    refine k_iload_n dL_changes_17 3 rfl rfl ?_
    have htkc := v_blockOf (E := E) hsh1 hJ1 (p := p) (s := c) (by rw [hu1]; exact hp) (by rw [hu1]; exact hc)
    rw [(p_pl_up hl0.1).taken] at htkc
    have qc := f_taken_r hI p c
    refine k_less (k' := 1 + (798)) (n' := 6 + (4788)) (by omega) (by omega) ?_
    refine p_callW (k1 := 1) (n1 := 6) (k := 798) (n := 4788) (st := []) (as := [.ref 0, .int (iI (p)), .int (iI (c))]) dL_changes_18 oL_blockOf rfl w_p856 w_1072 (by decide) rfl (Nat.le_of_ble_eq_true rfl) (htkc) ?_
    refine k_if_ge (tgt := 28) dL_changes_21 rfl ⟨by omega, by omega⟩ (fun h_5 => ?_) (fun h_5 => ?_)
    · refine k_iconst (v := 0) dL_changes_28 rfl ?_
      refine k_istore (ls' := [(0, .ref 0), (1, .int (iI (p))), (2, .int (iI (a))), (3, .int (iI (c))), (4, .ref sh.length), (5, .int (iI (0)))]) dL_changes_29 (by decide) rfl rfl ?_
      refine k_aload_n dL_changes_31 0 rfl rfl (by decide) ?_
      refine k_iload_n dL_changes_32 1 rfl rfl ?_
      refine k_iload_n dL_changes_33 2 rfl rfl ?_
      refine k_iload_n dL_changes_34 3 rfl rfl ?_
      have hcg := v_change (E := E) hsh1 hJ1 (p := p) (a := a) (c := c) (by rw [hu1]; exact hp) (by rw [hu1]; exact ha) (by rw [hu1]; exact hc)
      obtain ⟨hJ2, hf2⟩ := p_make hJ1 (m := 10) (a := p) (b := a) (c := c) (by decide)
      have hcf := p_change hJ1 (k_P1_pl (p_pl_up hl0.1) hR) (p := p) (a := a) (c := c) (by rw [hu1]; exact hp) (by rw [hu1]; exact ha) (by rw [hu1]; exact hc)
      rw [(p_pl_up hl0.1).taken, (p_pl_up hl0.1).taken] at hcf
      have hr2 : (u_make (k_up σ sh.length (p_Tn σ (4 * σ 1 2).toNat)) 10 p a c) 1 2 = σ 1 2 := (p_one hJ1 (by omega) (by decide)).trans (by rw [hu1])
      have hb2 : (u_make (k_up σ sh.length (p_Tn σ (4 * σ 1 2).toNat)) 10 p a c) sh.length = p_Tn σ (4 * σ 1 2).toNat := by rw [hf2 _ (by omega), k_up_same]
      have hqa := f_taken_r hI p a
      have hqc := f_taken_r hI p c
      generalize hcv : p_cv (k_up σ sh.length (p_Tn σ (4 * σ 1 2).toNat)) p a c = cv at hcg hcf
      refine k_less (k' := 1 + (797)) (n' := 6 + (4782)) (by omega) (by omega) ?_
      refine p_callW (k1 := 1) (n1 := 6) (k := 797) (n := 4782) (st := []) (as := [.ref 0, .int (iI (p)), .int (iI (a)), .int (iI (c))]) dL_changes_35 oL_change rfl w_p1118 w_1233 (by decide) rfl (Nat.le_of_ble_eq_true rfl) (hcg) ?_
      refine k_istore (ls' := [(0, .ref 0), (1, .int (iI (p))), (2, .int (iI (a))), (3, .int (iI (c))), (4, .ref sh.length), (5, .int (iI (0))), (6, .int (iI (cv)))]) dL_changes_38 (by decide) rfl rfl ?_
      refine k_iload dL_changes_40 5 rfl ?_
      refine k_if_ne (tgt := 71) dL_changes_42 rfl ⟨by decide, by decide⟩ (fun h_6 => absurd h_6 (by decide)) (fun h_6 => ?_)
      have hplx : k_PlEq (u_make (k_up σ sh.length (p_Tn σ (4 * σ 1 2).toNat)) 10 p a c) σ := (hcf.elim (fun y => y.2.2) (fun y => absurd y (fun y => y.elim (fun y => by have := y.2.1; omega) (fun y => by have := y.2.1; omega)))).trans (p_pl_up hl0.1)
      refine k_iload dL_changes_45 6 rfl ?_
      refine k_sipush (v := (-1002)) dL_changes_47 (by decide) ?_
      refine k_icmp_ne (tgt := 69) dL_changes_50 rfl ⟨by omega, by omega⟩ ⟨by decide, by decide⟩ (fun h_7 => absurd h_7 (by omega)) (fun h_7 => ?_)
      refine k_aload_n dL_changes_53 0 rfl rfl (by decide) ?_
      refine k_less (k' := 200 + (597)) (n' := 1200 + (3582)) (by omega) (by omega) ?_
      refine p_callA (k1 := 200) (n1 := 1200) (k := 597) (n := 3582) (st := []) (as := [.ref 0]) dL_changes_54 oL_tables rfl w_p1058 w_p1059 (by decide) rfl (Nat.le_of_ble_eq_true rfl) (c_tables (p_Sh_push hS _) (by omega) hJ2) (k_okl_l (Or.inl (by show (0 : Nat) < _; omega)) (k_okl_l True.intro (k_okl_l True.intro (k_okl_l True.intro (k_okl_l (Or.inl (by show (sh.length : Nat) < _; omega)) (k_okl_l True.intro (k_okl_l True.intro k_okl_0))))))) ?_
      refine k_aload dL_changes_57 4 rfl (by omega) ?_
      refine k_less (k' := 0 + (597)) (n' := 0 + (3582)) (by omega) (by omega) ?_
      refine p_callS (k1 := 0) (n1 := 0) (k := 597) (n := 3582) (st := []) (as := [.ref (sh ++ [(.inl (0, (4 * σ 1 2).toNat) : k_Sh)]).length, .ref sh.length]) dL_changes_59 oL_same rfl w_p1069 w_p1070 (by decide) rfl (Nat.le_of_ble_eq_true rfl) (c_same (A := (sh ++ [(.inl (0, (4 * σ 1 2).toNat) : k_Sh)]).length) (B := sh.length) (W := (4 * (u_make (k_up σ sh.length (p_Tn σ (4 * σ 1 2).toNat)) 10 p a c) 1 2).toNat) (p_last _ _) (p_before (by rw [hr2]; exact p_last _ _)) ⟨⟨by omega, by omega⟩, by omega⟩ (fun j hj => by rw [k_up_same]; have := p_T_r hJ2.1.1.1 j; rw [show p_Tn (u_make (k_up σ sh.length (p_Tn σ (4 * σ 1 2).toNat)) 10 p a c) (4 * (u_make (k_up σ sh.length (p_Tn σ (4 * σ 1 2).toNat)) 10 p a c) 1 2).toNat j = p_T (u_make (k_up σ sh.length (p_Tn σ (4 * σ 1 2).toNat)) 10 p a c) j from if_pos hj]; omega) (fun j hj => by rw [k_up_same, k_up_ne (show sh.length ≠ (sh ++ [(.inl (0, (4 * σ 1 2).toNat) : k_Sh)]).length by omega), hb2, show p_Tn (u_make (k_up σ sh.length (p_Tn σ (4 * σ 1 2).toNat)) 10 p a c) (4 * (u_make (k_up σ sh.length (p_Tn σ (4 * σ 1 2).toNat)) 10 p a c) 1 2).toNat j = p_T (u_make (k_up σ sh.length (p_Tn σ (4 * σ 1 2).toNat)) 10 p a c) j from if_pos hj, p_T_pl hplx]; exact (if_pos (by omega)).symm)) ?_
      refine k_if_eq (tgt := 69) dL_changes_62 rfl ⟨by decide, by decide⟩ (fun h_8 => absurd h_8 (by decide)) (fun h_8 => ?_)
      refine k_iconst (v := 1) dL_changes_65 rfl ?_
      refine k_goto (tgt := 70) dL_changes_66 rfl ?_
      exact k_ret_z dL_changes_70 rfl (k_nar_z (Or.inr rfl)) ⟨rfl, p_Sh_mono (p_Sh_push (p_Sh_push hS _) _) (by omega), p_J_up hJ2 (by omega), by rw [k_up_ne (by omega), hplx.c1]; exact ⟨rfl, rfl, rfl⟩⟩
    · refine k_iconst (v := 1) dL_changes_24 rfl ?_
      refine k_goto (tgt := 29) dL_changes_25 rfl ?_
      refine k_istore (ls' := [(0, .ref 0), (1, .int (iI (p))), (2, .int (iI (a))), (3, .int (iI (c))), (4, .ref sh.length), (5, .int (iI (1)))]) dL_changes_29 (by decide) rfl rfl ?_
      refine k_aload_n dL_changes_31 0 rfl rfl (by decide) ?_
      refine k_iload_n dL_changes_32 1 rfl rfl ?_
      refine k_iload_n dL_changes_33 2 rfl rfl ?_
      refine k_iload_n dL_changes_34 3 rfl rfl ?_
      have hcg := v_change (E := E) hsh1 hJ1 (p := p) (a := a) (c := c) (by rw [hu1]; exact hp) (by rw [hu1]; exact ha) (by rw [hu1]; exact hc)
      obtain ⟨hJ2, hf2⟩ := p_make hJ1 (m := 10) (a := p) (b := a) (c := c) (by decide)
      have hcf := p_change hJ1 (k_P1_pl (p_pl_up hl0.1) hR) (p := p) (a := a) (c := c) (by rw [hu1]; exact hp) (by rw [hu1]; exact ha) (by rw [hu1]; exact hc)
      rw [(p_pl_up hl0.1).taken, (p_pl_up hl0.1).taken] at hcf
      have hr2 : (u_make (k_up σ sh.length (p_Tn σ (4 * σ 1 2).toNat)) 10 p a c) 1 2 = σ 1 2 := (p_one hJ1 (by omega) (by decide)).trans (by rw [hu1])
      have hb2 : (u_make (k_up σ sh.length (p_Tn σ (4 * σ 1 2).toNat)) 10 p a c) sh.length = p_Tn σ (4 * σ 1 2).toNat := by rw [hf2 _ (by omega), k_up_same]
      have hqa := f_taken_r hI p a
      have hqc := f_taken_r hI p c
      generalize hcv : p_cv (k_up σ sh.length (p_Tn σ (4 * σ 1 2).toNat)) p a c = cv at hcg hcf
      refine k_less (k' := 1 + (797)) (n' := 6 + (4782)) (by omega) (by omega) ?_
      refine p_callW (k1 := 1) (n1 := 6) (k := 797) (n := 4782) (st := []) (as := [.ref 0, .int (iI (p)), .int (iI (a)), .int (iI (c))]) dL_changes_35 oL_change rfl w_p1118 w_1233 (by decide) rfl (Nat.le_of_ble_eq_true rfl) (hcg) ?_
      refine k_istore (ls' := [(0, .ref 0), (1, .int (iI (p))), (2, .int (iI (a))), (3, .int (iI (c))), (4, .ref sh.length), (5, .int (iI (1))), (6, .int (iI (cv)))]) dL_changes_38 (by decide) rfl rfl ?_
      refine k_iload dL_changes_40 5 rfl ?_
      refine k_if_ne (tgt := 71) dL_changes_42 rfl ⟨by decide, by decide⟩ (fun h_9 => ?_) (fun h_9 => absurd h_9 (by decide))
      refine k_iload dL_changes_71 6 rfl ?_
      refine k_if_ge (tgt := 102) dL_changes_73 rfl ⟨by omega, by omega⟩ (fun h_10 => ?_) (fun h_10 => ?_)
      · obtain ⟨hcr, hcn, hcx, hcy, hcz⟩ := (hcf.resolve_left (fun y => by have := y.1; omega)).resolve_left (fun y => by have := y.1; omega)
        have hty2 := f_taken_r hJ2.1.1.1 p c
        have htx2 := f_taken_r hJ2.1.1.1 p a
        have hone2 : ∀ j, j ≠ 9 → (u_make (k_up σ sh.length (p_Tn σ (4 * σ 1 2).toNat)) 10 p a c) 1 j = σ 1 j := fun j hj => (p_one hJ1 (by omega) hj).trans (by rw [hu1])
        have h11 := hone2 1 (by decide)
        refine k_aload_n dL_changes_102 0 rfl rfl (by decide) ?_
        refine k_iload_n dL_changes_103 1 rfl rfl ?_
        refine k_iload_n dL_changes_104 2 rfl rfl ?_
        refine k_less (k' := 1 + (796)) (n' := 6 + (4776)) (by omega) (by omega) ?_
        refine p_callW (k1 := 1) (n1 := 6) (k := 796) (n := 4776) (st := []) (as := [.ref 0, .int (iI (p)), .int (iI (a))]) dL_changes_105 oL_blockOf rfl w_p856 w_1072 (by decide) rfl (Nat.le_of_ble_eq_true rfl) (v_blockOf hsh1 hJ2 (p := p) (s := a) (by rw [hone2 2 (by decide)]; exact hp) (by rw [hone2 0 (by decide)]; exact ha)) ?_
        refine k_if_ge (tgt := 133) dL_changes_108 rfl ⟨by omega, by omega⟩ (fun h_11 => absurd h_11 (by omega)) (fun h_11 => ?_)
        refine k_aload_n dL_changes_111 0 rfl rfl (by decide) ?_
        refine k_iload_n dL_changes_112 1 rfl rfl ?_
        refine k_iload_n dL_changes_113 3 rfl rfl ?_
        refine k_less (k' := 1 + (795)) (n' := 6 + (4770)) (by omega) (by omega) ?_
        refine p_callW (k1 := 1) (n1 := 6) (k := 795) (n := 4770) (st := []) (as := [.ref 0, .int (iI (p)), .int (iI (c))]) dL_changes_114 oL_blockOf rfl w_p856 w_1072 (by decide) rfl (Nat.le_of_ble_eq_true rfl) (v_blockOf hsh1 hJ2 (p := p) (s := c) (by rw [hone2 2 (by decide)]; exact hp) (by rw [hone2 0 (by decide)]; exact hc)) ?_
        refine k_if_lt (tgt := 133) dL_changes_117 rfl ⟨by omega, by omega⟩ (fun h_12 => absurd h_12 (by omega)) (fun h_12 => ?_)
        refine k_aload_n dL_changes_120 0 rfl rfl (by decide) ?_
        have hcm := v_chainMoves (E := E) hsh1 hJ2 (by rw [hcz]; omega)
        rw [hcz] at hcm
        refine k_less (k' := 1 + (794)) (n' := 6 + (4764)) (by omega) (by omega) ?_
        refine p_callW (k1 := 1) (n1 := 6) (k := 794) (n := 4764) (st := []) (as := [.ref 0]) dL_changes_121 oL_chainMoves rfl w_p1082 w_1247 (by decide) rfl (Nat.le_of_ble_eq_true rfl) (hcm) ?_
        refine k_iload dL_changes_124 6 rfl ?_
        refine k_icmp_ne (tgt := 133) dL_changes_126 rfl ⟨by omega, by omega⟩ ⟨by omega, by omega⟩ (fun h_13 => absurd h_13 (by omega)) (fun h_13 => ?_)
        refine k_iconst (v := 1) dL_changes_129 rfl ?_
        refine k_goto (tgt := 134) dL_changes_130 rfl ?_
        exact k_ret_z dL_changes_134 rfl (k_nar_z (Or.inr rfl)) ⟨rfl, p_Sh_mono (p_Sh_push hS _) (by omega), hJ2, hone2 0 (by decide), hone2 1 (by decide), hone2 2 (by decide)⟩
      · have hplx : k_PlEq (u_make (k_up σ sh.length (p_Tn σ (4 * σ 1 2).toNat)) 10 p a c) σ := (hcf.elim (fun y => y.2.2) (fun y => y.elim (fun y => y.2.2) (fun y => absurd y (fun y => by have := y.1; omega)))).trans (p_pl_up hl0.1)
        refine k_iload dL_changes_76 6 rfl ?_
        refine k_sipush (v := (-1003)) dL_changes_78 (by decide) ?_
        refine k_icmp_ne (tgt := 100) dL_changes_81 rfl ⟨by omega, by omega⟩ ⟨by decide, by decide⟩ (fun h_14 => absurd h_14 (by omega)) (fun h_14 => ?_)
        refine k_aload_n dL_changes_84 0 rfl rfl (by decide) ?_
        refine k_less (k' := 200 + (597)) (n' := 1200 + (3582)) (by omega) (by omega) ?_
        refine p_callA (k1 := 200) (n1 := 1200) (k := 597) (n := 3582) (st := []) (as := [.ref 0]) dL_changes_85 oL_tables rfl w_p1058 w_p1059 (by decide) rfl (Nat.le_of_ble_eq_true rfl) (c_tables (p_Sh_push hS _) (by omega) hJ2) (k_okl_l (Or.inl (by show (0 : Nat) < _; omega)) (k_okl_l True.intro (k_okl_l True.intro (k_okl_l True.intro (k_okl_l (Or.inl (by show (sh.length : Nat) < _; omega)) (k_okl_l True.intro (k_okl_l True.intro k_okl_0))))))) ?_
        refine k_aload dL_changes_88 4 rfl (by omega) ?_
        refine k_less (k' := 0 + (597)) (n' := 0 + (3582)) (by omega) (by omega) ?_
        refine p_callS (k1 := 0) (n1 := 0) (k := 597) (n := 3582) (st := []) (as := [.ref (sh ++ [(.inl (0, (4 * σ 1 2).toNat) : k_Sh)]).length, .ref sh.length]) dL_changes_90 oL_same rfl w_p1069 w_p1070 (by decide) rfl (Nat.le_of_ble_eq_true rfl) (c_same (A := (sh ++ [(.inl (0, (4 * σ 1 2).toNat) : k_Sh)]).length) (B := sh.length) (W := (4 * (u_make (k_up σ sh.length (p_Tn σ (4 * σ 1 2).toNat)) 10 p a c) 1 2).toNat) (p_last _ _) (p_before (by rw [hr2]; exact p_last _ _)) ⟨⟨by omega, by omega⟩, by omega⟩ (fun j hj => by rw [k_up_same]; have := p_T_r hJ2.1.1.1 j; rw [show p_Tn (u_make (k_up σ sh.length (p_Tn σ (4 * σ 1 2).toNat)) 10 p a c) (4 * (u_make (k_up σ sh.length (p_Tn σ (4 * σ 1 2).toNat)) 10 p a c) 1 2).toNat j = p_T (u_make (k_up σ sh.length (p_Tn σ (4 * σ 1 2).toNat)) 10 p a c) j from if_pos hj]; omega) (fun j hj => by rw [k_up_same, k_up_ne (show sh.length ≠ (sh ++ [(.inl (0, (4 * σ 1 2).toNat) : k_Sh)]).length by omega), hb2, show p_Tn (u_make (k_up σ sh.length (p_Tn σ (4 * σ 1 2).toNat)) 10 p a c) (4 * (u_make (k_up σ sh.length (p_Tn σ (4 * σ 1 2).toNat)) 10 p a c) 1 2).toNat j = p_T (u_make (k_up σ sh.length (p_Tn σ (4 * σ 1 2).toNat)) 10 p a c) j from if_pos hj, p_T_pl hplx]; exact (if_pos (by omega)).symm)) ?_
        refine k_if_eq (tgt := 100) dL_changes_93 rfl ⟨by decide, by decide⟩ (fun h_15 => absurd h_15 (by decide)) (fun h_15 => ?_)
        refine k_iconst (v := 1) dL_changes_96 rfl ?_
        refine k_goto (tgt := 101) dL_changes_97 rfl ?_
        exact k_ret_z dL_changes_101 rfl (k_nar_z (Or.inr rfl)) ⟨rfl, p_Sh_mono (p_Sh_push (p_Sh_push hS _) _) (by omega), p_J_up hJ2 (by omega), by rw [k_up_ne (by omega), hplx.c1]; exact ⟨rfl, rfl, rfl⟩⟩
end P_K
