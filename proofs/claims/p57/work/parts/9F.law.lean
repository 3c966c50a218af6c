/-! ===== THE LAW, from its start to its end ===== -/
section P_N1
variable {E : k_E} {sh : List k_Sh} {σ τ : Nat → Nat → Int} {S B Pn i : Int} {m0 : Nat}
abbrev mL_law : k_M := (yL_law, cL_law, 13, (some .boolean), [])
abbrev k_QL : k_Q := fun r _ _ => r = .inl (some (.int (iI 1)))
theorem u_atry_pl : k_PlEq (u_atry σ) σ := fun i hi => by
  unfold u_atry g_putA u_comm
  rw [k_up_ne (by omega), k_up_ne (by omega), k_up_ne (by omega), k_up_ne (by omega), k_up_ne (by omega)]
theorem p_has_pl (h : k_PlEq τ σ) (p : Int) (n : Nat) : p_has τ p n = p_has σ p n := by
  unfold p_has
  congr 1
  funext b
  rw [h.lesson]
set_option maxHeartbeats 16000000 in
theorem l_end (hL : k_L E ≤ 2048) (h5 : (1 ≤ S ∧ S ≤ 5) ∧ (1 ≤ Pn ∧ Pn ≤ 8) ∧ (1 ≤ B ∧ B ≤ 4)) (hI : l_I4 sh σ S B Pn m0) : k_V E mL_law 25 585 [(0, .ref 1000000), (1, .ref 0), (2, .int (iI (S))), (3, .int (iI (Pn))), (4, .int (iI (B))), (5, .int (iI (i)))] [] sh σ 910 5460 k_QL := by
  have hS := hI.1
  have hJ := hI.2.1
  have hsh := p_Sh_main hS
  have hl0 := p_Sh_len hS
  refine k_aload_n dL_law_585 1 rfl rfl (by decide) ?_
  refine k_less (k' := 900 + (10)) (n' := 5400 + (60)) (by omega) (by omega) ?_
  refine p_callQ (k1 := 900) (n1 := 5400) (k := 10) (n := 60) (st := []) (as := [.ref 0]) dL_law_586 oL_searches rfl w_p976 w_p977 (by decide) rfl (Nat.le_of_ble_eq_true rfl) (c_searches hsh hJ) (k_okl_l (Or.inr (Nat.le_refl _)) (k_okl_l (Or.inl (by show (0 : Nat) < _; omega)) (k_okl_l True.intro (k_okl_l True.intro (k_okl_l True.intro (k_okl_l True.intro k_okl_0)))))) (fun sh_1 τ_2 hq_3 => ?_)
  obtain ⟨hse, hQe⟩ := hq_3
  rw [hse]
  refine k_if_eq (tgt := 615) dL_law_589 rfl ⟨by decide, by decide⟩ (fun h_4 => absurd h_4 (by decide)) (fun h_4 => ?_)
  refine k_aload_n dL_law_592 1 rfl rfl (by decide) ?_
  have hcl := p_clash hQe.2
  refine k_less (k' := 1 + (9)) (n' := 6 + (54)) (by omega) (by omega) ?_
  refine p_callV (k1 := 1) (n1 := 6) (k := 9) (n := 54) (st := []) (as := []) dL_law_593 oX7_leastClashes rfl w_p349 w_559 w_560 (by decide) rfl (Nat.le_of_ble_eq_true rfl) (by decide) (s_0 hsh) rfl (d_leastClashes hsh hQe.2) ?_
  refine k_aload_n dL_law_596 1 rfl rfl (by decide) ?_
  refine k_less (k' := 1 + (8)) (n' := 6 + (48)) (by omega) (by omega) ?_
  refine p_callV (k1 := 1) (n1 := 6) (k := 8) (n := 48) (st := [.int (iI ((f_abest τ_2).2.2.2))]) (as := []) dL_law_597 oX7_leastClashesByTrial rfl w_p390 w_587 w_588 (by decide) rfl (Nat.le_of_ble_eq_true rfl) (by decide) (s_0 hsh) rfl (d_leastClashesByTrial hsh (p_J_abest hQe.2)) ?_
  refine k_icmp_ne (tgt := 615) dL_law_600 rfl ⟨by omega, by omega⟩ ⟨by omega, by omega⟩ (fun h_5 => absurd h_5 (by omega)) (fun h_5 => ?_)
  refine k_aload_n dL_law_603 1 rfl rfl (by decide) ?_
  have hsv := f_servedN_r (u_atry (u_abest τ_2)) ((u_atry (u_abest τ_2)) 1 2).toNat
  have hpn : (u_atry (u_abest τ_2)) 1 2 = Pn := by rw [(u_atry_pl.trans u_abest_pl).c1, hQe.pl.c1]; exact hI.2.2.2.2
  refine k_less (k' := 1 + (7)) (n' := 6 + (42)) (by omega) (by omega) ?_
  refine p_callV (k1 := 1) (n1 := 6) (k := 7) (n := 42) (st := []) (as := []) dL_law_604 oX7_servedCount rfl w_p323 w_539 w_540 (by decide) rfl (Nat.le_of_ble_eq_true rfl) (by decide) (s_0 hsh) rfl ((c7_servedCount (E := E) hsh (k_PlEq.ty (u_atry_pl.trans u_abest_pl) hQe.2.1.1.1) : k_C E mX7_servedCount 8 [.ref 0] sh (u_atry (u_abest τ_2)) 1 6 (k_ret (some (.int (iI (f_servedN (u_atry (u_abest τ_2)) ((u_atry (u_abest τ_2)) 1 2).toNat)))) sh (u_atry (u_abest τ_2))))) ?_
  refine k_iload_n dL_law_607 3 rfl rfl ?_
  refine k_icmp_gt (tgt := 615) dL_law_608 rfl ⟨by omega, by omega⟩ ⟨by omega, by omega⟩ (fun h_6 => absurd h_6 (by omega)) (fun h_6 => ?_)
  refine k_iconst (v := 1) dL_law_611 rfl ?_
  refine k_goto (tgt := 616) dL_law_612 rfl ?_
  exact k_ret_z dL_law_616 rfl (k_nar_z (Or.inr rfl)) rfl
set_option maxHeartbeats 16000000 in
theorem l_turns (hL : k_L E ≤ 2048) (h5 : (1 ≤ S ∧ S ≤ 5) ∧ (1 ≤ Pn ∧ Pn ≤ 8) ∧ (1 ≤ B ∧ B ≤ 4)) (hI : l_I4 sh σ S B Pn 0) : k_V E mL_law 25 363 [(0, .ref 1000000), (1, .ref 0), (2, .int (iI (S))), (3, .int (iI (Pn))), (4, .int (iI (B))), (5, .int (iI (0)))] [] sh σ 47110 282660 k_QL := by
  refine k_less (k' := 3300 * (14 - 0) + 910) (n' := 19800 * (14 - 0) + 5460) (by omega) (by omega) ?_
  refine k_down (P := fun i363 : Nat => ∀ sh363 τ363, l_I4 sh363 τ363 S B Pn (3 * i363) → k_V E mL_law _ 363 [(0, .ref 1000000), (1, .ref 0), (2, .int (iI (S))), (3, .int (iI (Pn))), (4, .int (iI (B))), (5, .int (iI ((i363 : Int))))] [] sh363 τ363 (3300 * (14 - i363) + 910) (19800 * (14 - i363) + 5460) _) (14) ?_ ?_ sh σ hI
  · intro sh363 τ363 h363
    refine k_less (k' := 910) (n' := 5460) (by omega) (by omega) ?_
    have hl363 := p_Sh_len h363.1
    refine k_iload dL_law_363 5 rfl ?_
    refine k_bipush (v := 14) dL_law_365 (by decide) ?_
    refine k_icmp_ge (tgt := 585) dL_law_367 rfl ⟨by omega, by omega⟩ ⟨by decide, by decide⟩ (fun h_1 => ?_) (fun h_1 => absurd h_1 (by omega))
    exact l_end hL h5 h363
  · intro i363 hi363 ih363
    intro sh363 τ363 h363
    refine k_less (k' := 3300 + (3300 * (14 - (i363 + 1)) + 910)) (n' := 19800 + (19800 * (14 - (i363 + 1)) + 5460)) (by omega) (by omega) ?_
    have hl363 := p_Sh_len h363.1
    refine k_iload dL_law_363 5 rfl ?_
    refine k_bipush (v := 14) dL_law_365 (by decide) ?_
    refine k_icmp_ge (tgt := 585) dL_law_367 rfl ⟨by omega, by omega⟩ ⟨by decide, by decide⟩ (fun h_2 => absurd h_2 (by omega)) (fun h_2 => ?_)
    refine k_aload_n dL_law_370 0 rfl rfl (by decide) ?_
    refine k_bipush (v := 46) dL_law_371 (by decide) ?_
    refine k_iload dL_law_373 5 rfl ?_
    refine k_iadd dL_law_375 ?_
    obtain ⟨x_3, hc_4⟩ := c_cell (E := E) hL (i := 46 + ((i363 : Int))) ⟨by omega, by omega⟩
    refine k_less (k' := 0 + (3300 + (3300 * (14 - (i363 + 1)) + 910))) (n' := 0 + (19800 + (19800 * (14 - (i363 + 1)) + 5460))) (by omega) (by omega) ?_
    refine p_callS (k1 := 0) (n1 := 0) (k := 3300 + (3300 * (14 - (i363 + 1)) + 910)) (n := 19800 + (19800 * (14 - (i363 + 1)) + 5460)) (st := []) (as := [.ref 1000000, .int (iI (46 + ((i363 : Int))))]) dL_law_376 oL_cell rfl w_p402 w_p403 (by decide) rfl (Nat.le_of_ble_eq_true rfl) (hc_4 _ _) ?_
    refine k_iconst (v := 1) dL_law_379 rfl ?_
    obtain ⟨z, hz, hze⟩ := p_ushr x_3
    refine k_iushr (v := iI z) dL_law_380 hze ?_
    refine k_istore (ls' := [(0, .ref 1000000), (1, .ref 0), (2, .int (iI (S))), (3, .int (iI (Pn))), (4, .int (iI (B))), (5, .int (iI ((i363 : Int)))), (6, .int (iI (z)))]) dL_law_381 (by decide) rfl rfl ?_
    refine k_iload dL_law_383 6 rfl ?_
    refine k_iload_n dL_law_385 3 rfl rfl ?_
    obtain ⟨p7, hp7, hnp7, hep7⟩ := p_remV hz (c := Pn) ⟨by omega, by omega⟩
    refine k_irem (v := (iI (p7))) dL_law_386 hnp7 hep7 ?_
    refine k_istore (ls' := [(0, .ref 1000000), (1, .ref 0), (2, .int (iI (S))), (3, .int (iI (Pn))), (4, .int (iI (B))), (5, .int (iI ((i363 : Int)))), (6, .int (iI (z))), (7, .int (iI (p7)))]) dL_law_387 (by decide) rfl rfl ?_
    refine k_iload dL_law_389 6 rfl ?_
    refine k_bipush (v := 16) dL_law_391 (by decide) ?_
    obtain ⟨q8, hq8, hnq8, heq8⟩ := p_divV hz (c := 16) ⟨by omega, by omega⟩
    refine k_idiv (v := (iI (q8))) dL_law_393 hnq8 heq8 ?_
    refine k_iload_n dL_law_394 2 rfl rfl ?_
    obtain ⟨x8, hx8, hnx8, hex8⟩ := p_remV hq8 (c := S) ⟨by omega, by omega⟩
    refine k_irem (v := (iI (x8))) dL_law_395 hnx8 hex8 ?_
    refine k_istore (ls' := [(0, .ref 1000000), (1, .ref 0), (2, .int (iI (S))), (3, .int (iI (Pn))), (4, .int (iI (B))), (5, .int (iI ((i363 : Int)))), (6, .int (iI (z))), (7, .int (iI (p7))), (8, .int (iI (x8)))]) dL_law_396 (by decide) rfl rfl ?_
    refine k_iload dL_law_398 6 rfl ?_
    refine k_sipush (v := 128) dL_law_400 (by decide) ?_
    obtain ⟨q9, hq9, hnq9, heq9⟩ := p_divV hz (c := 128) ⟨by omega, by omega⟩
    refine k_idiv (v := (iI (q9))) dL_law_403 hnq9 heq9 ?_
    refine k_iload_n dL_law_404 2 rfl rfl ?_
    obtain ⟨y9, hy9, hny9, hey9⟩ := p_remV hq9 (c := S) ⟨by omega, by omega⟩
    refine k_irem (v := (iI (y9))) dL_law_405 hny9 hey9 ?_
    refine k_istore (ls' := [(0, .ref 1000000), (1, .ref 0), (2, .int (iI (S))), (3, .int (iI (Pn))), (4, .int (iI (B))), (5, .int (iI ((i363 : Int)))), (6, .int (iI (z))), (7, .int (iI (p7))), (8, .int (iI (x8))), (9, .int (iI (y9)))]) dL_law_406 (by decide) rfl rfl ?_
    refine k_iload dL_law_408 6 rfl ?_
    refine k_sipush (v := 1024) dL_law_410 (by decide) ?_
    obtain ⟨q10, hq10, hnq10, heq10⟩ := p_divV hz (c := 1024) ⟨by omega, by omega⟩
    refine k_idiv (v := (iI (q10))) dL_law_413 hnq10 heq10 ?_
    refine k_bipush (v := 8) dL_law_414 (by decide) ?_
    obtain ⟨w10, hw10, hnw10, hew10⟩ := p_remV hq10 (c := 8) ⟨by omega, by omega⟩
    refine k_irem (v := (iI (w10))) dL_law_416 hnw10 hew10 ?_
    refine k_istore (ls' := [(0, .ref 1000000), (1, .ref 0), (2, .int (iI (S))), (3, .int (iI (Pn))), (4, .int (iI (B))), (5, .int (iI ((i363 : Int)))), (6, .int (iI (z))), (7, .int (iI (p7))), (8, .int (iI (x8))), (9, .int (iI (y9))), (10, .int (iI (w10)))]) dL_law_417 (by decide) rfl rfl ?_
    refine k_iload dL_law_419 10 rfl ?_
    refine k_iconst (v := 4) dL_law_421 rfl ?_
    refine k_icmp_ge (tgt := 438) dL_law_422 rfl ⟨by omega, by omega⟩ ⟨by decide, by decide⟩ (fun h_5 => ?_) (fun h_5 => ?_)
    · refine k_iload dL_law_438 10 rfl ?_
      refine k_bipush (v := 6) dL_law_440 (by decide) ?_
      refine k_icmp_ge (tgt := 460) dL_law_442 rfl ⟨by omega, by omega⟩ ⟨by decide, by decide⟩ (fun h_6 => ?_) (fun h_6 => ?_)
      · refine k_iload dL_law_460 10 rfl ?_
        refine k_bipush (v := 6) dL_law_462 (by decide) ?_
        refine k_icmp_ne (tgt := 506) dL_law_464 rfl ⟨by omega, by omega⟩ ⟨by decide, by decide⟩ (fun h_7 => ?_) (fun h_7 => ?_)
        · refine k_iconst (v := 0) dL_law_506 rfl ?_
          refine k_istore (ls' := [(0, .ref 1000000), (1, .ref 0), (2, .int (iI (S))), (3, .int (iI (Pn))), (4, .int (iI (B))), (5, .int (iI ((i363 : Int)))), (6, .int (iI (z))), (7, .int (iI (p7))), (8, .int (iI (x8))), (9, .int (iI (y9))), (10, .int (iI (w10))), (11, .int (iI (0)))]) dL_law_507 (by decide) rfl rfl ?_
          refine k_iconst (v := 0) dL_law_509 rfl ?_
          refine k_istore (ls' := [(0, .ref 1000000), (1, .ref 0), (2, .int (iI (S))), (3, .int (iI (Pn))), (4, .int (iI (B))), (5, .int (iI ((i363 : Int)))), (6, .int (iI (z))), (7, .int (iI (p7))), (8, .int (iI (x8))), (9, .int (iI (y9))), (10, .int (iI (w10))), (11, .int (iI (0))), (12, .int (iI (0)))]) dL_law_510 (by decide) rfl rfl ?_
          refine k_less (k' := 1 * (B.toNat - 0) + (2300 + (3300 * (14 - (i363 + 1)) + 910))) (n' := 6 * (B.toNat - 0) + (13600 + (19800 * (14 - (i363 + 1)) + 5460))) (by omega) (by omega) ?_
          refine k_down (P := fun i512 : Nat => k_V E mL_law _ 512 [(0, .ref 1000000), (1, .ref 0), (2, .int (iI (S))), (3, .int (iI (Pn))), (4, .int (iI (B))), (5, .int (iI ((i363 : Int)))), (6, .int (iI (z))), (7, .int (iI (p7))), (8, .int (iI (x8))), (9, .int (iI (y9))), (10, .int (iI (w10))), (11, .int (iI (f_lessonsN τ363 p7 i512))), (12, .int (iI ((i512 : Int))))] [] sh363 τ363 (1 * (B.toNat - i512) + (2300 + (3300 * (14 - (i363 + 1)) + 910))) (6 * (B.toNat - i512) + (13600 + (19800 * (14 - (i363 + 1)) + 5460))) _) (B.toNat) ?_ ?_
          · refine k_less (k' := 2300 + (3300 * (14 - (i363 + 1)) + 910)) (n' := 13600 + (19800 * (14 - (i363 + 1)) + 5460)) (by omega) (by omega) ?_
            have hln := f_lessonsN_r τ363 p7 (B.toNat)
            refine k_iload dL_law_512 12 rfl ?_
            refine k_iload dL_law_514 4 rfl ?_
            refine k_icmp_ge (tgt := 546) dL_law_516 rfl ⟨by omega, by omega⟩ ⟨by omega, by omega⟩ (fun h_8 => ?_) (fun h_8 => absurd h_8 (by omega))
            refine k_aload_n dL_law_546 1 rfl rfl (by decide) ?_
            refine k_iload dL_law_547 7 rfl ?_
            have hwv : (f_lessons τ363 p7 = 0 → p_wv τ363 p7 = -1002) ∧ (f_lessons τ363 p7 ≠ 0 → p_wv τ363 p7 = f_lessons τ363 p7) := ⟨fun y => if_pos y, fun y => if_neg y⟩
            have hle : f_lessonsN τ363 p7 B.toNat = f_lessons τ363 p7 := by unfold f_lessons; rw [h363.2.2.2.1]
            refine k_less (k' := 1 + (2299 + (3300 * (14 - (i363 + 1)) + 910))) (n' := 6 + (13594 + (19800 * (14 - (i363 + 1)) + 5460))) (by omega) (by omega) ?_
            refine p_callW (k1 := 1) (n1 := 6) (k := 2299 + (3300 * (14 - (i363 + 1)) + 910)) (n := 13594 + (19800 * (14 - (i363 + 1)) + 5460)) (st := []) (as := [.ref 0, .int (iI (p7))]) dL_law_549 oL_withdraw rfl w_p872 w_1087 (by decide) rfl (Nat.le_of_ble_eq_true rfl) (v_withdraw (p_Sh_main h363.1) h363.2.1 ⟨hp7.1, by have := h363.2.2.2.2; omega⟩) ?_
            have h4n := l_4m (l_wd (p := p7) h363) (show 3 * i363 ≤ 3 * (i363 + 1) by omega)
            refine k_iload dL_law_552 11 rfl ?_
            refine k_if_ne (tgt := 563) dL_law_554 rfl ⟨by omega, by omega⟩ (fun h_9 => ?_) (fun h_9 => ?_)
            · refine k_iload dL_law_563 11 rfl ?_
              refine k_icmp_eq (tgt := 570) dL_law_565 rfl ⟨by omega, by omega⟩ ⟨by omega, by omega⟩ (fun h_10 => ?_) (fun h_10 => absurd h_10 (by omega))
              refine k_aload_n dL_law_570 1 rfl rfl (by decide) ?_
              refine k_less (k' := 2200 + (99 + (3300 * (14 - (i363 + 1)) + 910))) (n' := 13000 + (594 + (19800 * (14 - (i363 + 1)) + 5460))) (by omega) (by omega) ?_
              refine p_callS (k1 := 2200) (n1 := 13000) (k := 99 + (3300 * (14 - (i363 + 1)) + 910)) (n := 594 + (19800 * (14 - (i363 + 1)) + 5460)) (st := []) (as := [.ref 0]) dL_law_571 oL_classes rfl w_p907 w_p908 (by decide) rfl (Nat.le_of_ble_eq_true rfl) (c_classes (p_Sh_main h4n.1) h4n.2.1) ?_
              refine k_if_ne (tgt := 579) dL_law_574 rfl ⟨by decide, by decide⟩ (fun h_11 => ?_) (fun h_11 => absurd h_11 (by decide))
              refine k_iinc (ls' := [(0, .ref 1000000), (1, .ref 0), (2, .int (iI (S))), (3, .int (iI (Pn))), (4, .int (iI (B))), (5, .int (iI ((i363 : Int) + 1))), (6, .int (iI (z))), (7, .int (iI (p7))), (8, .int (iI (x8))), (9, .int (iI (y9))), (10, .int (iI (w10))), (11, .int (iI (f_lessonsN τ363 p7 (B.toNat)))), (12, .int (iI (((B.toNat : Nat) : Int))))]) dL_law_579 5 rfl (by decide) rfl rfl ?_
              refine k_goto (tgt := 363) dL_law_582 rfl ?_
              refine k_dropr (ls' := [(0, .ref 1000000), (1, .ref 0), (2, .int (iI (S))), (3, .int (iI (Pn))), (4, .int (iI (B))), (5, .int (iI ((i363 : Int) + 1)))]) (ex := [(6, .int (iI (z))), (7, .int (iI (p7))), (8, .int (iI (x8))), (9, .int (iI (y9))), (10, .int (iI (w10))), (11, .int (iI (f_lessonsN τ363 p7 (B.toNat)))), (12, .int (iI (((B.toNat : Nat) : Int))))]) rfl ?_
              refine k_lrw (q := 5) (j := 5) (a' := ((i363 + 1 : Nat) : Int)) (ls' := [(0, .ref 1000000), (1, .ref 0), (2, .int (iI (S))), (3, .int (iI (Pn))), (4, .int (iI (B))), (5, .int (iI (((i363 + 1 : Nat) : Int))))]) rfl (by omega) rfl ?_
              refine k_less (k' := 3300 * (14 - (i363 + 1)) + 910) (n' := 19800 * (14 - (i363 + 1)) + 5460) (by omega) (by omega) ?_
              exact ih363 _ _ h4n
            · refine k_sipush (v := (-1002)) dL_law_557 (by decide) ?_
              refine k_goto (tgt := 565) dL_law_560 rfl ?_
              refine k_icmp_eq (tgt := 570) dL_law_565 rfl ⟨by omega, by omega⟩ ⟨by decide, by decide⟩ (fun h_12 => ?_) (fun h_12 => absurd h_12 (by omega))
              refine k_aload_n dL_law_570 1 rfl rfl (by decide) ?_
              refine k_less (k' := 2200 + (99 + (3300 * (14 - (i363 + 1)) + 910))) (n' := 13000 + (594 + (19800 * (14 - (i363 + 1)) + 5460))) (by omega) (by omega) ?_
              refine p_callS (k1 := 2200) (n1 := 13000) (k := 99 + (3300 * (14 - (i363 + 1)) + 910)) (n := 594 + (19800 * (14 - (i363 + 1)) + 5460)) (st := []) (as := [.ref 0]) dL_law_571 oL_classes rfl w_p907 w_p908 (by decide) rfl (Nat.le_of_ble_eq_true rfl) (c_classes (p_Sh_main h4n.1) h4n.2.1) ?_
              refine k_if_ne (tgt := 579) dL_law_574 rfl ⟨by decide, by decide⟩ (fun h_13 => ?_) (fun h_13 => absurd h_13 (by decide))
              refine k_iinc (ls' := [(0, .ref 1000000), (1, .ref 0), (2, .int (iI (S))), (3, .int (iI (Pn))), (4, .int (iI (B))), (5, .int (iI ((i363 : Int) + 1))), (6, .int (iI (z))), (7, .int (iI (p7))), (8, .int (iI (x8))), (9, .int (iI (y9))), (10, .int (iI (w10))), (11, .int (iI (f_lessonsN τ363 p7 (B.toNat)))), (12, .int (iI (((B.toNat : Nat) : Int))))]) dL_law_579 5 rfl (by decide) rfl rfl ?_
              refine k_goto (tgt := 363) dL_law_582 rfl ?_
              refine k_dropr (ls' := [(0, .ref 1000000), (1, .ref 0), (2, .int (iI (S))), (3, .int (iI (Pn))), (4, .int (iI (B))), (5, .int (iI ((i363 : Int) + 1)))]) (ex := [(6, .int (iI (z))), (7, .int (iI (p7))), (8, .int (iI (x8))), (9, .int (iI (y9))), (10, .int (iI (w10))), (11, .int (iI (f_lessonsN τ363 p7 (B.toNat)))), (12, .int (iI (((B.toNat : Nat) : Int))))]) rfl ?_
              refine k_lrw (q := 5) (j := 5) (a' := ((i363 + 1 : Nat) : Int)) (ls' := [(0, .ref 1000000), (1, .ref 0), (2, .int (iI (S))), (3, .int (iI (Pn))), (4, .int (iI (B))), (5, .int (iI (((i363 + 1 : Nat) : Int))))]) rfl (by omega) rfl ?_
              refine k_less (k' := 3300 * (14 - (i363 + 1)) + 910) (n' := 19800 * (14 - (i363 + 1)) + 5460) (by omega) (by omega) ?_
              exact ih363 _ _ h4n
          · intro i512 hi512 ih512
            refine k_less (k' := 1 + (1 * (B.toNat - (i512 + 1)) + (2300 + (3300 * (14 - (i363 + 1)) + 910)))) (n' := 6 + (6 * (B.toNat - (i512 + 1)) + (13600 + (19800 * (14 - (i363 + 1)) + 5460)))) (by omega) (by omega) ?_
            have hln := f_lessonsN_r τ363 p7 i512
            refine k_iload dL_law_512 12 rfl ?_
            refine k_iload dL_law_514 4 rfl ?_
            refine k_icmp_ge (tgt := 546) dL_law_516 rfl ⟨by omega, by omega⟩ ⟨by omega, by omega⟩ (fun h_14 => absurd h_14 (by omega)) (fun h_14 => ?_)
            refine k_iload dL_law_519 11 rfl ?_
            refine k_aload_n dL_law_521 1 rfl rfl (by decide) ?_
            refine k_iload dL_law_522 7 rfl ?_
            refine k_iload dL_law_524 12 rfl ?_
            have hfl := f_lesson_r h363.2.1.1.1.1 p7 (i512 : Int)
            have hsr := h363.2.1.1.1.1.1
            refine k_less (k' := 1 + (1 * (B.toNat - (i512 + 1)) + (2300 + (3300 * (14 - (i363 + 1)) + 910)))) (n' := 6 + (6 * (B.toNat - (i512 + 1)) + (13600 + (19800 * (14 - (i363 + 1)) + 5460)))) (by omega) (by omega) ?_
            refine p_callW (k1 := 1) (n1 := 6) (k := 1 * (B.toNat - (i512 + 1)) + (2300 + (3300 * (14 - (i363 + 1)) + 910))) (n := 6 * (B.toNat - (i512 + 1)) + (13600 + (19800 * (14 - (i363 + 1)) + 5460))) (st := [.int (iI (f_lessonsN τ363 p7 i512))]) (as := [.ref 0, .int (iI (p7)), .int (iI ((i512 : Int)))]) dL_law_526 oL_subjectIn rfl w_p840 w_1060 (by decide) rfl (Nat.le_of_ble_eq_true rfl) (v_subjectIn (p_Sh_main h363.1) h363.2.1 ⟨hp7.1, by have := h363.2.2.2.2; omega⟩ (b := (i512 : Int)) ⟨by omega, by have := h363.2.2.2.1; omega⟩) ?_
            refine k_if_lt (tgt := 536) dL_law_529 rfl ⟨by omega, by omega⟩ (fun h_15 => ?_) (fun h_15 => ?_)
            · refine k_iconst (v := 0) dL_law_536 rfl ?_
              refine k_iadd dL_law_537 ?_
              refine k_istore (ls' := [(0, .ref 1000000), (1, .ref 0), (2, .int (iI (S))), (3, .int (iI (Pn))), (4, .int (iI (B))), (5, .int (iI ((i363 : Int)))), (6, .int (iI (z))), (7, .int (iI (p7))), (8, .int (iI (x8))), (9, .int (iI (y9))), (10, .int (iI (w10))), (11, .int (iI ((f_lessonsN τ363 p7 i512) + 0))), (12, .int (iI ((i512 : Int))))]) dL_law_538 (by decide) rfl rfl ?_
              refine k_iinc (ls' := [(0, .ref 1000000), (1, .ref 0), (2, .int (iI (S))), (3, .int (iI (Pn))), (4, .int (iI (B))), (5, .int (iI ((i363 : Int)))), (6, .int (iI (z))), (7, .int (iI (p7))), (8, .int (iI (x8))), (9, .int (iI (y9))), (10, .int (iI (w10))), (11, .int (iI ((f_lessonsN τ363 p7 i512) + 0))), (12, .int (iI ((i512 : Int) + 1)))]) dL_law_540 12 rfl (by decide) rfl rfl ?_
              refine k_goto (tgt := 512) dL_law_543 rfl ?_
              refine k_lrw (q := 11) (j := 11) (a' := f_lessonsN τ363 p7 (i512 + 1)) (ls' := [(0, .ref 1000000), (1, .ref 0), (2, .int (iI (S))), (3, .int (iI (Pn))), (4, .int (iI (B))), (5, .int (iI ((i363 : Int)))), (6, .int (iI (z))), (7, .int (iI (p7))), (8, .int (iI (x8))), (9, .int (iI (y9))), (10, .int (iI (w10))), (11, .int (iI (f_lessonsN τ363 p7 (i512 + 1)))), (12, .int (iI ((i512 : Int) + 1)))]) rfl (by rw [p_lessons_s, zb_f (by omega)]) rfl ?_
              refine k_lrw (q := 12) (j := 12) (a' := ((i512 + 1 : Nat) : Int)) (ls' := [(0, .ref 1000000), (1, .ref 0), (2, .int (iI (S))), (3, .int (iI (Pn))), (4, .int (iI (B))), (5, .int (iI ((i363 : Int)))), (6, .int (iI (z))), (7, .int (iI (p7))), (8, .int (iI (x8))), (9, .int (iI (y9))), (10, .int (iI (w10))), (11, .int (iI (f_lessonsN τ363 p7 (i512 + 1)))), (12, .int (iI (((i512 + 1 : Nat) : Int))))]) rfl (by omega) rfl ?_
              refine k_less (k' := 1 * (B.toNat - (i512 + 1)) + (2300 + (3300 * (14 - (i363 + 1)) + 910))) (n' := 6 * (B.toNat - (i512 + 1)) + (13600 + (19800 * (14 - (i363 + 1)) + 5460))) (by omega) (by omega) ?_
              exact ih512
            · refine k_iconst (v := 1) dL_law_532 rfl ?_
              refine k_goto (tgt := 537) dL_law_533 rfl ?_
              refine k_iadd dL_law_537 ?_
              refine k_istore (ls' := [(0, .ref 1000000), (1, .ref 0), (2, .int (iI (S))), (3, .int (iI (Pn))), (4, .int (iI (B))), (5, .int (iI ((i363 : Int)))), (6, .int (iI (z))), (7, .int (iI (p7))), (8, .int (iI (x8))), (9, .int (iI (y9))), (10, .int (iI (w10))), (11, .int (iI ((f_lessonsN τ363 p7 i512) + 1))), (12, .int (iI ((i512 : Int))))]) dL_law_538 (by decide) rfl rfl ?_
              refine k_iinc (ls' := [(0, .ref 1000000), (1, .ref 0), (2, .int (iI (S))), (3, .int (iI (Pn))), (4, .int (iI (B))), (5, .int (iI ((i363 : Int)))), (6, .int (iI (z))), (7, .int (iI (p7))), (8, .int (iI (x8))), (9, .int (iI (y9))), (10, .int (iI (w10))), (11, .int (iI ((f_lessonsN τ363 p7 i512) + 1))), (12, .int (iI ((i512 : Int) + 1)))]) dL_law_540 12 rfl (by decide) rfl rfl ?_
              refine k_goto (tgt := 512) dL_law_543 rfl ?_
              refine k_lrw (q := 11) (j := 11) (a' := f_lessonsN τ363 p7 (i512 + 1)) (ls' := [(0, .ref 1000000), (1, .ref 0), (2, .int (iI (S))), (3, .int (iI (Pn))), (4, .int (iI (B))), (5, .int (iI ((i363 : Int)))), (6, .int (iI (z))), (7, .int (iI (p7))), (8, .int (iI (x8))), (9, .int (iI (y9))), (10, .int (iI (w10))), (11, .int (iI (f_lessonsN τ363 p7 (i512 + 1)))), (12, .int (iI ((i512 : Int) + 1)))]) rfl (by rw [p_lessons_s, zb_t (by omega)]) rfl ?_
              refine k_lrw (q := 12) (j := 12) (a' := ((i512 + 1 : Nat) : Int)) (ls' := [(0, .ref 1000000), (1, .ref 0), (2, .int (iI (S))), (3, .int (iI (Pn))), (4, .int (iI (B))), (5, .int (iI ((i363 : Int)))), (6, .int (iI (z))), (7, .int (iI (p7))), (8, .int (iI (x8))), (9, .int (iI (y9))), (10, .int (iI (w10))), (11, .int (iI (f_lessonsN τ363 p7 (i512 + 1)))), (12, .int (iI (((i512 + 1 : Nat) : Int))))]) rfl (by omega) rfl ?_
              refine k_less (k' := 1 * (B.toNat - (i512 + 1)) + (2300 + (3300 * (14 - (i363 + 1)) + 910))) (n' := 6 * (B.toNat - (i512 + 1)) + (13600 + (19800 * (14 - (i363 + 1)) + 5460))) (by omega) (by omega) ?_
              exact ih512
        · refine k_aload_n dL_law_467 1 rfl rfl (by decide) ?_
          refine k_iload dL_law_468 7 rfl ?_
          refine k_iload dL_law_470 8 rfl ?_
          have htr := f_taken_r h363.2.1.1.1.1 p7 x8
          have hbr := h363.2.1.1.1.1.2.1
          refine k_less (k' := 1 + (3299 + (3300 * (14 - (i363 + 1)) + 910))) (n' := 6 + (19794 + (19800 * (14 - (i363 + 1)) + 5460))) (by omega) (by omega) ?_
          refine p_callW (k1 := 1) (n1 := 6) (k := 3299 + (3300 * (14 - (i363 + 1)) + 910)) (n := 19794 + (19800 * (14 - (i363 + 1)) + 5460)) (st := []) (as := [.ref 0, .int (iI (p7)), .int (iI (x8))]) dL_law_472 oL_blockOf rfl w_p856 w_1072 (by decide) rfl (Nat.le_of_ble_eq_true rfl) (v_blockOf (p_Sh_main h363.1) h363.2.1 ⟨hp7.1, by have := h363.2.2.2.2; omega⟩ ⟨hx8.1, by have := h363.2.2.1; omega⟩) ?_
          refine k_istore (ls' := [(0, .ref 1000000), (1, .ref 0), (2, .int (iI (S))), (3, .int (iI (Pn))), (4, .int (iI (B))), (5, .int (iI ((i363 : Int)))), (6, .int (iI (z))), (7, .int (iI (p7))), (8, .int (iI (x8))), (9, .int (iI (y9))), (10, .int (iI (w10))), (11, .int (iI (f_taken τ363 p7 x8)))]) dL_law_475 (by decide) rfl rfl ?_
          refine k_aload_n dL_law_477 1 rfl rfl (by decide) ?_
          refine k_iload dL_law_478 7 rfl ?_
          refine k_iload dL_law_480 8 rfl ?_
          have hqv : (f_taken τ363 p7 x8 = -1 → p_qv τ363 p7 x8 = -1002) ∧ (f_taken τ363 p7 x8 ≠ -1 → p_qv τ363 p7 x8 = f_taken τ363 p7 x8) := ⟨fun y => if_pos y, fun y => if_neg y⟩
          refine k_less (k' := 1 + (3298 + (3300 * (14 - (i363 + 1)) + 910))) (n' := 6 + (19788 + (19800 * (14 - (i363 + 1)) + 5460))) (by omega) (by omega) ?_
          refine p_callW (k1 := 1) (n1 := 6) (k := 3298 + (3300 * (14 - (i363 + 1)) + 910)) (n := 19788 + (19800 * (14 - (i363 + 1)) + 5460)) (st := []) (as := [.ref 0, .int (iI (p7)), .int (iI (x8))]) dL_law_482 oL_quit rfl w_p900 w_1226 (by decide) rfl (Nat.le_of_ble_eq_true rfl) (v_quit (p_Sh_main h363.1) h363.2.1 ⟨hp7.1, by have := h363.2.2.2.2; omega⟩ ⟨hx8.1, by have := h363.2.2.1; omega⟩) ?_
          have h4n := l_4m (l_quit (p := p7) (s := x8) h363) (show 3 * i363 ≤ 3 * (i363 + 1) by omega)
          refine k_iload dL_law_485 11 rfl ?_
          refine k_if_ge (tgt := 496) dL_law_487 rfl ⟨by omega, by omega⟩ (fun h_16 => ?_) (fun h_16 => ?_)
          · refine k_iload dL_law_496 11 rfl ?_
            refine k_icmp_eq (tgt := 503) dL_law_498 rfl ⟨by omega, by omega⟩ ⟨by omega, by omega⟩ (fun h_17 => ?_) (fun h_17 => absurd h_17 (by omega))
            refine k_goto (tgt := 570) dL_law_503 rfl ?_
            refine k_aload_n dL_law_570 1 rfl rfl (by decide) ?_
            refine k_less (k' := 2200 + (1098 + (3300 * (14 - (i363 + 1)) + 910))) (n' := 13000 + (6788 + (19800 * (14 - (i363 + 1)) + 5460))) (by omega) (by omega) ?_
            refine p_callS (k1 := 2200) (n1 := 13000) (k := 1098 + (3300 * (14 - (i363 + 1)) + 910)) (n := 6788 + (19800 * (14 - (i363 + 1)) + 5460)) (st := []) (as := [.ref 0]) dL_law_571 oL_classes rfl w_p907 w_p908 (by decide) rfl (Nat.le_of_ble_eq_true rfl) (c_classes (p_Sh_main h4n.1) h4n.2.1) ?_
            refine k_if_ne (tgt := 579) dL_law_574 rfl ⟨by decide, by decide⟩ (fun h_18 => ?_) (fun h_18 => absurd h_18 (by decide))
            refine k_iinc (ls' := [(0, .ref 1000000), (1, .ref 0), (2, .int (iI (S))), (3, .int (iI (Pn))), (4, .int (iI (B))), (5, .int (iI ((i363 : Int) + 1))), (6, .int (iI (z))), (7, .int (iI (p7))), (8, .int (iI (x8))), (9, .int (iI (y9))), (10, .int (iI (w10))), (11, .int (iI (f_taken τ363 p7 x8)))]) dL_law_579 5 rfl (by decide) rfl rfl ?_
            refine k_goto (tgt := 363) dL_law_582 rfl ?_
            refine k_dropr (ls' := [(0, .ref 1000000), (1, .ref 0), (2, .int (iI (S))), (3, .int (iI (Pn))), (4, .int (iI (B))), (5, .int (iI ((i363 : Int) + 1)))]) (ex := [(6, .int (iI (z))), (7, .int (iI (p7))), (8, .int (iI (x8))), (9, .int (iI (y9))), (10, .int (iI (w10))), (11, .int (iI (f_taken τ363 p7 x8)))]) rfl ?_
            refine k_lrw (q := 5) (j := 5) (a' := ((i363 + 1 : Nat) : Int)) (ls' := [(0, .ref 1000000), (1, .ref 0), (2, .int (iI (S))), (3, .int (iI (Pn))), (4, .int (iI (B))), (5, .int (iI (((i363 + 1 : Nat) : Int))))]) rfl (by omega) rfl ?_
            refine k_less (k' := 3300 * (14 - (i363 + 1)) + 910) (n' := 19800 * (14 - (i363 + 1)) + 5460) (by omega) (by omega) ?_
            exact ih363 _ _ h4n
          · refine k_sipush (v := (-1002)) dL_law_490 (by decide) ?_
            refine k_goto (tgt := 498) dL_law_493 rfl ?_
            refine k_icmp_eq (tgt := 503) dL_law_498 rfl ⟨by omega, by omega⟩ ⟨by decide, by decide⟩ (fun h_19 => ?_) (fun h_19 => absurd h_19 (by omega))
            refine k_goto (tgt := 570) dL_law_503 rfl ?_
            refine k_aload_n dL_law_570 1 rfl rfl (by decide) ?_
            refine k_less (k' := 2200 + (1098 + (3300 * (14 - (i363 + 1)) + 910))) (n' := 13000 + (6788 + (19800 * (14 - (i363 + 1)) + 5460))) (by omega) (by omega) ?_
            refine p_callS (k1 := 2200) (n1 := 13000) (k := 1098 + (3300 * (14 - (i363 + 1)) + 910)) (n := 6788 + (19800 * (14 - (i363 + 1)) + 5460)) (st := []) (as := [.ref 0]) dL_law_571 oL_classes rfl w_p907 w_p908 (by decide) rfl (Nat.le_of_ble_eq_true rfl) (c_classes (p_Sh_main h4n.1) h4n.2.1) ?_
            refine k_if_ne (tgt := 579) dL_law_574 rfl ⟨by decide, by decide⟩ (fun h_20 => ?_) (fun h_20 => absurd h_20 (by decide))
            refine k_iinc (ls' := [(0, .ref 1000000), (1, .ref 0), (2, .int (iI (S))), (3, .int (iI (Pn))), (4, .int (iI (B))), (5, .int (iI ((i363 : Int) + 1))), (6, .int (iI (z))), (7, .int (iI (p7))), (8, .int (iI (x8))), (9, .int (iI (y9))), (10, .int (iI (w10))), (11, .int (iI (f_taken τ363 p7 x8)))]) dL_law_579 5 rfl (by decide) rfl rfl ?_
            refine k_goto (tgt := 363) dL_law_582 rfl ?_
            refine k_dropr (ls' := [(0, .ref 1000000), (1, .ref 0), (2, .int (iI (S))), (3, .int (iI (Pn))), (4, .int (iI (B))), (5, .int (iI ((i363 : Int) + 1)))]) (ex := [(6, .int (iI (z))), (7, .int (iI (p7))), (8, .int (iI (x8))), (9, .int (iI (y9))), (10, .int (iI (w10))), (11, .int (iI (f_taken τ363 p7 x8)))]) rfl ?_
            refine k_lrw (q := 5) (j := 5) (a' := ((i363 + 1 : Nat) : Int)) (ls' := [(0, .ref 1000000), (1, .ref 0), (2, .int (iI (S))), (3, .int (iI (Pn))), (4, .int (iI (B))), (5, .int (iI (((i363 + 1 : Nat) : Int))))]) rfl (by omega) rfl ?_
            refine k_less (k' := 3300 * (14 - (i363 + 1)) + 910) (n' := 19800 * (14 - (i363 + 1)) + 5460) (by omega) (by omega) ?_
            exact ih363 _ _ h4n
      · refine k_aload_n dL_law_445 1 rfl rfl (by decide) ?_
        refine k_iload dL_law_446 7 rfl ?_
        refine k_iload dL_law_448 8 rfl ?_
        refine k_iload dL_law_450 9 rfl ?_
        refine k_less (k' := 1000 + (2300 + (3300 * (14 - (i363 + 1)) + 910))) (n' := 6000 + (13800 + (19800 * (14 - (i363 + 1)) + 5460))) (by omega) (by omega) ?_
        refine p_callQ (k1 := 1000) (n1 := 6000) (k := 2300 + (3300 * (14 - (i363 + 1)) + 910)) (n := 13800 + (19800 * (14 - (i363 + 1)) + 5460)) (st := []) (as := [.ref 0, .int (iI (p7)), .int (iI (x8)), .int (iI (y9))]) dL_law_452 oL_changes rfl w_p1115 w_p1116 (by decide) rfl (Nat.le_of_ble_eq_true rfl) (c_changes h363.1 (by omega) h363.2.1 ⟨hp7.1, by have := h363.2.2.2.2; omega⟩ ⟨hx8.1, by have := h363.2.2.1; omega⟩ ⟨hy9.1, by have := h363.2.2.1; omega⟩) (k_okl_l (Or.inr (Nat.le_refl _)) (k_okl_l (Or.inl (by show (0 : Nat) < _; omega)) (k_okl_l True.intro (k_okl_l True.intro (k_okl_l True.intro (k_okl_l True.intro (k_okl_l True.intro (k_okl_l True.intro (k_okl_l True.intro (k_okl_l True.intro (k_okl_l True.intro k_okl_0))))))))))) (fun sh_21 τ_22 hq_23 => ?_)
        obtain ⟨hS5, hJ5, h50, h51, h52⟩ := hq_23
        have h4n : l_I4 sh_21 τ_22 S B Pn (3 * (i363 + 1)) := ⟨p_Sh_mono hS5 (by omega), hJ5, h50.trans h363.2.2.1, h51.trans h363.2.2.2.1, h52.trans h363.2.2.2.2⟩
        refine k_if_ne (tgt := 570) dL_law_455 rfl ⟨by decide, by decide⟩ (fun h_24 => ?_) (fun h_24 => absurd h_24 (by decide))
        refine k_aload_n dL_law_570 1 rfl rfl (by decide) ?_
        refine k_less (k' := 2200 + (100 + (3300 * (14 - (i363 + 1)) + 910))) (n' := 13000 + (800 + (19800 * (14 - (i363 + 1)) + 5460))) (by omega) (by omega) ?_
        refine p_callS (k1 := 2200) (n1 := 13000) (k := 100 + (3300 * (14 - (i363 + 1)) + 910)) (n := 800 + (19800 * (14 - (i363 + 1)) + 5460)) (st := []) (as := [.ref 0]) dL_law_571 oL_classes rfl w_p907 w_p908 (by decide) rfl (Nat.le_of_ble_eq_true rfl) (c_classes (p_Sh_main h4n.1) h4n.2.1) ?_
        refine k_if_ne (tgt := 579) dL_law_574 rfl ⟨by decide, by decide⟩ (fun h_25 => ?_) (fun h_25 => absurd h_25 (by decide))
        refine k_iinc (ls' := [(0, .ref 1000000), (1, .ref 0), (2, .int (iI (S))), (3, .int (iI (Pn))), (4, .int (iI (B))), (5, .int (iI ((i363 : Int) + 1))), (6, .int (iI (z))), (7, .int (iI (p7))), (8, .int (iI (x8))), (9, .int (iI (y9))), (10, .int (iI (w10)))]) dL_law_579 5 rfl (by decide) rfl rfl ?_
        refine k_goto (tgt := 363) dL_law_582 rfl ?_
        refine k_dropr (ls' := [(0, .ref 1000000), (1, .ref 0), (2, .int (iI (S))), (3, .int (iI (Pn))), (4, .int (iI (B))), (5, .int (iI ((i363 : Int) + 1)))]) (ex := [(6, .int (iI (z))), (7, .int (iI (p7))), (8, .int (iI (x8))), (9, .int (iI (y9))), (10, .int (iI (w10)))]) rfl ?_
        refine k_lrw (q := 5) (j := 5) (a' := ((i363 + 1 : Nat) : Int)) (ls' := [(0, .ref 1000000), (1, .ref 0), (2, .int (iI (S))), (3, .int (iI (Pn))), (4, .int (iI (B))), (5, .int (iI (((i363 + 1 : Nat) : Int))))]) rfl (by omega) rfl ?_
        refine k_less (k' := 3300 * (14 - (i363 + 1)) + 910) (n' := 19800 * (14 - (i363 + 1)) + 5460) (by omega) (by omega) ?_
        exact ih363 _ _ h4n
    · refine k_aload_n dL_law_425 1 rfl rfl (by decide) ?_
      refine k_iload dL_law_426 7 rfl ?_
      refine k_iload dL_law_428 8 rfl ?_
      refine k_less (k' := 1000 + (2300 + (3300 * (14 - (i363 + 1)) + 910))) (n' := 6000 + (13800 + (19800 * (14 - (i363 + 1)) + 5460))) (by omega) (by omega) ?_
      refine p_callQ (k1 := 1000) (n1 := 6000) (k := 2300 + (3300 * (14 - (i363 + 1)) + 910)) (n := 13800 + (19800 * (14 - (i363 + 1)) + 5460)) (st := []) (as := [.ref 0, .int (iI (p7)), .int (iI (x8))]) dL_law_430 oL_joins rfl w_p1055 w_p1056 (by decide) rfl (Nat.le_of_ble_eq_true rfl) (c_joins h363.1 (by omega) h363.2.1 ⟨hp7.1, by have := h363.2.2.2.2; omega⟩ ⟨hx8.1, by have := h363.2.2.1; omega⟩) (k_okl_l (Or.inr (Nat.le_refl _)) (k_okl_l (Or.inl (by show (0 : Nat) < _; omega)) (k_okl_l True.intro (k_okl_l True.intro (k_okl_l True.intro (k_okl_l True.intro (k_okl_l True.intro (k_okl_l True.intro (k_okl_l True.intro (k_okl_l True.intro (k_okl_l True.intro k_okl_0))))))))))) (fun sh_26 τ_27 hq_28 => ?_)
      obtain ⟨hS5, hJ5, h50, h51, h52⟩ := hq_28
      have h4n : l_I4 sh_26 τ_27 S B Pn (3 * (i363 + 1)) := ⟨p_Sh_mono hS5 (by omega), hJ5, h50.trans h363.2.2.1, h51.trans h363.2.2.2.1, h52.trans h363.2.2.2.2⟩
      refine k_if_ne (tgt := 570) dL_law_433 rfl ⟨by decide, by decide⟩ (fun h_29 => ?_) (fun h_29 => absurd h_29 (by decide))
      refine k_aload_n dL_law_570 1 rfl rfl (by decide) ?_
      refine k_less (k' := 2200 + (100 + (3300 * (14 - (i363 + 1)) + 910))) (n' := 13000 + (800 + (19800 * (14 - (i363 + 1)) + 5460))) (by omega) (by omega) ?_
      refine p_callS (k1 := 2200) (n1 := 13000) (k := 100 + (3300 * (14 - (i363 + 1)) + 910)) (n := 800 + (19800 * (14 - (i363 + 1)) + 5460)) (st := []) (as := [.ref 0]) dL_law_571 oL_classes rfl w_p907 w_p908 (by decide) rfl (Nat.le_of_ble_eq_true rfl) (c_classes (p_Sh_main h4n.1) h4n.2.1) ?_
      refine k_if_ne (tgt := 579) dL_law_574 rfl ⟨by decide, by decide⟩ (fun h_30 => ?_) (fun h_30 => absurd h_30 (by decide))
      refine k_iinc (ls' := [(0, .ref 1000000), (1, .ref 0), (2, .int (iI (S))), (3, .int (iI (Pn))), (4, .int (iI (B))), (5, .int (iI ((i363 : Int) + 1))), (6, .int (iI (z))), (7, .int (iI (p7))), (8, .int (iI (x8))), (9, .int (iI (y9))), (10, .int (iI (w10)))]) dL_law_579 5 rfl (by decide) rfl rfl ?_
      refine k_goto (tgt := 363) dL_law_582 rfl ?_
      refine k_dropr (ls' := [(0, .ref 1000000), (1, .ref 0), (2, .int (iI (S))), (3, .int (iI (Pn))), (4, .int (iI (B))), (5, .int (iI ((i363 : Int) + 1)))]) (ex := [(6, .int (iI (z))), (7, .int (iI (p7))), (8, .int (iI (x8))), (9, .int (iI (y9))), (10, .int (iI (w10)))]) rfl ?_
      refine k_lrw (q := 5) (j := 5) (a' := ((i363 + 1 : Nat) : Int)) (ls' := [(0, .ref 1000000), (1, .ref 0), (2, .int (iI (S))), (3, .int (iI (Pn))), (4, .int (iI (B))), (5, .int (iI (((i363 + 1 : Nat) : Int))))]) rfl (by omega) rfl ?_
      refine k_less (k' := 3300 * (14 - (i363 + 1)) + 910) (n' := 19800 * (14 - (i363 + 1)) + 5460) (by omega) (by omega) ?_
      exact ih363 _ _ h4n
set_option maxHeartbeats 16000000 in
theorem l_enr (hL : k_L E ≤ 2048) (h5 : (1 ≤ S ∧ S ≤ 5) ∧ (1 ≤ Pn ∧ Pn ≤ 8) ∧ (1 ≤ B ∧ B ≤ 4)) (hS : p_Sh sh 0) (hI : l_I3 σ S B Pn 0) : k_V E mL_law 25 241 [(0, .ref 1000000), (1, .ref 0), (2, .int (iI (S))), (3, .int (iI (Pn))), (4, .int (iI (B))), (5, .int (iI (0)))] [] sh σ 47190 283140 k_QL := by
  have hsh := p_Sh_main hS
  have hl0 := p_Sh_len hS
  refine k_less (k' := 10 * (Pn.toNat - 0) + 47110) (n' := 60 * (Pn.toNat - 0) + 282660) (by omega) (by omega) ?_
  refine k_down (P := fun i241 : Nat => ∀ τ241, l_I3 τ241 S B Pn (i241 : Int) → k_V E mL_law _ 241 [(0, .ref 1000000), (1, .ref 0), (2, .int (iI (S))), (3, .int (iI (Pn))), (4, .int (iI (B))), (5, .int (iI ((i241 : Int))))] [] sh τ241 (10 * (Pn.toNat - i241) + 47110) (60 * (Pn.toNat - i241) + 282660) _) (Pn.toNat) ?_ ?_ σ hI
  · intro τ241 h241
    refine k_less (k' := 47110) (n' := 282660) (by omega) (by omega) ?_
    refine k_iload dL_law_241 5 rfl ?_
    refine k_iload_n dL_law_243 3 rfl rfl ?_
    refine k_icmp_ge (tgt := 360) dL_law_244 rfl ⟨by omega, by omega⟩ ⟨by omega, by omega⟩ (fun h_1 => ?_) (fun h_1 => absurd h_1 (by omega))
    refine k_iconst (v := 0) dL_law_360 rfl ?_
    refine k_istore (ls' := [(0, .ref 1000000), (1, .ref 0), (2, .int (iI (S))), (3, .int (iI (Pn))), (4, .int (iI (B))), (5, .int (iI (0)))]) dL_law_361 (by decide) rfl rfl ?_
    exact l_turns hL h5 (l_4 h241 hS)
  · intro i241 hi241 ih241
    intro τ241 h241
    refine k_less (k' := 10 + (10 * (Pn.toNat - (i241 + 1)) + 47110)) (n' := 60 + (60 * (Pn.toNat - (i241 + 1)) + 282660)) (by omega) (by omega) ?_
    refine k_iload dL_law_241 5 rfl ?_
    refine k_iload_n dL_law_243 3 rfl rfl ?_
    refine k_icmp_ge (tgt := 360) dL_law_244 rfl ⟨by omega, by omega⟩ ⟨by omega, by omega⟩ (fun h_2 => absurd h_2 (by omega)) (fun h_2 => ?_)
    refine k_aload_n dL_law_247 1 rfl rfl (by decide) ?_
    refine k_iload dL_law_248 5 rfl ?_
    obtain ⟨VB, hVB⟩ : ∃ y, y = f_vbs (u_roomy τ241 (i241 : Int) 11) := ⟨_, rfl⟩
    have qv := (p_vbs (u_roomy τ241 (i241 : Int) 11)).1
    rw [← hVB] at qv
    obtain ⟨τ1, hQ1, hC1⟩ := q_bestValue (E := E) hsh (p_Q_rf h241.1) (p := (i241 : Int)) ⟨by omega, by have := h241.2.2.2.1; omega⟩
    rw [← hVB] at hC1
    have h31 := l_3q h241 hQ1
    have hv1 : f_vbs (u_roomy τ1 (i241 : Int) 11) = VB := (p_val_pl hQ1.pl _).trans hVB.symm
    refine k_less (k' := 1 + (9 + (10 * (Pn.toNat - (i241 + 1)) + 47110))) (n' := 6 + (54 + (60 * (Pn.toNat - (i241 + 1)) + 282660))) (by omega) (by omega) ?_
    refine p_callW (k1 := 1) (n1 := 6) (k := 9 + (10 * (Pn.toNat - (i241 + 1)) + 47110)) (n := 54 + (60 * (Pn.toNat - (i241 + 1)) + 282660)) (st := []) (as := [.ref 0, .int (iI ((i241 : Int)))]) dL_law_250 oL_bestValue rfl w_p889 w_1104 (by decide) rfl (Nat.le_of_ble_eq_true rfl) (hC1) ?_
    refine k_istore (ls' := [(0, .ref 1000000), (1, .ref 0), (2, .int (iI (S))), (3, .int (iI (Pn))), (4, .int (iI (B))), (5, .int (iI ((i241 : Int)))), (6, .int (iI (VB)))]) dL_law_253 (by decide) rfl rfl ?_
    refine k_aload_n dL_law_255 1 rfl rfl (by decide) ?_
    refine k_iload dL_law_256 5 rfl ?_
    have hC2 := v_enrol (E := E) hsh h31.1 (p := (i241 : Int)) ⟨by omega, by have := h31.2.2.2.1; omega⟩
    rw [(l_3a h31 ⟨by omega, by omega⟩).2, hv1] at hC2
    obtain ⟨h32, hv2, hh2⟩ := l_3b h31 (p := (i241 : Int)) ⟨by omega, by omega⟩
    rw [hv1] at hv2 hh2
    refine k_less (k' := 1 + (8 + (10 * (Pn.toNat - (i241 + 1)) + 47110))) (n' := 6 + (48 + (60 * (Pn.toNat - (i241 + 1)) + 282660))) (by omega) (by omega) ?_
    refine p_callW (k1 := 1) (n1 := 6) (k := 8 + (10 * (Pn.toNat - (i241 + 1)) + 47110)) (n := 48 + (60 * (Pn.toNat - (i241 + 1)) + 282660)) (st := []) (as := [.ref 0, .int (iI ((i241 : Int)))]) dL_law_258 oL_enrol rfl w_p865 w_1080 (by decide) rfl (Nat.le_of_ble_eq_true rfl) (hC2) ?_
    refine k_iload dL_law_261 6 rfl ?_
    refine k_icmp_ne (tgt := 277) dL_law_263 rfl ⟨by omega, by omega⟩ ⟨by omega, by omega⟩ (fun h_3 => absurd h_3 (by omega)) (fun h_3 => ?_)
    refine k_aload_n dL_law_266 1 rfl rfl (by decide) ?_
    refine k_iload dL_law_267 5 rfl ?_
    obtain ⟨τ3, hQ3, hC3⟩ := q_bestValue (E := E) hsh (p_Q_rf h32.1) (p := (i241 : Int)) ⟨by omega, by have := h32.2.2.2.1; omega⟩
    rw [hv2] at hC3
    have h33 := l_3q h32 hQ3
    have hv3 : f_vbs (u_roomy τ3 (i241 : Int) 11) = VB := (p_val_pl hQ3.pl _).trans hv2
    rw [← p_has_pl hQ3.pl] at hh2
    refine k_less (k' := 1 + (7 + (10 * (Pn.toNat - (i241 + 1)) + 47110))) (n' := 6 + (42 + (60 * (Pn.toNat - (i241 + 1)) + 282660))) (by omega) (by omega) ?_
    refine p_callW (k1 := 1) (n1 := 6) (k := 7 + (10 * (Pn.toNat - (i241 + 1)) + 47110)) (n := 42 + (60 * (Pn.toNat - (i241 + 1)) + 282660)) (st := []) (as := [.ref 0, .int (iI ((i241 : Int)))]) dL_law_269 oL_bestValue rfl w_p889 w_1104 (by decide) rfl (Nat.le_of_ble_eq_true rfl) (hC3) ?_
    refine k_iload dL_law_272 6 rfl ?_
    refine k_icmp_eq (tgt := 279) dL_law_274 rfl ⟨by omega, by omega⟩ ⟨by omega, by omega⟩ (fun h_4 => ?_) (fun h_4 => absurd h_4 (by omega))
    refine k_iconst (v := 0) dL_law_279 rfl ?_
    refine k_istore (ls' := [(0, .ref 1000000), (1, .ref 0), (2, .int (iI (S))), (3, .int (iI (Pn))), (4, .int (iI (B))), (5, .int (iI ((i241 : Int)))), (6, .int (iI (VB))), (7, .int (iI (0)))]) dL_law_280 (by decide) rfl rfl ?_
    refine k_iconst (v := 0) dL_law_282 rfl ?_
    refine k_istore (ls' := [(0, .ref 1000000), (1, .ref 0), (2, .int (iI (S))), (3, .int (iI (Pn))), (4, .int (iI (B))), (5, .int (iI ((i241 : Int)))), (6, .int (iI (VB))), (7, .int (iI (0))), (8, .int (iI (0)))]) dL_law_283 (by decide) rfl rfl ?_
    refine k_lrw (q := 7) (j := 7) (a' := zb (p_has τ3 (i241 : Int) 0 = true)) (ls' := [(0, .ref 1000000), (1, .ref 0), (2, .int (iI (S))), (3, .int (iI (Pn))), (4, .int (iI (B))), (5, .int (iI ((i241 : Int)))), (6, .int (iI (VB))), (7, .int (iI (zb (p_has τ3 (i241 : Int) 0 = true)))), (8, .int (iI (0)))]) rfl (rfl) rfl ?_
    refine k_less (k' := 1 * (B.toNat - 0) + (2 + (10 * (Pn.toNat - (i241 + 1)) + 47110))) (n' := 6 * (B.toNat - 0) + (12 + (60 * (Pn.toNat - (i241 + 1)) + 282660))) (by omega) (by omega) ?_
    refine k_down (P := fun i285 : Nat => k_V E mL_law _ 285 [(0, .ref 1000000), (1, .ref 0), (2, .int (iI (S))), (3, .int (iI (Pn))), (4, .int (iI (B))), (5, .int (iI ((i241 : Int)))), (6, .int (iI (VB))), (7, .int (iI (zb (p_has τ3 (i241 : Int) i285 = true)))), (8, .int (iI ((i285 : Int))))] [] sh τ3 (1 * (B.toNat - i285) + (2 + (10 * (Pn.toNat - (i241 + 1)) + 47110))) (6 * (B.toNat - i285) + (12 + (60 * (Pn.toNat - (i241 + 1)) + 282660))) _) (B.toNat) ?_ ?_
    · refine k_less (k' := 2 + (10 * (Pn.toNat - (i241 + 1)) + 47110)) (n' := 12 + (60 * (Pn.toNat - (i241 + 1)) + 282660)) (by omega) (by omega) ?_
      refine k_iload dL_law_285 8 rfl ?_
      refine k_iload dL_law_287 4 rfl ?_
      refine k_icmp_ge (tgt := 321) dL_law_289 rfl ⟨by omega, by omega⟩ ⟨by omega, by omega⟩ (fun h_5 => ?_) (fun h_5 => absurd h_5 (by omega))
      refine k_iload dL_law_321 6 rfl ?_
      refine k_if_le (tgt := 331) dL_law_323 rfl ⟨by omega, by omega⟩ (fun h_6 => ?_) (fun h_6 => ?_)
      · refine k_aload_n dL_law_331 1 rfl rfl (by decide) ?_
        refine k_iload dL_law_332 5 rfl ?_
        have hC4 := v_enrol (E := E) hsh h33.1 (p := (i241 : Int)) ⟨by omega, by have := h33.2.2.2.1; omega⟩
        obtain ⟨hev, h34⟩ := l_3c h33 (p := (i241 : Int)) ⟨by omega, by omega⟩
        rw [hv3] at hev
        have hevr : -2147483648 ≤ p_ev τ3 (i241 : Int) ∧ p_ev τ3 (i241 : Int) < 2147483648 := by rw [hev]; split <;> omega
        have h35 : l_I3 (u_make τ3 7 (i241 : Int) 0 0) S B Pn ((i241 + 1 : Nat) : Int) := by rw [show ((i241 + 1 : Nat) : Int) = (i241 : Int) + 1 by omega]; exact h34
        refine k_less (k' := 1 + (1 + (10 * (Pn.toNat - (i241 + 1)) + 47110))) (n' := 6 + (6 + (60 * (Pn.toNat - (i241 + 1)) + 282660))) (by omega) (by omega) ?_
        refine p_callW (k1 := 1) (n1 := 6) (k := 1 + (10 * (Pn.toNat - (i241 + 1)) + 47110)) (n := 6 + (60 * (Pn.toNat - (i241 + 1)) + 282660)) (st := []) (as := [.ref 0, .int (iI ((i241 : Int)))]) dL_law_334 oL_enrol rfl w_p865 w_1080 (by decide) rfl (Nat.le_of_ble_eq_true rfl) (hC4) ?_
        refine k_iload dL_law_337 7 rfl ?_
        refine k_if_eq (tgt := 348) dL_law_339 rfl (zb_kr _) (fun h_7 => ?_) (fun h_7 => ?_)
        · have h_7 := zb_0.mp h_7
          have hev1 := hev.trans (if_neg h_7)
          have hvb0 : ¬ 0 < VB := fun y => h_7 (hh2 y)
          refine k_iconst (v := 0) dL_law_348 rfl ?_
          refine k_icmp_eq (tgt := 354) dL_law_349 rfl ⟨by omega, by omega⟩ ⟨by decide, by decide⟩ (fun h_8 => ?_) (fun h_8 => absurd h_8 (by omega))
          refine k_iinc (ls' := [(0, .ref 1000000), (1, .ref 0), (2, .int (iI (S))), (3, .int (iI (Pn))), (4, .int (iI (B))), (5, .int (iI ((i241 : Int) + 1))), (6, .int (iI (VB))), (7, .int (iI (zb (p_has τ3 (i241 : Int) (B.toNat) = true)))), (8, .int (iI (((B.toNat : Nat) : Int))))]) dL_law_354 5 rfl (by decide) rfl rfl ?_
          refine k_goto (tgt := 241) dL_law_357 rfl ?_
          refine k_dropr (ls' := [(0, .ref 1000000), (1, .ref 0), (2, .int (iI (S))), (3, .int (iI (Pn))), (4, .int (iI (B))), (5, .int (iI ((i241 : Int) + 1)))]) (ex := [(6, .int (iI (VB))), (7, .int (iI (zb (p_has τ3 (i241 : Int) (B.toNat) = true)))), (8, .int (iI (((B.toNat : Nat) : Int))))]) rfl ?_
          refine k_lrw (q := 5) (j := 5) (a' := ((i241 + 1 : Nat) : Int)) (ls' := [(0, .ref 1000000), (1, .ref 0), (2, .int (iI (S))), (3, .int (iI (Pn))), (4, .int (iI (B))), (5, .int (iI (((i241 + 1 : Nat) : Int))))]) rfl (by omega) rfl ?_
          refine k_less (k' := 10 * (Pn.toNat - (i241 + 1)) + 47110) (n' := 60 * (Pn.toNat - (i241 + 1)) + 282660) (by omega) (by omega) ?_
          exact ih241 _ h35
        · have h_7 := zb_n0.mp h_7
          have hev1 := hev.trans (if_pos h_7)
          refine k_sipush (v := (-1002)) dL_law_342 (by decide) ?_
          refine k_goto (tgt := 349) dL_law_345 rfl ?_
          refine k_icmp_eq (tgt := 354) dL_law_349 rfl ⟨by omega, by omega⟩ ⟨by decide, by decide⟩ (fun h_9 => ?_) (fun h_9 => absurd h_9 (by omega))
          refine k_iinc (ls' := [(0, .ref 1000000), (1, .ref 0), (2, .int (iI (S))), (3, .int (iI (Pn))), (4, .int (iI (B))), (5, .int (iI ((i241 : Int) + 1))), (6, .int (iI (VB))), (7, .int (iI (zb (p_has τ3 (i241 : Int) (B.toNat) = true)))), (8, .int (iI (((B.toNat : Nat) : Int))))]) dL_law_354 5 rfl (by decide) rfl rfl ?_
          refine k_goto (tgt := 241) dL_law_357 rfl ?_
          refine k_dropr (ls' := [(0, .ref 1000000), (1, .ref 0), (2, .int (iI (S))), (3, .int (iI (Pn))), (4, .int (iI (B))), (5, .int (iI ((i241 : Int) + 1)))]) (ex := [(6, .int (iI (VB))), (7, .int (iI (zb (p_has τ3 (i241 : Int) (B.toNat) = true)))), (8, .int (iI (((B.toNat : Nat) : Int))))]) rfl ?_
          refine k_lrw (q := 5) (j := 5) (a' := ((i241 + 1 : Nat) : Int)) (ls' := [(0, .ref 1000000), (1, .ref 0), (2, .int (iI (S))), (3, .int (iI (Pn))), (4, .int (iI (B))), (5, .int (iI (((i241 + 1 : Nat) : Int))))]) rfl (by omega) rfl ?_
          refine k_less (k' := 10 * (Pn.toNat - (i241 + 1)) + 47110) (n' := 60 * (Pn.toNat - (i241 + 1)) + 282660) (by omega) (by omega) ?_
          exact ih241 _ h35
      · refine k_iload dL_law_326 7 rfl ?_
        refine k_if_eq (tgt := 352) dL_law_328 rfl (zb_kr _) (fun h_10 => absurd h_10 (fun y => absurd (hh2 (by omega)) (zb_0.mp y))) (fun h_10 => ?_)
        have h_10 := zb_n0.mp h_10
        refine k_aload_n dL_law_331 1 rfl rfl (by decide) ?_
        refine k_iload dL_law_332 5 rfl ?_
        have hC4 := v_enrol (E := E) hsh h33.1 (p := (i241 : Int)) ⟨by omega, by have := h33.2.2.2.1; omega⟩
        obtain ⟨hev, h34⟩ := l_3c h33 (p := (i241 : Int)) ⟨by omega, by omega⟩
        rw [hv3] at hev
        have hevr : -2147483648 ≤ p_ev τ3 (i241 : Int) ∧ p_ev τ3 (i241 : Int) < 2147483648 := by rw [hev]; split <;> omega
        have h35 : l_I3 (u_make τ3 7 (i241 : Int) 0 0) S B Pn ((i241 + 1 : Nat) : Int) := by rw [show ((i241 + 1 : Nat) : Int) = (i241 : Int) + 1 by omega]; exact h34
        refine k_less (k' := 1 + (1 + (10 * (Pn.toNat - (i241 + 1)) + 47110))) (n' := 6 + (6 + (60 * (Pn.toNat - (i241 + 1)) + 282660))) (by omega) (by omega) ?_
        refine p_callW (k1 := 1) (n1 := 6) (k := 1 + (10 * (Pn.toNat - (i241 + 1)) + 47110)) (n := 6 + (60 * (Pn.toNat - (i241 + 1)) + 282660)) (st := []) (as := [.ref 0, .int (iI ((i241 : Int)))]) dL_law_334 oL_enrol rfl w_p865 w_1080 (by decide) rfl (Nat.le_of_ble_eq_true rfl) (hC4) ?_
        refine k_iload dL_law_337 7 rfl ?_
        refine k_if_eq (tgt := 348) dL_law_339 rfl (zb_kr _) (fun h_11 => ?_) (fun h_11 => ?_)
        · have h_11 := zb_0.mp h_11
          have hev1 := hev.trans (if_neg h_11)
          have hvb0 : ¬ 0 < VB := fun y => h_11 (hh2 y)
          refine k_iconst (v := 0) dL_law_348 rfl ?_
          refine k_icmp_eq (tgt := 354) dL_law_349 rfl ⟨by omega, by omega⟩ ⟨by decide, by decide⟩ (fun h_12 => ?_) (fun h_12 => absurd h_12 (by omega))
          refine k_iinc (ls' := [(0, .ref 1000000), (1, .ref 0), (2, .int (iI (S))), (3, .int (iI (Pn))), (4, .int (iI (B))), (5, .int (iI ((i241 : Int) + 1))), (6, .int (iI (VB))), (7, .int (iI (zb (p_has τ3 (i241 : Int) (B.toNat) = true)))), (8, .int (iI (((B.toNat : Nat) : Int))))]) dL_law_354 5 rfl (by decide) rfl rfl ?_
          refine k_goto (tgt := 241) dL_law_357 rfl ?_
          refine k_dropr (ls' := [(0, .ref 1000000), (1, .ref 0), (2, .int (iI (S))), (3, .int (iI (Pn))), (4, .int (iI (B))), (5, .int (iI ((i241 : Int) + 1)))]) (ex := [(6, .int (iI (VB))), (7, .int (iI (zb (p_has τ3 (i241 : Int) (B.toNat) = true)))), (8, .int (iI (((B.toNat : Nat) : Int))))]) rfl ?_
          refine k_lrw (q := 5) (j := 5) (a' := ((i241 + 1 : Nat) : Int)) (ls' := [(0, .ref 1000000), (1, .ref 0), (2, .int (iI (S))), (3, .int (iI (Pn))), (4, .int (iI (B))), (5, .int (iI (((i241 + 1 : Nat) : Int))))]) rfl (by omega) rfl ?_
          refine k_less (k' := 10 * (Pn.toNat - (i241 + 1)) + 47110) (n' := 60 * (Pn.toNat - (i241 + 1)) + 282660) (by omega) (by omega) ?_
          exact ih241 _ h35
        · have h_11 := zb_n0.mp h_11
          have hev1 := hev.trans (if_pos h_11)
          refine k_sipush (v := (-1002)) dL_law_342 (by decide) ?_
          refine k_goto (tgt := 349) dL_law_345 rfl ?_
          refine k_icmp_eq (tgt := 354) dL_law_349 rfl ⟨by omega, by omega⟩ ⟨by decide, by decide⟩ (fun h_13 => ?_) (fun h_13 => absurd h_13 (by omega))
          refine k_iinc (ls' := [(0, .ref 1000000), (1, .ref 0), (2, .int (iI (S))), (3, .int (iI (Pn))), (4, .int (iI (B))), (5, .int (iI ((i241 : Int) + 1))), (6, .int (iI (VB))), (7, .int (iI (zb (p_has τ3 (i241 : Int) (B.toNat) = true)))), (8, .int (iI (((B.toNat : Nat) : Int))))]) dL_law_354 5 rfl (by decide) rfl rfl ?_
          refine k_goto (tgt := 241) dL_law_357 rfl ?_
          refine k_dropr (ls' := [(0, .ref 1000000), (1, .ref 0), (2, .int (iI (S))), (3, .int (iI (Pn))), (4, .int (iI (B))), (5, .int (iI ((i241 : Int) + 1)))]) (ex := [(6, .int (iI (VB))), (7, .int (iI (zb (p_has τ3 (i241 : Int) (B.toNat) = true)))), (8, .int (iI (((B.toNat : Nat) : Int))))]) rfl ?_
          refine k_lrw (q := 5) (j := 5) (a' := ((i241 + 1 : Nat) : Int)) (ls' := [(0, .ref 1000000), (1, .ref 0), (2, .int (iI (S))), (3, .int (iI (Pn))), (4, .int (iI (B))), (5, .int (iI (((i241 + 1 : Nat) : Int))))]) rfl (by omega) rfl ?_
          refine k_less (k' := 10 * (Pn.toNat - (i241 + 1)) + 47110) (n' := 60 * (Pn.toNat - (i241 + 1)) + 282660) (by omega) (by omega) ?_
          exact ih241 _ h35
    · intro i285 hi285 ih285
      refine k_less (k' := 1 + (1 * (B.toNat - (i285 + 1)) + (2 + (10 * (Pn.toNat - (i241 + 1)) + 47110)))) (n' := 6 + (6 * (B.toNat - (i285 + 1)) + (12 + (60 * (Pn.toNat - (i241 + 1)) + 282660)))) (by omega) (by omega) ?_
      refine k_iload dL_law_285 8 rfl ?_
      refine k_iload dL_law_287 4 rfl ?_
      refine k_icmp_ge (tgt := 321) dL_law_289 rfl ⟨by omega, by omega⟩ ⟨by omega, by omega⟩ (fun h_14 => absurd h_14 (by omega)) (fun h_14 => ?_)
      refine k_iload dL_law_292 7 rfl ?_
      refine k_if_ne (tgt := 308) dL_law_294 rfl (zb_kr _) (fun h_15 => ?_) (fun h_15 => ?_)
      · have h_15 := zb_n0.mp h_15
        refine k_iconst (v := 1) dL_law_308 rfl ?_
        refine k_goto (tgt := 313) dL_law_309 rfl ?_
        refine k_istore (ls' := [(0, .ref 1000000), (1, .ref 0), (2, .int (iI (S))), (3, .int (iI (Pn))), (4, .int (iI (B))), (5, .int (iI ((i241 : Int)))), (6, .int (iI (VB))), (7, .int (iI (1))), (8, .int (iI ((i285 : Int))))]) dL_law_313 (by decide) rfl rfl ?_
        refine k_iinc (ls' := [(0, .ref 1000000), (1, .ref 0), (2, .int (iI (S))), (3, .int (iI (Pn))), (4, .int (iI (B))), (5, .int (iI ((i241 : Int)))), (6, .int (iI (VB))), (7, .int (iI (1))), (8, .int (iI ((i285 : Int) + 1)))]) dL_law_315 8 rfl (by decide) rfl rfl ?_
        refine k_goto (tgt := 285) dL_law_318 rfl ?_
        refine k_lrw (q := 7) (j := 7) (a' := zb (p_has τ3 (i241 : Int) (i285 + 1) = true)) (ls' := [(0, .ref 1000000), (1, .ref 0), (2, .int (iI (S))), (3, .int (iI (Pn))), (4, .int (iI (B))), (5, .int (iI ((i241 : Int)))), (6, .int (iI (VB))), (7, .int (iI (zb (p_has τ3 (i241 : Int) (i285 + 1) = true)))), (8, .int (iI ((i285 : Int) + 1)))]) rfl ((zb_t (by rw [p_has_s, h_15, Bool.true_or])).symm) rfl ?_
        refine k_lrw (q := 8) (j := 8) (a' := ((i285 + 1 : Nat) : Int)) (ls' := [(0, .ref 1000000), (1, .ref 0), (2, .int (iI (S))), (3, .int (iI (Pn))), (4, .int (iI (B))), (5, .int (iI ((i241 : Int)))), (6, .int (iI (VB))), (7, .int (iI (zb (p_has τ3 (i241 : Int) (i285 + 1) = true)))), (8, .int (iI (((i285 + 1 : Nat) : Int))))]) rfl (by omega) rfl ?_
        refine k_less (k' := 1 * (B.toNat - (i285 + 1)) + (2 + (10 * (Pn.toNat - (i241 + 1)) + 47110))) (n' := 6 * (B.toNat - (i285 + 1)) + (12 + (60 * (Pn.toNat - (i241 + 1)) + 282660))) (by omega) (by omega) ?_
        exact ih285
      · have h_15 := zb_0.mp h_15
        refine k_aload_n dL_law_297 1 rfl rfl (by decide) ?_
        refine k_iload dL_law_298 5 rfl ?_
        refine k_iload dL_law_300 8 rfl ?_
        have hfl := f_lesson_r h33.1.1.1.1 (i241 : Int) (i285 : Int)
        have hsr := h33.1.1.1.1.1
        refine k_less (k' := 1 + (1 * (B.toNat - (i285 + 1)) + (2 + (10 * (Pn.toNat - (i241 + 1)) + 47110)))) (n' := 6 + (6 * (B.toNat - (i285 + 1)) + (12 + (60 * (Pn.toNat - (i241 + 1)) + 282660)))) (by omega) (by omega) ?_
        refine p_callW (k1 := 1) (n1 := 6) (k := 1 * (B.toNat - (i285 + 1)) + (2 + (10 * (Pn.toNat - (i241 + 1)) + 47110))) (n := 6 * (B.toNat - (i285 + 1)) + (12 + (60 * (Pn.toNat - (i241 + 1)) + 282660))) (st := []) (as := [.ref 0, .int (iI ((i241 : Int))), .int (iI ((i285 : Int)))]) dL_law_302 oL_subjectIn rfl w_p840 w_1060 (by decide) rfl (Nat.le_of_ble_eq_true rfl) (v_subjectIn hsh h33.1 (p := (i241 : Int)) ⟨by omega, by have := h33.2.2.2.1; omega⟩ (b := (i285 : Int)) ⟨by omega, by have := h33.2.2.1; omega⟩) ?_
        refine k_if_lt (tgt := 312) dL_law_305 rfl ⟨by omega, by omega⟩ (fun h_16 => ?_) (fun h_16 => ?_)
        · refine k_iconst (v := 0) dL_law_312 rfl ?_
          refine k_istore (ls' := [(0, .ref 1000000), (1, .ref 0), (2, .int (iI (S))), (3, .int (iI (Pn))), (4, .int (iI (B))), (5, .int (iI ((i241 : Int)))), (6, .int (iI (VB))), (7, .int (iI (0))), (8, .int (iI ((i285 : Int))))]) dL_law_313 (by decide) rfl rfl ?_
          refine k_iinc (ls' := [(0, .ref 1000000), (1, .ref 0), (2, .int (iI (S))), (3, .int (iI (Pn))), (4, .int (iI (B))), (5, .int (iI ((i241 : Int)))), (6, .int (iI (VB))), (7, .int (iI (0))), (8, .int (iI ((i285 : Int) + 1)))]) dL_law_315 8 rfl (by decide) rfl rfl ?_
          refine k_goto (tgt := 285) dL_law_318 rfl ?_
          refine k_lrw (q := 7) (j := 7) (a' := zb (p_has τ3 (i241 : Int) (i285 + 1) = true)) (ls' := [(0, .ref 1000000), (1, .ref 0), (2, .int (iI (S))), (3, .int (iI (Pn))), (4, .int (iI (B))), (5, .int (iI ((i241 : Int)))), (6, .int (iI (VB))), (7, .int (iI (zb (p_has τ3 (i241 : Int) (i285 + 1) = true)))), (8, .int (iI ((i285 : Int) + 1)))]) rfl ((zb_f (by rw [p_has_s, Bool.or_eq_true]; rintro (y | y); (· exact h_15 y); exact absurd (of_decide_eq_true y) (by omega))).symm) rfl ?_
          refine k_lrw (q := 8) (j := 8) (a' := ((i285 + 1 : Nat) : Int)) (ls' := [(0, .ref 1000000), (1, .ref 0), (2, .int (iI (S))), (3, .int (iI (Pn))), (4, .int (iI (B))), (5, .int (iI ((i241 : Int)))), (6, .int (iI (VB))), (7, .int (iI (zb (p_has τ3 (i241 : Int) (i285 + 1) = true)))), (8, .int (iI (((i285 + 1 : Nat) : Int))))]) rfl (by omega) rfl ?_
          refine k_less (k' := 1 * (B.toNat - (i285 + 1)) + (2 + (10 * (Pn.toNat - (i241 + 1)) + 47110))) (n' := 6 * (B.toNat - (i285 + 1)) + (12 + (60 * (Pn.toNat - (i241 + 1)) + 282660))) (by omega) (by omega) ?_
          exact ih285
        · refine k_iconst (v := 1) dL_law_308 rfl ?_
          refine k_goto (tgt := 313) dL_law_309 rfl ?_
          refine k_istore (ls' := [(0, .ref 1000000), (1, .ref 0), (2, .int (iI (S))), (3, .int (iI (Pn))), (4, .int (iI (B))), (5, .int (iI ((i241 : Int)))), (6, .int (iI (VB))), (7, .int (iI (1))), (8, .int (iI ((i285 : Int))))]) dL_law_313 (by decide) rfl rfl ?_
          refine k_iinc (ls' := [(0, .ref 1000000), (1, .ref 0), (2, .int (iI (S))), (3, .int (iI (Pn))), (4, .int (iI (B))), (5, .int (iI ((i241 : Int)))), (6, .int (iI (VB))), (7, .int (iI (1))), (8, .int (iI ((i285 : Int) + 1)))]) dL_law_315 8 rfl (by decide) rfl rfl ?_
          refine k_goto (tgt := 285) dL_law_318 rfl ?_
          refine k_lrw (q := 7) (j := 7) (a' := zb (p_has τ3 (i241 : Int) (i285 + 1) = true)) (ls' := [(0, .ref 1000000), (1, .ref 0), (2, .int (iI (S))), (3, .int (iI (Pn))), (4, .int (iI (B))), (5, .int (iI ((i241 : Int)))), (6, .int (iI (VB))), (7, .int (iI (zb (p_has τ3 (i241 : Int) (i285 + 1) = true)))), (8, .int (iI ((i285 : Int) + 1)))]) rfl ((zb_t (by rw [p_has_s, decide_eq_true (show 0 ≤ f_lesson τ3 (i241 : Int) (i285 : Int) by omega), Bool.or_true])).symm) rfl ?_
          refine k_lrw (q := 8) (j := 8) (a' := ((i285 + 1 : Nat) : Int)) (ls' := [(0, .ref 1000000), (1, .ref 0), (2, .int (iI (S))), (3, .int (iI (Pn))), (4, .int (iI (B))), (5, .int (iI ((i241 : Int)))), (6, .int (iI (VB))), (7, .int (iI (zb (p_has τ3 (i241 : Int) (i285 + 1) = true)))), (8, .int (iI (((i285 + 1 : Nat) : Int))))]) rfl (by omega) rfl ?_
          refine k_less (k' := 1 * (B.toNat - (i285 + 1)) + (2 + (10 * (Pn.toNat - (i241 + 1)) + 47110))) (n' := 6 * (B.toNat - (i285 + 1)) + (12 + (60 * (Pn.toNat - (i241 + 1)) + 282660))) (by omega) (by omega) ?_
          exact ih285
set_option maxHeartbeats 16000000 in
theorem l_pup (hL : k_L E ≤ 2048) (h5 : (1 ≤ S ∧ S ≤ 5) ∧ (1 ≤ Pn ∧ Pn ≤ 8) ∧ (1 ≤ B ∧ B ≤ 4)) (hS : p_Sh sh 0) (hI : l_I2 σ S B 0) : k_V E mL_law 25 136 [(0, .ref 1000000), (1, .ref 0), (2, .int (iI (S))), (3, .int (iI (Pn))), (4, .int (iI (B))), (5, .int (iI (0)))] [] sh σ 48138 288828 k_QL := by
  have hsh := p_Sh_main hS
  have hl0 := p_Sh_len hS
  refine k_less (k' := 6 * (Pn.toNat - 0) + 48090) (n' := 36 * (Pn.toNat - 0) + 288540) (by omega) (by omega) ?_
  refine k_down (P := fun i136 : Nat => ∀ τ136, l_I2 τ136 S B (i136 : Int) → k_V E mL_law _ 136 [(0, .ref 1000000), (1, .ref 0), (2, .int (iI (S))), (3, .int (iI (Pn))), (4, .int (iI (B))), (5, .int (iI ((i136 : Int))))] [] sh τ136 (6 * (Pn.toNat - i136) + 48090) (36 * (Pn.toNat - i136) + 288540) _) (Pn.toNat) ?_ ?_ σ hI
  · intro τ136 h136
    refine k_less (k' := 48090) (n' := 288540) (by omega) (by omega) ?_
    refine k_iload dL_law_136 5 rfl ?_
    refine k_iload_n dL_law_138 3 rfl rfl ?_
    refine k_icmp_ge (tgt := 229) dL_law_139 rfl ⟨by omega, by omega⟩ ⟨by omega, by omega⟩ (fun h_1 => ?_) (fun h_1 => absurd h_1 (by omega))
    refine k_aload_n dL_law_229 1 rfl rfl (by decide) ?_
    refine k_less (k' := 900 + (47190)) (n' := 5400 + (283140)) (by omega) (by omega) ?_
    refine p_callQ (k1 := 900) (n1 := 5400) (k := 47190) (n := 283140) (st := []) (as := [.ref 0]) dL_law_230 oL_searches rfl w_p976 w_p977 (by decide) rfl (Nat.le_of_ble_eq_true rfl) (c_searches hsh h136.1) (k_okl_l (Or.inr (Nat.le_refl _)) (k_okl_l (Or.inl (by show (0 : Nat) < _; omega)) (k_okl_l True.intro (k_okl_l True.intro (k_okl_l True.intro (k_okl_l True.intro k_okl_0)))))) (fun sh_2 τ_3 hq_4 => ?_)
    obtain ⟨hse, hQe⟩ := hq_4
    rw [hse]
    have h229 := h136
    rw [show ((Pn.toNat : Nat) : Int) = Pn by omega] at h229
    refine k_if_ne (tgt := 238) dL_law_233 rfl ⟨by decide, by decide⟩ (fun h_5 => ?_) (fun h_5 => absurd h_5 (by decide))
    refine k_iconst (v := 0) dL_law_238 rfl ?_
    refine k_istore (ls' := [(0, .ref 1000000), (1, .ref 0), (2, .int (iI (S))), (3, .int (iI (Pn))), (4, .int (iI (B))), (5, .int (iI (0)))]) dL_law_239 (by decide) rfl rfl ?_
    exact l_enr hL h5 hS (l_3 h229 hQe)
  · intro i136 hi136 ih136
    intro τ136 h136
    refine k_less (k' := 6 + (6 * (Pn.toNat - (i136 + 1)) + 48090)) (n' := 36 + (36 * (Pn.toNat - (i136 + 1)) + 288540)) (by omega) (by omega) ?_
    refine k_iload dL_law_136 5 rfl ?_
    refine k_iload_n dL_law_138 3 rfl rfl ?_
    refine k_icmp_ge (tgt := 229) dL_law_139 rfl ⟨by omega, by omega⟩ ⟨by omega, by omega⟩ (fun h_6 => absurd h_6 (by omega)) (fun h_6 => ?_)
    refine k_aload_n dL_law_142 1 rfl rfl (by decide) ?_
    have e2 := h136.2.2.2.1
    obtain ⟨hep, hCp⟩ := v_addPupil (E := E) hsh h136.1 (by omega)
    rw [e2] at hCp
    have h2b := l_2a h136 (by omega) hep
    refine k_less (k' := 1 + (5 + (6 * (Pn.toNat - (i136 + 1)) + 48090))) (n' := 6 + (30 + (36 * (Pn.toNat - (i136 + 1)) + 288540))) (by omega) (by omega) ?_
    refine p_callW (k1 := 1) (n1 := 6) (k := 5 + (6 * (Pn.toNat - (i136 + 1)) + 48090)) (n := 30 + (36 * (Pn.toNat - (i136 + 1)) + 288540)) (st := []) (as := [.ref 0]) dL_law_143 oL_addPupil rfl w_p819 w_1016 (by decide) rfl (Nat.le_of_ble_eq_true rfl) (hCp) ?_
    refine k_iload dL_law_146 5 rfl ?_
    refine k_icmp_eq (tgt := 153) dL_law_148 rfl ⟨by omega, by omega⟩ ⟨by omega, by omega⟩ (fun h_7 => ?_) (fun h_7 => absurd h_7 (by omega))
    refine k_iconst (v := 0) dL_law_153 rfl ?_
    refine k_istore (ls' := [(0, .ref 1000000), (1, .ref 0), (2, .int (iI (S))), (3, .int (iI (Pn))), (4, .int (iI (B))), (5, .int (iI ((i136 : Int)))), (6, .int (iI (0)))]) dL_law_154 (by decide) rfl rfl ?_
    refine k_less (k' := 1 * (3 - 0) + (1 + (6 * (Pn.toNat - (i136 + 1)) + 48090))) (n' := 6 * (3 - 0) + (6 + (36 * (Pn.toNat - (i136 + 1)) + 288540))) (by omega) (by omega) ?_
    refine k_down (P := fun i156 : Nat => ∀ τ156, l_I2b τ156 S B (i136 : Int) i156 → k_V E mL_law _ 156 [(0, .ref 1000000), (1, .ref 0), (2, .int (iI (S))), (3, .int (iI (Pn))), (4, .int (iI (B))), (5, .int (iI ((i136 : Int)))), (6, .int (iI ((i156 : Int))))] [] sh τ156 (1 * (3 - i156) + (1 + (6 * (Pn.toNat - (i136 + 1)) + 48090))) (6 * (3 - i156) + (6 + (36 * (Pn.toNat - (i136 + 1)) + 288540))) _) (3) ?_ ?_ _ h2b
    · intro τ156 h156
      refine k_less (k' := 1 + (6 * (Pn.toNat - (i136 + 1)) + 48090)) (n' := 6 + (36 * (Pn.toNat - (i136 + 1)) + 288540)) (by omega) (by omega) ?_
      refine k_iload dL_law_156 6 rfl ?_
      refine k_iconst (v := 3) dL_law_158 rfl ?_
      refine k_icmp_ge (tgt := 197) dL_law_159 rfl ⟨by omega, by omega⟩ ⟨by decide, by decide⟩ (fun h_8 => ?_) (fun h_8 => absurd h_8 (by omega))
      refine k_aload_n dL_law_197 1 rfl rfl (by decide) ?_
      refine k_iload dL_law_198 5 rfl ?_
      refine k_aload_n dL_law_200 0 rfl rfl (by decide) ?_
      refine k_bipush (v := 16) dL_law_201 (by decide) ?_
      refine k_iconst (v := 4) dL_law_203 rfl ?_
      refine k_iload dL_law_204 5 rfl ?_
      refine k_imul dL_law_206 ?_
      refine k_iadd dL_law_207 ?_
      refine k_iload_n dL_law_208 2 rfl rfl ?_
      obtain ⟨v_9, hv_10, hc_11⟩ := c_pick (E := E) hL (i := 16 + (4 * ((i136 : Int)))) (c := S) ⟨by omega, by omega⟩ ⟨by omega, by omega⟩
      refine k_less (k' := 0 + (1 + (6 * (Pn.toNat - (i136 + 1)) + 48090))) (n' := 0 + (6 + (36 * (Pn.toNat - (i136 + 1)) + 288540))) (by omega) (by omega) ?_
      refine p_callS (k1 := 0) (n1 := 0) (k := 1 + (6 * (Pn.toNat - (i136 + 1)) + 48090)) (n := 6 + (36 * (Pn.toNat - (i136 + 1)) + 288540)) (st := [.int (iI ((i136 : Int))), .ref 0]) (as := [.ref 1000000, .int (iI (16 + (4 * ((i136 : Int))))), .int (iI (S))]) dL_law_209 oL_pick rfl w_p406 w_p407 (by decide) rfl (Nat.le_of_ble_eq_true rfl) (hc_11 _ _) ?_
      obtain ⟨w_12, hw_13, hC_14⟩ := v_setReserve (E := E) hsh h156.1 (p := (i136 : Int)) (s := v_9) ⟨by omega, by have := h156.2.2.2.1; omega⟩ ⟨by omega, by have := h156.2.1; omega⟩
      refine k_less (k' := 1 + (6 * (Pn.toNat - (i136 + 1)) + 48090)) (n' := 6 + (36 * (Pn.toNat - (i136 + 1)) + 288540)) (by omega) (by omega) ?_
      refine p_callW (k1 := 1) (n1 := 6) (k := 6 * (Pn.toNat - (i136 + 1)) + 48090) (n := 36 * (Pn.toNat - (i136 + 1)) + 288540) (st := []) (as := [.ref 0, .int (iI ((i136 : Int))), .int (iI (v_9))]) dL_law_212 oL_setReserve rfl w_p833 w_1030 (by decide) rfl (Nat.le_of_ble_eq_true rfl) (hC_14) ?_
      have h2n : l_I2 (u_make τ156 6 (i136 : Int) v_9 0) S B ((i136 + 1 : Nat) : Int) := by rw [show ((i136 + 1 : Nat) : Int) = (i136 : Int) + 1 by omega]; exact l_2c h156 (by decide) (by omega)
      refine k_sipush (v := (-1001)) dL_law_215 (by decide) ?_
      refine k_icmp_ne (tgt := 223) dL_law_218 rfl ⟨by omega, by omega⟩ ⟨by decide, by decide⟩ (fun h_15 => ?_) (fun h_15 => absurd h_15 (by omega))
      refine k_iinc (ls' := [(0, .ref 1000000), (1, .ref 0), (2, .int (iI (S))), (3, .int (iI (Pn))), (4, .int (iI (B))), (5, .int (iI ((i136 : Int) + 1))), (6, .int (iI (((3 : Nat) : Int))))]) dL_law_223 5 rfl (by decide) rfl rfl ?_
      refine k_goto (tgt := 136) dL_law_226 rfl ?_
      refine k_dropr (ls' := [(0, .ref 1000000), (1, .ref 0), (2, .int (iI (S))), (3, .int (iI (Pn))), (4, .int (iI (B))), (5, .int (iI ((i136 : Int) + 1)))]) (ex := [(6, .int (iI (((3 : Nat) : Int))))]) rfl ?_
      refine k_lrw (q := 5) (j := 5) (a' := ((i136 + 1 : Nat) : Int)) (ls' := [(0, .ref 1000000), (1, .ref 0), (2, .int (iI (S))), (3, .int (iI (Pn))), (4, .int (iI (B))), (5, .int (iI (((i136 + 1 : Nat) : Int))))]) rfl (by omega) rfl ?_
      refine k_less (k' := 6 * (Pn.toNat - (i136 + 1)) + 48090) (n' := 36 * (Pn.toNat - (i136 + 1)) + 288540) (by omega) (by omega) ?_
      exact ih136 _ h2n
    · intro i156 hi156 ih156
      intro τ156 h156
      refine k_less (k' := 1 + (1 * (3 - (i156 + 1)) + (1 + (6 * (Pn.toNat - (i136 + 1)) + 48090)))) (n' := 6 + (6 * (3 - (i156 + 1)) + (6 + (36 * (Pn.toNat - (i136 + 1)) + 288540)))) (by omega) (by omega) ?_
      refine k_iload dL_law_156 6 rfl ?_
      refine k_iconst (v := 3) dL_law_158 rfl ?_
      refine k_icmp_ge (tgt := 197) dL_law_159 rfl ⟨by omega, by omega⟩ ⟨by decide, by decide⟩ (fun h_16 => absurd h_16 (by omega)) (fun h_16 => ?_)
      refine k_aload_n dL_law_162 1 rfl rfl (by decide) ?_
      refine k_iload dL_law_163 5 rfl ?_
      refine k_aload_n dL_law_165 0 rfl rfl (by decide) ?_
      refine k_bipush (v := 13) dL_law_166 (by decide) ?_
      refine k_iconst (v := 4) dL_law_168 rfl ?_
      refine k_iload dL_law_169 5 rfl ?_
      refine k_imul dL_law_171 ?_
      refine k_iadd dL_law_172 ?_
      refine k_iload dL_law_173 6 rfl ?_
      refine k_iadd dL_law_175 ?_
      refine k_iload_n dL_law_176 2 rfl rfl ?_
      obtain ⟨v_17, hv_18, hc_19⟩ := c_pick (E := E) hL (i := (13 + (4 * ((i136 : Int)))) + ((i156 : Int))) (c := S) ⟨by omega, by omega⟩ ⟨by omega, by omega⟩
      refine k_less (k' := 0 + (1 + (1 * (3 - (i156 + 1)) + (1 + (6 * (Pn.toNat - (i136 + 1)) + 48090))))) (n' := 0 + (6 + (6 * (3 - (i156 + 1)) + (6 + (36 * (Pn.toNat - (i136 + 1)) + 288540))))) (by omega) (by omega) ?_
      refine p_callS (k1 := 0) (n1 := 0) (k := 1 + (1 * (3 - (i156 + 1)) + (1 + (6 * (Pn.toNat - (i136 + 1)) + 48090)))) (n := 6 + (6 * (3 - (i156 + 1)) + (6 + (36 * (Pn.toNat - (i136 + 1)) + 288540)))) (st := [.int (iI ((i136 : Int))), .ref 0]) (as := [.ref 1000000, .int (iI ((13 + (4 * ((i136 : Int)))) + ((i156 : Int)))), .int (iI (S))]) dL_law_177 oL_pick rfl w_p406 w_p407 (by decide) rfl (Nat.le_of_ble_eq_true rfl) (hc_19 _ _) ?_
      obtain ⟨w_20, hw_21, hC_22⟩ := v_addWish (E := E) hsh h156.1 (p := (i136 : Int)) (s := v_17) ⟨by omega, by have := h156.2.2.2.1; omega⟩ ⟨by omega, by have := h156.2.1; omega⟩
      refine k_less (k' := 1 + (1 * (3 - (i156 + 1)) + (1 + (6 * (Pn.toNat - (i136 + 1)) + 48090)))) (n' := 6 + (6 * (3 - (i156 + 1)) + (6 + (36 * (Pn.toNat - (i136 + 1)) + 288540)))) (by omega) (by omega) ?_
      refine p_callW (k1 := 1) (n1 := 6) (k := 1 * (3 - (i156 + 1)) + (1 + (6 * (Pn.toNat - (i136 + 1)) + 48090))) (n := 6 * (3 - (i156 + 1)) + (6 + (36 * (Pn.toNat - (i136 + 1)) + 288540))) (st := []) (as := [.ref 0, .int (iI ((i136 : Int))), .int (iI (v_17))]) dL_law_180 oL_addWish rfl w_p826 w_1023 (by decide) rfl (Nat.le_of_ble_eq_true rfl) (hC_22) ?_
      refine k_sipush (v := (-1001)) dL_law_183 (by decide) ?_
      refine k_icmp_ne (tgt := 191) dL_law_186 rfl ⟨by omega, by omega⟩ ⟨by decide, by decide⟩ (fun h_23 => ?_) (fun h_23 => absurd h_23 (by omega))
      refine k_iinc (ls' := [(0, .ref 1000000), (1, .ref 0), (2, .int (iI (S))), (3, .int (iI (Pn))), (4, .int (iI (B))), (5, .int (iI ((i136 : Int)))), (6, .int (iI ((i156 : Int) + 1)))]) dL_law_191 6 rfl (by decide) rfl rfl ?_
      refine k_goto (tgt := 156) dL_law_194 rfl ?_
      refine k_lrw (q := 6) (j := 6) (a' := ((i156 + 1 : Nat) : Int)) (ls' := [(0, .ref 1000000), (1, .ref 0), (2, .int (iI (S))), (3, .int (iI (Pn))), (4, .int (iI (B))), (5, .int (iI ((i136 : Int)))), (6, .int (iI (((i156 + 1 : Nat) : Int))))]) rfl (by omega) rfl ?_
      refine k_less (k' := 1 * (3 - (i156 + 1)) + (1 + (6 * (Pn.toNat - (i136 + 1)) + 48090))) (n' := 6 * (3 - (i156 + 1)) + (6 + (36 * (Pn.toNat - (i136 + 1)) + 288540))) (by omega) (by omega) ?_
      exact ih156 _ (l_2b h156 (by omega) ⟨by omega, by omega⟩)
set_option maxHeartbeats 16000000 in
theorem l_sub (hL : k_L E ≤ 2048) (h5 : (1 ≤ S ∧ S ≤ 5) ∧ (1 ≤ Pn ∧ Pn ≤ 8) ∧ (1 ≤ B ∧ B ≤ 4)) (hS : p_Sh sh 0) (hI : l_I1 σ 0 B) : k_V E mL_law 25 52 [(0, .ref 1000000), (1, .ref 0), (2, .int (iI (S))), (3, .int (iI (Pn))), (4, .int (iI (B))), (5, .int (iI (0)))] [] sh σ 48168 289008 k_QL := by
  have hsh := p_Sh_main hS
  have hl0 := p_Sh_len hS
  refine k_less (k' := 6 * (S.toNat - 0) + 48138) (n' := 36 * (S.toNat - 0) + 288828) (by omega) (by omega) ?_
  refine k_down (P := fun i52 : Nat => ∀ τ52, l_I1 τ52 (i52 : Int) B → k_V E mL_law _ 52 [(0, .ref 1000000), (1, .ref 0), (2, .int (iI (S))), (3, .int (iI (Pn))), (4, .int (iI (B))), (5, .int (iI ((i52 : Int))))] [] sh τ52 (6 * (S.toNat - i52) + 48138) (36 * (S.toNat - i52) + 288828) _) (S.toNat) ?_ ?_ σ hI
  · intro τ52 h52
    refine k_less (k' := 48138) (n' := 288828) (by omega) (by omega) ?_
    refine k_iload dL_law_52 5 rfl ?_
    refine k_iload_n dL_law_54 2 rfl rfl ?_
    refine k_icmp_ge (tgt := 133) dL_law_55 rfl ⟨by omega, by omega⟩ ⟨by omega, by omega⟩ (fun h_1 => ?_) (fun h_1 => absurd h_1 (by omega))
    refine k_iconst (v := 0) dL_law_133 rfl ?_
    refine k_istore (ls' := [(0, .ref 1000000), (1, .ref 0), (2, .int (iI (S))), (3, .int (iI (Pn))), (4, .int (iI (B))), (5, .int (iI (0)))]) dL_law_134 (by decide) rfl rfl ?_
    have h133 := h52
    rw [show ((S.toNat : Nat) : Int) = S by omega] at h133
    exact l_pup hL h5 hS (l_2 h133)
  · intro i52 hi52 ih52
    intro τ52 h52
    refine k_less (k' := 6 + (6 * (S.toNat - (i52 + 1)) + 48138)) (n' := 36 + (36 * (S.toNat - (i52 + 1)) + 288828)) (by omega) (by omega) ?_
    refine k_iload dL_law_52 5 rfl ?_
    refine k_iload_n dL_law_54 2 rfl rfl ?_
    refine k_icmp_ge (tgt := 133) dL_law_55 rfl ⟨by omega, by omega⟩ ⟨by omega, by omega⟩ (fun h_2 => absurd h_2 (by omega)) (fun h_2 => ?_)
    refine k_aload_n dL_law_58 1 rfl rfl (by decide) ?_
    refine k_iconst (v := 1) dL_law_59 rfl ?_
    refine k_aload_n dL_law_60 0 rfl rfl (by decide) ?_
    refine k_iconst (v := 3) dL_law_61 rfl ?_
    refine k_iload dL_law_62 5 rfl ?_
    refine k_iadd dL_law_64 ?_
    refine k_iconst (v := 3) dL_law_65 rfl ?_
    obtain ⟨v_3, hv_4, hc_5⟩ := c_pick (E := E) hL (i := 3 + ((i52 : Int))) (c := 3) ⟨by omega, by omega⟩ ⟨by omega, by omega⟩
    refine k_less (k' := 0 + (6 + (6 * (S.toNat - (i52 + 1)) + 48138))) (n' := 0 + (36 + (36 * (S.toNat - (i52 + 1)) + 288828))) (by omega) (by omega) ?_
    refine p_callS (k1 := 0) (n1 := 0) (k := 6 + (6 * (S.toNat - (i52 + 1)) + 48138)) (n := 36 + (36 * (S.toNat - (i52 + 1)) + 288828)) (st := [.int (iI (1)), .ref 0]) (as := [.ref 1000000, .int (iI (3 + ((i52 : Int)))), .int (iI (3))]) dL_law_66 oL_pick rfl w_p406 w_p407 (by decide) rfl (Nat.le_of_ble_eq_true rfl) (hc_5 _ _) ?_
    refine k_iadd dL_law_69 ?_
    have e0 := h52.2.1
    obtain ⟨hes, hCs⟩ := v_addSubject (E := E) hsh h52.1 (z := 1 + v_3) ⟨by omega, by omega⟩ (by omega)
    rw [e0] at hCs
    have h1b := l_1a h52 hes
    refine k_less (k' := 1 + (5 + (6 * (S.toNat - (i52 + 1)) + 48138))) (n' := 6 + (30 + (36 * (S.toNat - (i52 + 1)) + 288828))) (by omega) (by omega) ?_
    refine p_callW (k1 := 1) (n1 := 6) (k := 5 + (6 * (S.toNat - (i52 + 1)) + 48138)) (n := 30 + (36 * (S.toNat - (i52 + 1)) + 288828)) (st := []) (as := [.ref 0, .int (iI (1 + v_3))]) dL_law_70 oL_addSubject rfl w_p409 w_604 (by decide) rfl (Nat.le_of_ble_eq_true rfl) (hCs) ?_
    refine k_iload dL_law_73 5 rfl ?_
    refine k_icmp_eq (tgt := 80) dL_law_75 rfl ⟨by omega, by omega⟩ ⟨by omega, by omega⟩ (fun h_6 => ?_) (fun h_6 => absurd h_6 (by omega))
    refine k_iconst (v := 0) dL_law_80 rfl ?_
    refine k_istore (ls' := [(0, .ref 1000000), (1, .ref 0), (2, .int (iI (S))), (3, .int (iI (Pn))), (4, .int (iI (B))), (5, .int (iI ((i52 : Int)))), (6, .int (iI (0)))]) dL_law_81 (by decide) rfl rfl ?_
    refine k_less (k' := 1 * (B.toNat - 0) + (0 + (6 * (S.toNat - (i52 + 1)) + 48138))) (n' := 6 * (B.toNat - 0) + (0 + (36 * (S.toNat - (i52 + 1)) + 288828))) (by omega) (by omega) ?_
    refine k_down (P := fun i83 : Nat => ∀ τ83, l_I1b τ83 (i52 : Int) B i83 → k_V E mL_law _ 83 [(0, .ref 1000000), (1, .ref 0), (2, .int (iI (S))), (3, .int (iI (Pn))), (4, .int (iI (B))), (5, .int (iI ((i52 : Int)))), (6, .int (iI ((i83 : Int))))] [] sh τ83 (1 * (B.toNat - i83) + (0 + (6 * (S.toNat - (i52 + 1)) + 48138))) (6 * (B.toNat - i83) + (0 + (36 * (S.toNat - (i52 + 1)) + 288828))) _) (B.toNat) ?_ ?_ _ h1b
    · intro τ83 h83
      refine k_less (k' := 6 * (S.toNat - (i52 + 1)) + 48138) (n' := 36 * (S.toNat - (i52 + 1)) + 288828) (by omega) (by omega) ?_
      refine k_iload dL_law_83 6 rfl ?_
      refine k_iload dL_law_85 4 rfl ?_
      refine k_icmp_ge (tgt := 127) dL_law_87 rfl ⟨by omega, by omega⟩ ⟨by omega, by omega⟩ (fun h_7 => ?_) (fun h_7 => absurd h_7 (by omega))
      have h1n : l_I1 τ83 ((i52 + 1 : Nat) : Int) B := by rw [show ((i52 + 1 : Nat) : Int) = (i52 : Int) + 1 by omega]; exact h83.1
      refine k_iinc (ls' := [(0, .ref 1000000), (1, .ref 0), (2, .int (iI (S))), (3, .int (iI (Pn))), (4, .int (iI (B))), (5, .int (iI ((i52 : Int) + 1))), (6, .int (iI (((B.toNat : Nat) : Int))))]) dL_law_127 5 rfl (by decide) rfl rfl ?_
      refine k_goto (tgt := 52) dL_law_130 rfl ?_
      refine k_dropr (ls' := [(0, .ref 1000000), (1, .ref 0), (2, .int (iI (S))), (3, .int (iI (Pn))), (4, .int (iI (B))), (5, .int (iI ((i52 : Int) + 1)))]) (ex := [(6, .int (iI (((B.toNat : Nat) : Int))))]) rfl ?_
      refine k_lrw (q := 5) (j := 5) (a' := ((i52 + 1 : Nat) : Int)) (ls' := [(0, .ref 1000000), (1, .ref 0), (2, .int (iI (S))), (3, .int (iI (Pn))), (4, .int (iI (B))), (5, .int (iI (((i52 + 1 : Nat) : Int))))]) rfl (by omega) rfl ?_
      refine k_less (k' := 6 * (S.toNat - (i52 + 1)) + 48138) (n' := 36 * (S.toNat - (i52 + 1)) + 288828) (by omega) (by omega) ?_
      exact ih52 _ h1n
    · intro i83 hi83 ih83
      intro τ83 h83
      refine k_less (k' := 1 + (1 * (B.toNat - (i83 + 1)) + (0 + (6 * (S.toNat - (i52 + 1)) + 48138)))) (n' := 6 + (6 * (B.toNat - (i83 + 1)) + (0 + (36 * (S.toNat - (i52 + 1)) + 288828)))) (by omega) (by omega) ?_
      refine k_iload dL_law_83 6 rfl ?_
      refine k_iload dL_law_85 4 rfl ?_
      refine k_icmp_ge (tgt := 127) dL_law_87 rfl ⟨by omega, by omega⟩ ⟨by omega, by omega⟩ (fun h_8 => absurd h_8 (by omega)) (fun h_8 => ?_)
      refine k_aload_n dL_law_90 0 rfl rfl (by decide) ?_
      refine k_bipush (v := 8) dL_law_91 (by decide) ?_
      refine k_iload dL_law_93 5 rfl ?_
      refine k_iadd dL_law_95 ?_
      obtain ⟨x_9, hc_10⟩ := c_cell (E := E) hL (i := 8 + ((i52 : Int))) ⟨by omega, by omega⟩
      refine k_less (k' := 0 + (1 + (1 * (B.toNat - (i83 + 1)) + (0 + (6 * (S.toNat - (i52 + 1)) + 48138))))) (n' := 0 + (6 + (6 * (B.toNat - (i83 + 1)) + (0 + (36 * (S.toNat - (i52 + 1)) + 288828))))) (by omega) (by omega) ?_
      refine p_callS (k1 := 0) (n1 := 0) (k := 1 + (1 * (B.toNat - (i83 + 1)) + (0 + (6 * (S.toNat - (i52 + 1)) + 48138)))) (n := 6 + (6 * (B.toNat - (i83 + 1)) + (0 + (36 * (S.toNat - (i52 + 1)) + 288828)))) (st := []) (as := [.ref 1000000, .int (iI (8 + ((i52 : Int))))]) dL_law_96 oL_cell rfl w_p402 w_p403 (by decide) rfl (Nat.le_of_ble_eq_true rfl) (hc_10 _ _) ?_
      refine k_iload dL_law_99 6 rfl ?_
      refine k_ishr (v := (((x_9) >>> ((iI ((i83 : Int))) &&& 31)))) dL_law_101 rfl ?_
      refine k_iconst (v := 1) dL_law_102 rfl ?_
      obtain ⟨z_11, hz_12, he_13⟩ := p_asI ((((x_9) >>> ((iI ((i83 : Int))) &&& 31))) &&& iI 1)
      refine k_iand (v := iI z_11) dL_law_103 he_13 ?_
      refine k_if_ne (tgt := 121) dL_law_104 rfl ⟨by omega, by omega⟩ (fun h_14 => ?_) (fun h_14 => ?_)
      · refine k_iinc (ls' := [(0, .ref 1000000), (1, .ref 0), (2, .int (iI (S))), (3, .int (iI (Pn))), (4, .int (iI (B))), (5, .int (iI ((i52 : Int)))), (6, .int (iI ((i83 : Int) + 1)))]) dL_law_121 6 rfl (by decide) rfl rfl ?_
        refine k_goto (tgt := 83) dL_law_124 rfl ?_
        refine k_lrw (q := 6) (j := 6) (a' := ((i83 + 1 : Nat) : Int)) (ls' := [(0, .ref 1000000), (1, .ref 0), (2, .int (iI (S))), (3, .int (iI (Pn))), (4, .int (iI (B))), (5, .int (iI ((i52 : Int)))), (6, .int (iI (((i83 + 1 : Nat) : Int))))]) rfl (by omega) rfl ?_
        refine k_less (k' := 1 * (B.toNat - (i83 + 1)) + (0 + (6 * (S.toNat - (i52 + 1)) + 48138))) (n' := 6 * (B.toNat - (i83 + 1)) + (0 + (36 * (S.toNat - (i52 + 1)) + 288828))) (by omega) (by omega) ?_
        exact ih83 _ (l_1s h83)
      · refine k_aload_n dL_law_107 1 rfl rfl (by decide) ?_
        refine k_iload dL_law_108 5 rfl ?_
        refine k_iload dL_law_110 6 rfl ?_
        have e00 := h83.1.2.1
        have e11 := h83.1.2.2.1
        obtain ⟨heo, hge, hCo⟩ := v_openClass (E := E) hsh h83.1.1 (s := (i52 : Int)) (b := (i83 : Int)) ⟨by omega, by omega⟩ ⟨by omega, by omega⟩ (h83.2 _ (Int.le_refl _))
        have hzc := z_cnt_r (z_or (f_open τ83 (i52 : Int)) (z_one (i83 : Int)))
        refine k_less (k' := 1 + (1 * (B.toNat - (i83 + 1)) + (0 + (6 * (S.toNat - (i52 + 1)) + 48138)))) (n' := 6 + (6 * (B.toNat - (i83 + 1)) + (0 + (36 * (S.toNat - (i52 + 1)) + 288828)))) (by omega) (by omega) ?_
        refine p_callW (k1 := 1) (n1 := 6) (k := 1 * (B.toNat - (i83 + 1)) + (0 + (6 * (S.toNat - (i52 + 1)) + 48138))) (n := 6 * (B.toNat - (i83 + 1)) + (0 + (36 * (S.toNat - (i52 + 1)) + 288828))) (st := []) (as := [.ref 0, .int (iI ((i52 : Int))), .int (iI ((i83 : Int)))]) dL_law_112 oL_openClass rfl w_p791 w_956 (by decide) rfl (Nat.le_of_ble_eq_true rfl) (hCo) ?_
        refine k_iconst (v := 1) dL_law_115 rfl ?_
        refine k_icmp_ge (tgt := 121) dL_law_116 rfl ⟨by omega, by omega⟩ ⟨by decide, by decide⟩ (fun h_15 => ?_) (fun h_15 => absurd h_15 (by omega))
        refine k_iinc (ls' := [(0, .ref 1000000), (1, .ref 0), (2, .int (iI (S))), (3, .int (iI (Pn))), (4, .int (iI (B))), (5, .int (iI ((i52 : Int)))), (6, .int (iI ((i83 : Int) + 1)))]) dL_law_121 6 rfl (by decide) rfl rfl ?_
        refine k_goto (tgt := 83) dL_law_124 rfl ?_
        refine k_lrw (q := 6) (j := 6) (a' := ((i83 + 1 : Nat) : Int)) (ls' := [(0, .ref 1000000), (1, .ref 0), (2, .int (iI (S))), (3, .int (iI (Pn))), (4, .int (iI (B))), (5, .int (iI ((i52 : Int)))), (6, .int (iI (((i83 + 1 : Nat) : Int))))]) rfl (by omega) rfl ?_
        refine k_less (k' := 1 * (B.toNat - (i83 + 1)) + (0 + (6 * (S.toNat - (i52 + 1)) + 48138))) (n' := 6 * (B.toNat - (i83 + 1)) + (0 + (36 * (S.toNat - (i52 + 1)) + 288828))) (by omega) (by omega) ?_
        exact ih83 _ (l_1b h83 (by omega) heo)
set_option maxHeartbeats 16000000 in
theorem l_start (hL : k_L E ≤ 2048) (hS : p_Sh sh 0) (hJ : p_J σ) (g0 : σ 1 0 = 0) (g1 : σ 1 1 = 3) (g2 : σ 1 2 = 0) (g4 : ∀ j, σ 4 j = 0) : k_V E mL_law 25 8 [(0, .ref 1000000), (1, .ref 0)] [] sh σ 48169 289014 k_QL := by
  have hsh := p_Sh_main hS
  have hl0 := p_Sh_len hS
  refine k_iconst (v := 1) dL_law_8 rfl ?_
  refine k_aload_n dL_law_9 0 rfl rfl (by decide) ?_
  refine k_iconst (v := 0) dL_law_10 rfl ?_
  refine k_iconst (v := 5) dL_law_11 rfl ?_
  obtain ⟨v_1, hv_2, hc_3⟩ := c_pick (E := E) hL (i := 0) (c := 5) ⟨by omega, by omega⟩ ⟨by omega, by omega⟩
  refine k_less (k' := 0 + (48169)) (n' := 0 + (289014)) (by omega) (by omega) ?_
  refine p_callS (k1 := 0) (n1 := 0) (k := 48169) (n := 289014) (st := [.int (iI (1))]) (as := [.ref 1000000, .int (iI (0)), .int (iI (5))]) dL_law_12 oL_pick rfl w_p406 w_p407 (by decide) rfl (Nat.le_of_ble_eq_true rfl) (hc_3 _ _) ?_
  refine k_iadd dL_law_15 ?_
  refine k_istore_n (ls' := [(0, .ref 1000000), (1, .ref 0), (2, .int (iI (1 + v_1)))]) dL_law_16 rfl (by decide) rfl rfl ?_
  refine k_iconst (v := 1) dL_law_17 rfl ?_
  refine k_aload_n dL_law_18 0 rfl rfl (by decide) ?_
  refine k_iconst (v := 1) dL_law_19 rfl ?_
  refine k_bipush (v := 8) dL_law_20 (by decide) ?_
  obtain ⟨v_4, hv_5, hc_6⟩ := c_pick (E := E) hL (i := 1) (c := 8) ⟨by omega, by omega⟩ ⟨by omega, by omega⟩
  refine k_less (k' := 0 + (48169)) (n' := 0 + (289014)) (by omega) (by omega) ?_
  refine p_callS (k1 := 0) (n1 := 0) (k := 48169) (n := 289014) (st := [.int (iI (1))]) (as := [.ref 1000000, .int (iI (1)), .int (iI (8))]) dL_law_22 oL_pick rfl w_p406 w_p407 (by decide) rfl (Nat.le_of_ble_eq_true rfl) (hc_6 _ _) ?_
  refine k_iadd dL_law_25 ?_
  refine k_istore_n (ls' := [(0, .ref 1000000), (1, .ref 0), (2, .int (iI (1 + v_1))), (3, .int (iI (1 + v_4)))]) dL_law_26 rfl (by decide) rfl rfl ?_
  refine k_iconst (v := 1) dL_law_27 rfl ?_
  refine k_aload_n dL_law_28 0 rfl rfl (by decide) ?_
  refine k_iconst (v := 2) dL_law_29 rfl ?_
  refine k_iconst (v := 4) dL_law_30 rfl ?_
  obtain ⟨v_7, hv_8, hc_9⟩ := c_pick (E := E) hL (i := 2) (c := 4) ⟨by omega, by omega⟩ ⟨by omega, by omega⟩
  refine k_less (k' := 0 + (48169)) (n' := 0 + (289014)) (by omega) (by omega) ?_
  refine p_callS (k1 := 0) (n1 := 0) (k := 48169) (n := 289014) (st := [.int (iI (1))]) (as := [.ref 1000000, .int (iI (2)), .int (iI (4))]) dL_law_31 oL_pick rfl w_p406 w_p407 (by decide) rfl (Nat.le_of_ble_eq_true rfl) (hc_9 _ _) ?_
  refine k_iadd dL_law_34 ?_
  refine k_istore (ls' := [(0, .ref 1000000), (1, .ref 0), (2, .int (iI (1 + v_1))), (3, .int (iI (1 + v_4))), (4, .int (iI (1 + v_7)))]) dL_law_35 (by decide) rfl rfl ?_
  refine k_aload_n dL_law_37 1 rfl rfl (by decide) ?_
  refine k_iload dL_law_38 4 rfl ?_
  obtain ⟨heb, hCb⟩ := v_setBlockCount (E := E) hsh hJ (c := 1 + v_7) ⟨by omega, by omega⟩ g0
  rw [g1] at hCb
  refine k_less (k' := 1 + (48168)) (n' := 6 + (289008)) (by omega) (by omega) ?_
  refine p_callW (k1 := 1) (n1 := 6) (k := 48168) (n := 289008) (st := []) (as := [.ref 0, .int (iI (1 + v_7))]) dL_law_40 oL_setBlockCount rfl w_p784 w_949 (by decide) rfl (Nat.le_of_ble_eq_true rfl) (hCb) ?_
  have hI1 := l_0 hJ g0 g2 g4 heb
  refine k_iconst (v := 3) dL_law_43 rfl ?_
  refine k_icmp_eq (tgt := 49) dL_law_44 rfl ⟨by decide, by decide⟩ ⟨by decide, by decide⟩ (fun h_10 => ?_) (fun h_10 => absurd h_10 (by decide))
  refine k_iconst (v := 0) dL_law_49 rfl ?_
  refine k_istore (ls' := [(0, .ref 1000000), (1, .ref 0), (2, .int (iI (1 + v_1))), (3, .int (iI (1 + v_4))), (4, .int (iI (1 + v_7))), (5, .int (iI (0)))]) dL_law_50 (by decide) rfl rfl ?_
  exact l_sub hL ⟨⟨by omega, by omega⟩, ⟨by omega, by omega⟩, ⟨by omega, by omega⟩⟩ hS hI1
end P_N1
