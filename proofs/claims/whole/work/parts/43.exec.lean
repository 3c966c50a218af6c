/-! ===== THE FACE: execute ===== -/
section K_EX
variable {E : k_E} {M M1 : k_M} {dp d1 pc k n k1 n1 na : Nat} {ls : List (Nat × Value)} {st as : List Value} {sh : List k_Sh} {σ σ' τ : Nat → Nat → Int} {Q Q1 : k_Q} {o : Option Value}
theorem g_pa_pi {v w : Nat} : ∀ (f : Nat) (σ : Nat → Nat → Int), k_PI sh σ v w → σ 116 3 = 12 - f → k_PI sh (g_pa v f σ).1 v w ∧ (-1 ≤ (g_pa v f σ).2 ∧ (g_pa v f σ).2 ≤ 200) ∧ (12 - (f : Int) ≤ (g_pa v f σ).1 116 3 ∧ (g_pa v f σ).1 116 3 ≤ 12)
  | 0, σ, hP, hc => by
    have h1 := hP.2.1
    have h2 := hP.1.2.2.2.1.2.2.2
    have h3 := hP.1.2.2.1.2.2
    exact ⟨hP, ⟨by show -1 ≤ σ 116 4; omega, by show σ 116 4 ≤ 200; omega⟩, ⟨by show _ ≤ σ 116 3; omega, by show σ 116 3 ≤ 12; omega⟩⟩
  | f + 1, σ, hP, hc => by
    obtain ⟨q1, q2, q3⟩ := g_cmd_pi hP (σ 116 3)
    have q4 := g_cmd_cnt v (σ 116 3) σ
    have hw := hP.1.2.2.1.2.2
    have b8 := q1.1.2.2.2.1.2.2.2
    have q5 := q1.2.1
    unfold g_pa
    split
    · exact ⟨q1, ⟨by show -1 ≤ (g_cmd v (σ 116 3) σ).1 116 4; omega, by show (g_cmd v (σ 116 3) σ).1 116 4 ≤ 200; omega⟩, ⟨by show _ ≤ (g_cmd v (σ 116 3) σ).1 116 3; omega, by show (g_cmd v (σ 116 3) σ).1 116 3 ≤ 12; omega⟩⟩
    · split
      · exact ⟨k_PI_count q1 _, ⟨Int.le_refl _, by show (-1 : Int) ≤ 200; decide⟩, ⟨by show _ ≤ (g_cmd v (σ 116 3) σ).1 116 3 + 1; omega, by show (g_cmd v (σ 116 3) σ).1 116 3 + 1 ≤ 12; omega⟩⟩
      · have q6 := k_PI_sk q1 59
        have q7 := q6.2.1
        have q8 : u_sk (g_cmd v (σ 116 3) σ).1 v 59 117 3 = (g_cmd v (σ 116 3) σ).1 117 3 := rfl
        have q9 : u_sk (g_cmd v (σ 116 3) σ).1 v 59 116 3 = (g_cmd v (σ 116 3) σ).1 116 3 := rfl
        split
        · have := g_pa_pi f _ (k_PI_count q6 (u_sk (g_cmd v (σ 116 3) σ).1 v 59 116 3 + 1)) (by show u_sk (g_cmd v (σ 116 3) σ).1 v 59 116 3 + 1 = _; omega)
          exact ⟨this.1, this.2.1, ⟨by have := this.2.2.1; omega, this.2.2.2⟩⟩
        · exact ⟨q6, ⟨by show -1 ≤ u_sk (g_cmd v (σ 116 3) σ).1 v 59 116 4; omega, by show u_sk (g_cmd v (σ 116 3) σ).1 v 59 116 4 ≤ 200; omega⟩, ⟨by show _ ≤ u_sk (g_cmd v (σ 116 3) σ).1 v 59 116 3; omega, by show u_sk (g_cmd v (σ 116 3) σ).1 v 59 116 3 ≤ 12; omega⟩⟩
theorem g_parse_pi {v w : Nat} (hP : k_PI sh σ v w) : k_PI sh (g_parse v σ).1 v w ∧ (-1 ≤ (g_parse v σ).2 ∧ (g_parse v σ).2 ≤ 200) ∧ (0 ≤ (g_parse v σ).1 116 3 ∧ (g_parse v σ).1 116 3 ≤ 12) := by
  have h := g_pa_pi 12 (u_count (u_at σ 0) 0) (k_PI_count (k_PI_at hP ⟨Int.le_refl 0, Int.le_trans hP.2.1.1 hP.2.1.2⟩) 0) rfl
  exact ⟨h.1, h.2.1, ⟨by have := h.2.2.1; unfold g_parse; omega, h.2.2.2⟩⟩
/-- the command k as it was read -/
def f_cm (τ : Nat → Nat → Int) (k : Int) : Int := f_read (τ 119) 12 k
def f_ca (τ : Nat → Nat → Int) (k : Int) : Int := f_read (τ 120) 36 (k * 3 + 0)
def f_cb (τ : Nat → Nat → Int) (k : Int) : Int := f_read (τ 120) 36 (k * 3 + 1)
def f_cc (τ : Nat → Nat → Int) (k : Int) : Int := f_read (τ 120) 36 (k * 3 + 2)
def e_cmd (τ : Nat → Nat → Int) (k : Int) : Int := e_fault τ (f_cm τ k) (f_ca τ k) (f_cb τ k) (f_cc τ k)
def u_cmdF (τ : Nat → Nat → Int) (k : Int) : Nat → Nat → Int := u_fault τ (f_cm τ k) (f_ca τ k) (f_cb τ k) (f_cc τ k)
def u_cmd (τ : Nat → Nat → Int) (k : Int) : Nat → Nat → Int := u_perf (u_cmdF τ k) (f_cm τ k) (f_ca τ k) (f_cb τ k) (f_cc τ k)
def k_chg2 (τ : Nat → Nat → Int) (m a b c : Int) : Prop := m = 10 → f_few (u_quit τ a b) c (f_free (u_quit τ a b) a) ≠ -1
def u_fail (τ : Nat → Nat → Int) (k e : Int) : Nat → Nat → Int := k_up (k_up (u_copy τ 1 107) 0 (k_u1 (u_copy τ 1 107 0) 12 k)) 0 (k_u1 (k_up (u_copy τ 1 107) 0 (k_u1 (u_copy τ 1 107 0) 12 k) 0) 13 e)
def g_ex : Nat → Int → (Nat → Nat → Int) → (Option Value ⊕ String) × (Nat → Nat → Int)
  | 0, _, τ => (.inl (some (.int (iI (τ 116 3)))), u_keepB τ 107)
  | f + 1, k, τ => if e_cmd τ k = 0 then g_ex f (k + 1) (u_cmd τ k) else (.inr x_is, u_fail (u_cmdF τ k) k (e_cmd τ k))
/-- what every step of the program needs -/
def k_exB (f : Nat) (k : Int) (τ : Nat → Nat → Int) : Prop := k_OK τ ∧ τ 116 3 = k + f ∧ (∀ j, 0 ≤ τ 120 j ∧ τ 120 j ≤ 99) ∧ (∀ j, 0 ≤ τ 119 j ∧ τ 119 j < 12)
def k_exOK : Nat → Int → (Nat → Nat → Int) → Prop
  | 0, k, τ => k_exB 0 k τ
  | f + 1, k, τ => k_exB (f + 1) k τ ∧ (e_cmd τ k = 0 → k_chg2 (u_cmdF τ k) (f_cm τ k) (f_ca τ k) (f_cb τ k) (f_cc τ k) ∧ k_exOK f (k + 1) (u_cmd τ k))
theorem f_cm_r {k : Int} (h : ∀ j, 0 ≤ τ 119 j ∧ τ 119 j < 12) (hk : 0 ≤ k ∧ k < 12) : 0 ≤ f_cm τ k ∧ f_cm τ k < 12 := by
  unfold f_cm f_read
  rw [if_pos (by omega)]
  exact h _
theorem f_cn_r (h : ∀ j, 0 ≤ τ 120 j ∧ τ 120 j ≤ 99) (i : Int) : -1 ≤ f_read (τ 120) 36 i ∧ f_read (τ 120) 36 i ≤ 99 := by
  unfold f_read
  split
  · have := h i.toNat
    omega
  · decide
theorem u_keepB_116 {B : Nat} (h : k_Hi σ) {i : Nat} (hi : 98 ≤ i) : u_keepB σ B i = σ i := u_keepB_ne h.2.1 (Or.inr hi)
set_option maxHeartbeats 4000000 in
theorem c_exL (hsh : k_Main sh) : ∀ (f : Nat) (k : Int) (τ : Nat → Nat → Int), k_exOK f k τ → 0 ≤ k → k + f ≤ 12 → k_V E mX7_execute 14 53 [(0, .ref 0), (1, .int (iI (-1))), (2, .int (iI (k)))] [] sh τ 1 6 (k_rx (g_ex f k τ).1 sh (g_ex f k τ).2)
  | 0, k, τ, hX0, hk, hf12 => by
    have hX : k_exB 0 k τ ∧ True := ⟨hX0, trivial⟩
    have hOK := hX.1.1
    have hcnt := hX.1.2.1
    refine k_iload_n dX7_execute_53 2 rfl rfl ?_
    refine k_aload_n dX7_execute_54 0 rfl rfl (by decide) ?_
    refine k_get (kf := 8) (v := .ref 116) dX7_execute_55 kcX7 w_366 (by decide) (by decide) (s_0 hsh) rfl rfl ?_
    refine k_getN (kf := 3) (v := .int (iI (τ 116 3))) dX7_execute_58 kcX6 w_343 (by decide) (by decide) (s_116 hsh) rfl rfl ?_
    refine k_icmp_ge (tgt := 181) dX7_execute_61 rfl ⟨by omega, by omega⟩ ⟨by omega, by omega⟩ (fun h_1 => ?_) (fun h_1 => absurd h_1 (by omega))
    refine k_aload_n dX7_execute_181 0 rfl rfl (by decide) ?_
    refine k_get (kf := 5) (v := .ref 24) dX7_execute_182 kcX7 w_363 (by decide) (by decide) (s_0 hsh) rfl rfl ?_
    refine k_aload_n dX7_execute_185 0 rfl rfl (by decide) ?_
    refine k_get (kf := 7) (v := .ref 107) dX7_execute_186 kcX7 w_365 (by decide) (by decide) (s_0 hsh) rfl rfl ?_
    refine k_callVr (st := []) (as := [.ref 107]) dX7_execute_189 oX3_keep w_417 w_418 w_419 rfl (by omega) rfl (Nat.le_of_ble_eq_true rfl) (by decide) (s_24 hsh) rfl (c_keep hsh hOK.2.2.2.2 (k_plat107 hsh) ⟨by decide, by decide⟩) ?_
    refine k_aload_n dX7_execute_192 0 rfl rfl (by decide) ?_
    refine k_get (kf := 8) (v := .ref 116) dX7_execute_193 kcX7 w_366 (by decide) (by decide) (s_0 hsh) rfl rfl ?_
    refine k_getN (kf := 3) (v := .int (iI ((u_keepB τ 107) 116 3))) dX7_execute_196 kcX6 w_343 (by decide) (by decide) (s_116 hsh) rfl rfl ?_
    exact k_ret_i dX7_execute_199 rfl ⟨by show _ = Sum.inl (some (Value.int (iI (τ 116 3)))); rw [u_keepB_116 hOK.2.2.2.2 (by decide)], rfl, rfl⟩
  | f + 1, k, τ, hX, hk, hf12 => by
    have hOK := hX.1.1
    have hcnt := hX.1.2.1
    refine k_iload_n dX7_execute_53 2 rfl rfl ?_
    refine k_aload_n dX7_execute_54 0 rfl rfl (by decide) ?_
    refine k_get (kf := 8) (v := .ref 116) dX7_execute_55 kcX7 w_366 (by decide) (by decide) (s_0 hsh) rfl rfl ?_
    refine k_getN (kf := 3) (v := .int (iI (τ 116 3))) dX7_execute_58 kcX6 w_343 (by decide) (by decide) (s_116 hsh) rfl rfl ?_
    refine k_icmp_ge (tgt := 181) dX7_execute_61 rfl ⟨by omega, by omega⟩ ⟨by omega, by omega⟩ (fun h_1 => absurd h_1 (by omega)) (fun h_1 => ?_)
    have hm := f_cm_r hX.1.2.2.2 (k := k) ⟨by omega, by omega⟩
    have hca : -1 ≤ f_ca τ k ∧ f_ca τ k ≤ 99 := f_cn_r hX.1.2.2.1 _
    have hcb : -1 ≤ f_cb τ k ∧ f_cb τ k ≤ 99 := f_cn_r hX.1.2.2.1 _
    have hcc : -1 ≤ f_cc τ k ∧ f_cc τ k ≤ 99 := f_cn_r hX.1.2.2.1 _
    have he : 0 ≤ e_cmd τ k ∧ e_cmd τ k ≤ 4 := e_fault_r τ _ _ _ _
    refine k_aload_n dX7_execute_64 0 rfl rfl (by decide) ?_
    refine k_get (kf := 8) (v := .ref 116) dX7_execute_65 kcX7 w_366 (by decide) (by decide) (s_0 hsh) rfl rfl ?_
    refine k_iload_n dX7_execute_68 2 rfl rfl ?_
    refine k_callVr (st := []) (as := [.int (iI (k))]) dX7_execute_69 oX6_modification w_1672 w_1673 w_1674 rfl (by omega) rfl (Nat.le_of_ble_eq_true rfl) (by decide) (s_116 hsh) rfl (c_modification hsh ⟨by omega, by omega⟩) ?_
    refine k_istore_n (ls' := [(0, .ref 0), (1, .int (iI (-1))), (2, .int (iI (k))), (3, .int (iI (f_cm τ k)))]) dX7_execute_72 rfl (by decide) rfl rfl ?_
    refine k_aload_n dX7_execute_73 0 rfl rfl (by decide) ?_
    refine k_get (kf := 8) (v := .ref 116) dX7_execute_74 kcX7 w_366 (by decide) (by decide) (s_0 hsh) rfl rfl ?_
    refine k_iload_n dX7_execute_77 2 rfl rfl ?_
    refine k_iconst (v := 0) dX7_execute_78 rfl ?_
    refine k_callVr (st := []) (as := [.int (iI (k)), .int (iI (0))]) dX7_execute_79 oX6_number w_1677 w_1678 w_1679 rfl (by omega) rfl (Nat.le_of_ble_eq_true rfl) (by decide) (s_116 hsh) rfl (c_number hsh ⟨by omega, by omega⟩ ⟨by decide, by decide⟩ ⟨by omega, by omega, by decide, by decide⟩) ?_
    refine k_istore (ls' := [(0, .ref 0), (1, .int (iI (-1))), (2, .int (iI (k))), (3, .int (iI (f_cm τ k))), (4, .int (iI (f_ca τ k)))]) dX7_execute_82 (by decide) rfl rfl ?_
    refine k_aload_n dX7_execute_84 0 rfl rfl (by decide) ?_
    refine k_get (kf := 8) (v := .ref 116) dX7_execute_85 kcX7 w_366 (by decide) (by decide) (s_0 hsh) rfl rfl ?_
    refine k_iload_n dX7_execute_88 2 rfl rfl ?_
    refine k_iconst (v := 1) dX7_execute_89 rfl ?_
    refine k_callVr (st := []) (as := [.int (iI (k)), .int (iI (1))]) dX7_execute_90 oX6_number w_1677 w_1678 w_1679 rfl (by omega) rfl (Nat.le_of_ble_eq_true rfl) (by decide) (s_116 hsh) rfl (c_number hsh ⟨by omega, by omega⟩ ⟨by decide, by decide⟩ ⟨by omega, by omega, by decide, by decide⟩) ?_
    refine k_istore (ls' := [(0, .ref 0), (1, .int (iI (-1))), (2, .int (iI (k))), (3, .int (iI (f_cm τ k))), (4, .int (iI (f_ca τ k))), (5, .int (iI (f_cb τ k)))]) dX7_execute_93 (by decide) rfl rfl ?_
    refine k_aload_n dX7_execute_95 0 rfl rfl (by decide) ?_
    refine k_get (kf := 8) (v := .ref 116) dX7_execute_96 kcX7 w_366 (by decide) (by decide) (s_0 hsh) rfl rfl ?_
    refine k_iload_n dX7_execute_99 2 rfl rfl ?_
    refine k_iconst (v := 2) dX7_execute_100 rfl ?_
    refine k_callVr (st := []) (as := [.int (iI (k)), .int (iI (2))]) dX7_execute_101 oX6_number w_1677 w_1678 w_1679 rfl (by omega) rfl (Nat.le_of_ble_eq_true rfl) (by decide) (s_116 hsh) rfl (c_number hsh ⟨by omega, by omega⟩ ⟨by decide, by decide⟩ ⟨by omega, by omega, by decide, by decide⟩) ?_
    refine k_istore (ls' := [(0, .ref 0), (1, .int (iI (-1))), (2, .int (iI (k))), (3, .int (iI (f_cm τ k))), (4, .int (iI (f_ca τ k))), (5, .int (iI (f_cb τ k))), (6, .int (iI (f_cc τ k)))]) dX7_execute_104 (by decide) rfl rfl ?_
    refine k_aload_n dX7_execute_106 0 rfl rfl (by decide) ?_
    refine k_get (kf := 4) (v := .ref 23) dX7_execute_107 kcX7 w_362 (by decide) (by decide) (s_0 hsh) rfl rfl ?_
    refine k_iload_n dX7_execute_110 3 rfl rfl ?_
    refine k_iload dX7_execute_111 4 rfl ?_
    refine k_iload dX7_execute_113 5 rfl ?_
    refine k_iload dX7_execute_115 6 rfl ?_
    refine k_callVr (st := []) (as := [.int (iI (f_cm τ k)), .int (iI (f_ca τ k)), .int (iI (f_cb τ k)), .int (iI (f_cc τ k))]) dX7_execute_117 oX2_faultOf w_616 w_617 w_618 rfl (by omega) rfl (Nat.le_of_ble_eq_true rfl) (by decide) (s_23 hsh) rfl (c_faultOf hsh hOK.1 hOK.2.2.1 hm ⟨by omega, by omega⟩ ⟨by omega, by omega⟩ ⟨by omega, by omega⟩) ?_
    refine k_istore (ls' := [(0, .ref 0), (1, .int (iI (-1))), (2, .int (iI (k))), (3, .int (iI (f_cm τ k))), (4, .int (iI (f_ca τ k))), (5, .int (iI (f_cb τ k))), (6, .int (iI (f_cc τ k))), (7, .int (iI (e_cmd τ k)))]) dX7_execute_120 (by decide) rfl rfl ?_
    refine k_iload dX7_execute_122 7 rfl ?_
    refine k_if_eq (tgt := 160) dX7_execute_124 rfl ⟨by omega, by omega⟩ (fun h_2 => ?_) (fun h_2 => ?_)
    · have he0 : e_cmd τ k = 0 := h_2
      have hK : k_OK (u_cmdF τ k) := k_OK_fault hOK _ _ _ _
      have hf : e_fault (u_cmdF τ k) (f_cm τ k) (f_ca τ k) (f_cb τ k) (f_cc τ k) = 0 := ((u_fault_pl _ _ _ _).fault _ _ _ _).trans he0
      refine k_aload_n dX7_execute_160 0 rfl rfl (by decide) ?_
      refine k_get (kf := 4) (v := .ref 23) dX7_execute_161 kcX7 w_362 (by decide) (by decide) (s_0 hsh) rfl rfl ?_
      refine k_iload_n dX7_execute_164 3 rfl rfl ?_
      refine k_iload dX7_execute_165 4 rfl ?_
      refine k_iload dX7_execute_167 5 rfl ?_
      refine k_iload dX7_execute_169 6 rfl ?_
      refine k_callVr (st := []) (as := [.int (iI (f_cm τ k)), .int (iI (f_ca τ k)), .int (iI (f_cb τ k)), .int (iI (f_cc τ k))]) dX7_execute_171 oX2_perform w_830 w_831 w_832 rfl (by omega) rfl (Nat.le_of_ble_eq_true rfl) (by decide) (s_23 hsh) rfl (c_perform hsh hK.1 hK.2.1 hK.2.2.1 hK.2.2.2.1 hm ⟨by omega, by omega⟩ ⟨by omega, by omega⟩ ⟨by omega, by omega⟩ hf (hX.2 he0).1) ?_
      refine k_pop dX7_execute_174 rfl ?_
      refine k_iinc (ls' := [(0, .ref 0), (1, .int (iI (-1))), (2, .int (iI (k + 1))), (3, .int (iI (f_cm τ k))), (4, .int (iI (f_ca τ k))), (5, .int (iI (f_cb τ k))), (6, .int (iI (f_cc τ k))), (7, .int (iI (e_cmd τ k)))]) dX7_execute_175 2 rfl (by decide) rfl rfl ?_
      refine k_goto (tgt := 53) dX7_execute_178 rfl ?_
      refine k_dropr (ls' := [(0, .ref 0), (1, .int (iI (-1))), (2, .int (iI (k + 1)))]) (ex := [(3, .int (iI (f_cm τ k))), (4, .int (iI (f_ca τ k))), (5, .int (iI (f_cb τ k))), (6, .int (iI (f_cc τ k))), (7, .int (iI (e_cmd τ k)))]) rfl ?_
      rw [show g_ex (f + 1) k τ = g_ex f (k + 1) (u_cmd τ k) from by rw [g_ex]; exact if_pos he0]
      exact c_exL hsh f (k + 1) (u_cmd τ k) (hX.2 he0).2 (by omega) (by omega)
    · refine k_aload_n dX7_execute_127 0 rfl rfl (by decide) ?_
      refine k_get (kf := 0) (v := .ref 1) dX7_execute_128 kcX7 w_358 (by decide) (by decide) (s_0 hsh) rfl rfl ?_
      refine k_aload_n dX7_execute_131 0 rfl rfl (by decide) ?_
      refine k_get (kf := 7) (v := .ref 107) dX7_execute_132 kcX7 w_365 (by decide) (by decide) (s_0 hsh) rfl rfl ?_
      refine k_callVr (st := []) (as := [.ref 107]) dX7_execute_135 oX5_copyFrom w_602 w_426 w_427 rfl (by omega) rfl (Nat.le_of_ble_eq_true rfl) (by decide) (s_1 hsh) rfl (c_copyFrom (k_plat1 hsh) (k_plat107 hsh) ⟨by decide, by decide⟩ (by decide)) ?_
      refine k_aload_n dX7_execute_138 0 rfl rfl (by decide) ?_
      refine k_iload_n dX7_execute_139 2 rfl rfl ?_
      refine k_putf (kf := 12) dX7_execute_140 kcX7 w_370 (by decide) (by decide) (s_0 hsh) rfl rfl rfl rfl ?_
      refine k_aload_n dX7_execute_143 0 rfl rfl (by decide) ?_
      refine k_iload dX7_execute_144 7 rfl ?_
      refine k_putf (kf := 13) dX7_execute_146 kcX7 w_371 (by decide) (by decide) (s_0 hsh) rfl rfl rfl rfl ?_
      exact k_throwW dX7_execute_149 dX7_execute_152 dX7_execute_153 dX7_execute_156 dX7_execute_159 rfl th_is w_1681 (by decide) (Nat.le_of_ble_eq_true rfl) ⟨by rw [show g_ex (f + 1) k τ = (.inr x_is, u_fail (u_cmdF τ k) k (e_cmd τ k)) from by rw [g_ex]; exact if_neg h_2] <;> rfl, rfl, by rw [show g_ex (f + 1) k τ = (.inr x_is, u_fail (u_cmdF τ k) k (e_cmd τ k)) from by rw [g_ex]; exact if_neg h_2] <;> rfl⟩
/-- after the reading: the text is empty -/
def u_x1 (σ : Nat → Nat → Int) (v : Nat) : Nat → Nat → Int := u_set0 (g_parse v σ).1 117
def u_x0 (σ : Nat → Nat → Int) (v : Nat) : Nat → Nat → Int := u_copy (u_x1 σ v) 107 1
def u_xbad (σ : Nat → Nat → Int) (v : Nat) : Nat → Nat → Int := k_up (u_x1 σ v) 0 (k_u1 (u_x1 σ v 0) 11 (g_parse v σ).2)
def g_exe (σ : Nat → Nat → Int) (v : Nat) : (Option Value ⊕ String) × (Nat → Nat → Int) := if (g_parse v σ).2 = -1 then g_ex ((g_parse v σ).1 116 3).toNat 0 (u_x0 σ v) else (.inr x_ia, u_xbad σ v)
def k_exeOK (σ : Nat → Nat → Int) (v : Nat) : Prop := (g_parse v σ).2 = -1 → k_exOK ((g_parse v σ).1 116 3).toNat 0 (u_x0 σ v)
set_option maxHeartbeats 4000000 in
theorem c7_execute (hsh : k_Main sh) {v w : Nat} (hP : k_PI sh σ v w) (hX : k_exeOK σ v)  : k_C E mX7_execute 14 [.ref 0] sh σ 1 6 (k_rx ((g_exe σ v).1) sh ((g_exe σ v).2)) := by
  refine k_C_of (ls0 := [(0, .ref 0)]) rfl pnX7 (fun v hv => k_cat1 rfl hv) (Nat.le_of_ble_eq_true rfl) rfl ?_
  refine k_aload_n dX7_execute_0 0 rfl rfl (by decide) ?_
  refine k_get (kf := 8) (v := .ref 116) dX7_execute_1 kcX7 w_366 (by decide) (by decide) (s_0 hsh) rfl rfl ?_
  refine k_callVr (st := []) (as := []) dX7_execute_4 oX6_parse w_1612 w_1613 w_1614 rfl (by omega) rfl (Nat.le_of_ble_eq_true rfl) (by decide) (s_116 hsh) rfl (c_parse hsh hP) ?_
  have hg := g_parse_pi hP
  refine k_istore_n (ls' := [(0, .ref 0), (1, .int (iI ((g_parse v σ).2)))]) dX7_execute_7 rfl (by decide) rfl rfl ?_
  refine k_aload_n dX7_execute_8 0 rfl rfl (by decide) ?_
  refine k_get (kf := 8) (v := .ref 116) dX7_execute_9 kcX7 w_366 (by decide) (by decide) (s_0 hsh) rfl rfl ?_
  refine k_getN (kf := 0) (v := .ref 117) dX7_execute_12 kcX6 w_339 (by decide) (by decide) (s_116 hsh) rfl rfl ?_
  refine k_iconst (v := 0) dX7_execute_15 rfl ?_
  refine k_callVCr (Cn := "java/lang/StringBuilder") (st := []) (as := [.int (iI (0))]) dX7_execute_16 oJ4_setLength_d00df w_1300 w_1301 w_1302 rfl (by omega) rfl (Nat.le_of_ble_eq_true rfl) (by decide) hg.1.1.1 rfl (c_sbSet hg.1.1) ?_
  refine k_iload_n dX7_execute_19 1 rfl rfl ?_
  refine k_iconst (v := (-1)) dX7_execute_20 rfl ?_
  refine k_icmp_eq (tgt := 40) dX7_execute_21 rfl ⟨by omega, by omega⟩ ⟨by decide, by decide⟩ (fun h_1 => ?_) (fun h_1 => ?_)
  · refine k_aload_n dX7_execute_40 0 rfl rfl (by decide) ?_
    refine k_get (kf := 7) (v := .ref 107) dX7_execute_41 kcX7 w_365 (by decide) (by decide) (s_0 hsh) rfl rfl ?_
    refine k_aload_n dX7_execute_44 0 rfl rfl (by decide) ?_
    refine k_get (kf := 0) (v := .ref 1) dX7_execute_45 kcX7 w_358 (by decide) (by decide) (s_0 hsh) rfl rfl ?_
    refine k_callVr (st := []) (as := [.ref 1]) dX7_execute_48 oX5_copyFrom w_602 w_426 w_427 rfl (by omega) rfl (Nat.le_of_ble_eq_true rfl) (by decide) (s_107 hsh) rfl (c_copyFrom (k_plat107 hsh) (k_plat1 hsh) ⟨by decide, by decide⟩ (by decide)) ?_
    refine k_iconst (v := 0) dX7_execute_51 rfl ?_
    refine k_istore_n (ls' := [(0, .ref 0), (1, .int (iI ((g_parse v σ).2))), (2, .int (iI (0)))]) dX7_execute_52 rfl (by decide) rfl rfl ?_
    show k_V E mX7_execute 14 53 [(0, .ref 0), (1, .int (iI ((g_parse v σ).2))), (2, .int (iI (0)))] [] sh (u_x0 σ v) 1 6 _
    rw [show g_exe σ v = g_ex ((g_parse v σ).1 116 3).toNat 0 (u_x0 σ v) from if_pos h_1, h_1]
    exact c_exL hsh _ 0 _ (hX h_1) (Int.le_refl 0) (by omega)
  · refine k_aload_n dX7_execute_24 0 rfl rfl (by decide) ?_
    refine k_iload_n dX7_execute_25 1 rfl rfl ?_
    refine k_putf (kf := 11) dX7_execute_26 kcX7 w_369 (by decide) (by decide) (s_0 hsh) rfl rfl rfl rfl ?_
    exact k_throwW dX7_execute_29 dX7_execute_32 dX7_execute_33 dX7_execute_36 dX7_execute_39 rfl th_ia w_1671 (by decide) (Nat.le_of_ble_eq_true rfl) ⟨by rw [show g_exe σ v = (.inr x_ia, u_xbad σ v) from if_neg h_1] <;> rfl, rfl, by rw [show g_exe σ v = (.inr x_ia, u_xbad σ v) from if_neg h_1] <;> rfl⟩
end K_EX
