/-! ===== THE PROGRAM: its reader ===== -/
section K_PA
variable {E : k_E} {M M1 : k_M} {dp d1 pc k n k1 n1 na : Nat} {ls : List (Nat × Value)} {st as : List Value} {sh : List k_Sh} {σ σ' : Nat → Nat → Int} {Q Q1 : k_Q} {o : Option Value}
/-- the program's cells: its text at 117 with bytes at v, the reading place, the numbers and the modifications read -/
def k_PI (sh : List k_Sh) (σ : Nat → Nat → Int) (v w : Nat) : Prop := k_SB sh σ 117 v w ∧ (0 ≤ σ 116 4 ∧ σ 116 4 ≤ σ 117 3) ∧ (∀ j, 0 ≤ σ 120 j ∧ σ 120 j ≤ 99) ∧ (∀ j, 0 ≤ σ 119 j ∧ σ 119 j < 12) ∧ (v ≠ 116 ∧ v ≠ 117 ∧ v ≠ 119 ∧ v ≠ 120)
def u_at (σ : Nat → Nat → Int) (a : Int) : Nat → Nat → Int := k_up σ 116 (k_u1 (σ 116) 4 a)
def u_count (σ : Nat → Nat → Int) (a : Int) : Nat → Nat → Int := k_up σ 116 (k_u1 (σ 116) 3 a)
def u_num (σ : Nat → Nat → Int) (ce x : Int) : Nat → Nat → Int := k_up σ 120 (f_write (σ 120) 36 ce x)
def u_mod (σ : Nat → Nat → Int) (c x : Int) : Nat → Nat → Int := k_up σ 119 (f_write (σ 119) 12 c x)
def f_here (σ : Nat → Nat → Int) (v : Nat) : Int := if 0 ≤ σ 116 4 ∧ σ 116 4 < σ 117 3 then σ v (σ 116 4).toNat else 32
def f_dgt (σ : Nat → Nat → Int) (v : Nat) : Int := if 48 ≤ f_here σ v ∧ f_here σ v ≤ 57 then f_here σ v - 48 else -1
abbrev f_st (σ : Nat → Nat → Int) (v : Nat) (c : Int) : Prop := (0 ≤ σ 116 4 ∧ σ 116 4 < σ 117 3) ∧ σ v (σ 116 4).toNat = c
def u_sk (σ : Nat → Nat → Int) (v : Nat) (c : Int) : Nat → Nat → Int := u_at σ (σ 116 4 + zb (f_st σ v c))
def g_rn (σ : Nat → Nat → Int) (v : Nat) (ce t : Int) : (Nat → Nat → Int) × Int := if f_dgt σ v = -1 then (σ, 0) else if ¬ t = 0 ∧ ¬ f_dgt (u_at σ (σ 116 4 + 1)) v = -1 then (u_num (u_at (u_at σ (σ 116 4 + 1)) (u_at σ (σ 116 4 + 1) 116 4 + 1)) ce (f_dgt σ v * 10 + f_dgt (u_at σ (σ 116 4 + 1)) v), 1) else (u_num (u_at σ (σ 116 4 + 1)) ce (f_dgt σ v), 1)
abbrev k_nch (i j : Nat) : Prop := k_ch i j = 35 ∨ k_ch i j = 64
def g_mt (v i : Nat) : Nat → Nat → Int → (Nat → Nat → Int) → (Nat → Nat → Int) × Int
  | 0, _, _, σ => (σ, 1)
  | f + 1, j, ce, σ => if k_nch i j then (if (g_rn σ v ce (zb (k_ch i j = 64))).2 = 0 then ((g_rn σ v ce (zb (k_ch i j = 64))).1, 0) else g_mt v i f (j + 1) (ce + 1) (g_rn σ v ce (zb (k_ch i j = 64))).1) else if f_st σ v (k_ch i j) then g_mt v i f (j + 1) ce (u_sk σ v (k_ch i j)) else (u_sk σ v (k_ch i j), 0)
def g_rc (v : Nat) (c start : Int) : Nat → Nat → Int → (Nat → Nat → Int) → (Nat → Nat → Int) × Int
  | 0, _, fu, σ => (u_at σ fu, 0)
  | f + 1, m, fu, σ => if (g_mt v m (k_len m) 0 (c * 3) (u_at σ start)).2 = 0 then g_rc v c start f (m + 1) (z_max fu ((g_mt v m (k_len m) 0 (c * 3) (u_at σ start)).1 116 4)) (g_mt v m (k_len m) 0 (c * 3) (u_at σ start)).1 else (u_mod (g_mt v m (k_len m) 0 (c * 3) (u_at σ start)).1 c (m : Int), 1)
def g_cmd (v : Nat) (c : Int) (σ : Nat → Nat → Int) : (Nat → Nat → Int) × Int := g_rc v c (σ 116 4) 12 0 (σ 116 4) σ
def g_pa (v : Nat) : Nat → (Nat → Nat → Int) → (Nat → Nat → Int) × Int
  | 0, σ => (σ, σ 116 4)
  | f + 1, σ => if (g_cmd v (σ 116 3) σ).2 = 0 then ((g_cmd v (σ 116 3) σ).1, (g_cmd v (σ 116 3) σ).1 116 4) else if (g_cmd v (σ 116 3) σ).1 117 3 ≤ (g_cmd v (σ 116 3) σ).1 116 4 then (u_count (g_cmd v (σ 116 3) σ).1 ((g_cmd v (σ 116 3) σ).1 116 3 + 1), -1)
    else if f_st (g_cmd v (σ 116 3) σ).1 v 59 then g_pa v f (u_count (u_sk (g_cmd v (σ 116 3) σ).1 v 59) (u_sk (g_cmd v (σ 116 3) σ).1 v 59 116 3 + 1)) else (u_sk (g_cmd v (σ 116 3) σ).1 v 59, u_sk (g_cmd v (σ 116 3) σ).1 v 59 116 4)
def g_parse (v : Nat) (σ : Nat → Nat → Int) : (Nat → Nat → Int) × Int := g_pa v 12 (u_count (u_at σ 0) 0)
theorem f_here_r {v w : Nat} (hP : k_PI sh σ v w) : 0 ≤ f_here σ v ∧ f_here σ v < 128 := by
  unfold f_here
  split
  · exact hP.1.2.2.2.2 _
  · decide
theorem f_dgt_r (σ : Nat → Nat → Int) (v : Nat) : -1 ≤ f_dgt σ v ∧ f_dgt σ v ≤ 9 := by
  unfold f_dgt
  split <;> omega
theorem f_dgt_in {v : Nat} (h : ¬ f_dgt σ v = -1) : 0 ≤ σ 116 4 ∧ σ 116 4 < σ 117 3 := by
  unfold f_dgt f_here at h
  by_cases q : 0 ≤ σ 116 4 ∧ σ 116 4 < σ 117 3
  · exact q
  · rw [if_neg q] at h
    exact absurd rfl h
theorem k_SB_of {a v w : Nat} (hB : k_SB sh σ a v w) (ha : σ' a = σ a) (hv : σ' v = σ v) : k_SB sh σ' a v w := by
  unfold k_SB
  rw [ha, hv]
  exact hB
theorem k_PI_at {v w : Nat} (hP : k_PI sh σ v w) {a : Int} (ha : 0 ≤ a ∧ a ≤ σ 117 3) : k_PI sh (u_at σ a) v w :=
  ⟨k_SB_of hP.1 rfl (by have := hP.2.2.2.2.1; unfold u_at; simp [k_up, this]), ha, hP.2.2.1, hP.2.2.2.1, hP.2.2.2.2⟩
theorem k_PI_count {v w : Nat} (hP : k_PI sh σ v w) (a : Int) : k_PI sh (u_count σ a) v w :=
  ⟨k_SB_of hP.1 rfl (by have := hP.2.2.2.2.1; unfold u_count; simp [k_up, this]), hP.2.1, hP.2.2.1, hP.2.2.2.1, hP.2.2.2.2⟩
theorem f_write_r {f : Nat → Int} {w : Nat} {i x lo hi : Int} (h : ∀ j, lo ≤ f j ∧ f j ≤ hi) (hx : lo ≤ x ∧ x ≤ hi) : ∀ j, lo ≤ f_write f w i x j ∧ f_write f w i x j ≤ hi := by
  intro j
  unfold f_write
  split
  · unfold k_u1
    split
    · exact hx
    · exact h j
  · exact h j
theorem k_PI_num {v w : Nat} (hP : k_PI sh σ v w) (ce : Int) {x : Int} (hx : 0 ≤ x ∧ x ≤ 99) : k_PI sh (u_num σ ce x) v w :=
  ⟨k_SB_of hP.1 rfl (by have := hP.2.2.2.2.2.2.2; unfold u_num; simp [k_up, this]), hP.2.1, f_write_r hP.2.2.1 hx, hP.2.2.2.1, hP.2.2.2.2⟩
theorem k_PI_mod {v w : Nat} (hP : k_PI sh σ v w) (c : Int) {x : Int} (hx : 0 ≤ x ∧ x < 12) : k_PI sh (u_mod σ c x) v w :=
  ⟨k_SB_of hP.1 rfl (by have := hP.2.2.2.2.2.2.1; unfold u_mod; simp [k_up, this]), hP.2.1, hP.2.2.1, fun j => by have := f_write_r (w := 12) (i := c) (x := x) (lo := 0) (hi := 11) (fun j => ⟨(hP.2.2.2.1 j).1, by have := (hP.2.2.2.1 j).2; omega⟩) ⟨hx.1, by omega⟩ j; exact ⟨this.1, by have := this.2; show f_write (σ 119) 12 c x j < 12; omega⟩, hP.2.2.2.2⟩
theorem k_PI_sk {v w : Nat} (hP : k_PI sh σ v w) (c : Int) : k_PI sh (u_sk σ v c) v w := by
  have h1 := hP.2.1
  by_cases h : f_st σ v c
  · have h2 := h.1
    exact k_PI_at hP (by rw [zb_t h]; omega)
  · exact k_PI_at hP (by rw [zb_f h]; omega)
theorem g_rn_pi {v w : Nat} (hP : k_PI sh σ v w) (ce t : Int) : k_PI sh (g_rn σ v ce t).1 v w ∧ (g_rn σ v ce t).1 117 = σ 117 ∧ ((g_rn σ v ce t).2 = 0 ∨ (g_rn σ v ce t).2 = 1) := by
  have h1 := hP.2.1
  have r1 := f_dgt_r σ v
  unfold g_rn
  split
  · exact ⟨hP, rfl, Or.inl rfl⟩
  · rename_i h
    have h2 := f_dgt_in h
    have q1 := k_PI_at hP (a := σ 116 4 + 1) ⟨by omega, by omega⟩
    split
    · rename_i h3
      have h4 := f_dgt_in h3.2
      have r2 := f_dgt_r (u_at σ (σ 116 4 + 1)) v
      have q2 := k_PI_at q1 (a := u_at σ (σ 116 4 + 1) 116 4 + 1) ⟨by omega, by omega⟩
      exact ⟨k_PI_num q2 ce ⟨by omega, by omega⟩, rfl, Or.inr rfl⟩
    · exact ⟨k_PI_num q1 ce ⟨by omega, by omega⟩, rfl, Or.inr rfl⟩
theorem g_mt_pi {v w i : Nat} : ∀ (f j : Nat) (ce : Int) (σ : Nat → Nat → Int), k_PI sh σ v w → k_PI sh (g_mt v i f j ce σ).1 v w ∧ (g_mt v i f j ce σ).1 117 = σ 117 ∧ ((g_mt v i f j ce σ).2 = 0 ∨ (g_mt v i f j ce σ).2 = 1)
  | 0, _, _, _, hP => ⟨hP, rfl, Or.inr rfl⟩
  | f + 1, j, ce, σ, hP => by
    unfold g_mt
    split
    · have h := g_rn_pi hP ce (zb (k_ch i j = 64))
      split
      · exact ⟨h.1, h.2.1, Or.inl rfl⟩
      · have := g_mt_pi (i := i) f (j + 1) (ce + 1) _ h.1
        exact ⟨this.1, this.2.1.trans h.2.1, this.2.2⟩
    · have h := k_PI_sk hP (k_ch i j)
      split
      · have := g_mt_pi (i := i) f (j + 1) ce _ h
        exact ⟨this.1, this.2.1, this.2.2⟩
      · exact ⟨h, rfl, Or.inl rfl⟩
theorem z_max_r {a b c : Int} (ha : 0 ≤ a ∧ a ≤ c) (hb : 0 ≤ b ∧ b ≤ c) : 0 ≤ z_max a b ∧ z_max a b ≤ c := by
  unfold z_max
  split <;> assumption
theorem g_rc_pi {v w : Nat} {c start : Int} : ∀ (f m : Nat) (fu : Int) (σ : Nat → Nat → Int), k_PI sh σ v w → m + f = 12 → (0 ≤ fu ∧ fu ≤ σ 117 3) → (0 ≤ start ∧ start ≤ σ 117 3) → k_PI sh (g_rc v c start f m fu σ).1 v w ∧ (g_rc v c start f m fu σ).1 117 = σ 117 ∧ ((g_rc v c start f m fu σ).2 = 0 ∨ (g_rc v c start f m fu σ).2 = 1)
  | 0, _, _, _, hP, _, hf, _ => ⟨k_PI_at hP hf, rfl, Or.inl rfl⟩
  | f + 1, m, fu, σ, hP, hm, hf, hs => by
    have h := g_mt_pi (i := m) (k_len m) 0 (c * 3) _ (k_PI_at hP hs)
    unfold g_rc
    split
    · have e : (g_mt v m (k_len m) 0 (c * 3) (u_at σ start)).1 117 = σ 117 := h.2.1
      have h2 := h.1.2.1
      rw [e] at h2
      have := g_rc_pi (c := c) (start := start) f (m + 1) (z_max fu ((g_mt v m (k_len m) 0 (c * 3) (u_at σ start)).1 116 4)) _ h.1 (by omega) (by rw [e]; exact z_max_r hf h2) (by rw [e]; exact hs)
      exact ⟨this.1, this.2.1.trans e, this.2.2⟩
    · exact ⟨k_PI_mod h.1 c ⟨by omega, by omega⟩, h.2.1, Or.inr rfl⟩
theorem g_cmd_pi {v w : Nat} (hP : k_PI sh σ v w) (c : Int) : k_PI sh (g_cmd v c σ).1 v w ∧ (g_cmd v c σ).1 117 = σ 117 ∧ ((g_cmd v c σ).2 = 0 ∨ (g_cmd v c σ).2 = 1) := g_rc_pi 12 0 (σ 116 4) σ hP rfl hP.2.1 hP.2.1
set_option maxHeartbeats 4000000 in
theorem c_digitHere (hsh : k_Main sh) {v w : Nat} (hP : k_PI sh σ v w)  : k_C E mX6_digitHere 5 [.ref 116] sh σ 0 0 (k_ret (some (.int (iI (f_dgt σ v)))) sh σ) := by
  refine k_C_of (ls0 := [(0, .ref 116)]) rfl pnX6 (fun v hv => k_cat1 rfl hv) (Nat.le_of_ble_eq_true rfl) rfl ?_
  obtain ⟨hB, ⟨p1, p2⟩, p3, p4, p5⟩ := id hP
  obtain ⟨b0, b1, ⟨b2, b3, b4⟩, ⟨b5, b6, b7, b8⟩, b9⟩ := id hB
  have q1 := f_here_r hP
  refine k_aload_n dX6_digitHere_0 0 rfl rfl (by decide) ?_
  refine k_get (kf := 4) (v := .int (iI (σ 116 4))) dX6_digitHere_1 kcX6 w_344 (by decide) (by decide) (s_116 hsh) rfl rfl ?_
  refine k_if_lt (tgt := 35) dX6_digitHere_4 rfl ⟨by omega, by omega⟩ (fun h_1 => ?_) (fun h_1 => ?_)
  · refine k_bipush (v := 32) dX6_digitHere_35 (by decide) ?_
    refine k_eqst (congrArg (fun z : Int => Value.int (iI z) :: []) (show f_here σ v = 32 from if_neg (by omega))) ?_
    refine k_istore_n (ls' := [(0, .ref 116), (1, .int (iI (f_here σ v)))]) dX6_digitHere_37 rfl (by decide) rfl rfl ?_
    refine k_iload_n dX6_digitHere_38 1 rfl rfl ?_
    refine k_bipush (v := 48) dX6_digitHere_39 (by decide) ?_
    refine k_icmp_lt (tgt := 57) dX6_digitHere_41 rfl ⟨by omega, by omega⟩ ⟨by decide, by decide⟩ (fun h_2 => ?_) (fun h_2 => ?_)
    · refine k_iconst (v := (-1)) dX6_digitHere_57 rfl ?_
      refine k_eqst (congrArg (fun z : Int => Value.int (iI z) :: []) (show f_dgt σ v = -1 from if_neg (by omega))) ?_
      exact k_reti dX6_digitHere_58 rfl rfl (by rfl)
    · refine k_iload_n dX6_digitHere_44 1 rfl rfl ?_
      refine k_bipush (v := 57) dX6_digitHere_45 (by decide) ?_
      refine k_icmp_gt (tgt := 57) dX6_digitHere_47 rfl ⟨by omega, by omega⟩ ⟨by decide, by decide⟩ (fun h_3 => ?_) (fun h_3 => ?_)
      · refine k_iconst (v := (-1)) dX6_digitHere_57 rfl ?_
        refine k_eqst (congrArg (fun z : Int => Value.int (iI z) :: []) (show f_dgt σ v = -1 from if_neg (by omega))) ?_
        exact k_reti dX6_digitHere_58 rfl rfl (by rfl)
      · refine k_iload_n dX6_digitHere_50 1 rfl rfl ?_
        refine k_bipush (v := 48) dX6_digitHere_51 (by decide) ?_
        refine k_isub dX6_digitHere_53 ?_
        refine k_goto (tgt := 58) dX6_digitHere_54 rfl ?_
        refine k_eqst (congrArg (fun z : Int => Value.int (iI z) :: []) (show f_dgt σ v = (f_here σ v) - 48 from if_pos ⟨by omega, by omega⟩)) ?_
        exact k_reti dX6_digitHere_58 rfl rfl (by rfl)
  · refine k_aload_n dX6_digitHere_7 0 rfl rfl (by decide) ?_
    refine k_get (kf := 4) (v := .int (iI (σ 116 4))) dX6_digitHere_8 kcX6 w_344 (by decide) (by decide) (s_116 hsh) rfl rfl ?_
    refine k_aload_n dX6_digitHere_11 0 rfl rfl (by decide) ?_
    refine k_get (kf := 0) (v := .ref 117) dX6_digitHere_12 kcX6 w_338 (by decide) (by decide) (s_116 hsh) rfl rfl ?_
    refine k_callVCr (Cn := "java/lang/StringBuilder") (st := [.int (iI (σ 116 4))]) (as := []) dX6_digitHere_15 oJ4_length_8abf5 w_1663 w_1475 w_2295 rfl (by omega) rfl (Nat.le_of_ble_eq_true rfl) (by decide) b0 rfl (c_sbLen hP.1) ?_
    refine k_icmp_ge (tgt := 35) dX6_digitHere_18 rfl ⟨by omega, by omega⟩ ⟨by omega, by omega⟩ (fun h_4 => ?_) (fun h_4 => ?_)
    · refine k_bipush (v := 32) dX6_digitHere_35 (by decide) ?_
      refine k_eqst (congrArg (fun z : Int => Value.int (iI z) :: []) (show f_here σ v = 32 from if_neg (by omega))) ?_
      refine k_istore_n (ls' := [(0, .ref 116), (1, .int (iI (f_here σ v)))]) dX6_digitHere_37 rfl (by decide) rfl rfl ?_
      refine k_iload_n dX6_digitHere_38 1 rfl rfl ?_
      refine k_bipush (v := 48) dX6_digitHere_39 (by decide) ?_
      refine k_icmp_lt (tgt := 57) dX6_digitHere_41 rfl ⟨by omega, by omega⟩ ⟨by decide, by decide⟩ (fun h_5 => ?_) (fun h_5 => ?_)
      · refine k_iconst (v := (-1)) dX6_digitHere_57 rfl ?_
        refine k_eqst (congrArg (fun z : Int => Value.int (iI z) :: []) (show f_dgt σ v = -1 from if_neg (by omega))) ?_
        exact k_reti dX6_digitHere_58 rfl rfl (by rfl)
      · refine k_iload_n dX6_digitHere_44 1 rfl rfl ?_
        refine k_bipush (v := 57) dX6_digitHere_45 (by decide) ?_
        refine k_icmp_gt (tgt := 57) dX6_digitHere_47 rfl ⟨by omega, by omega⟩ ⟨by decide, by decide⟩ (fun h_6 => ?_) (fun h_6 => ?_)
        · refine k_iconst (v := (-1)) dX6_digitHere_57 rfl ?_
          refine k_eqst (congrArg (fun z : Int => Value.int (iI z) :: []) (show f_dgt σ v = -1 from if_neg (by omega))) ?_
          exact k_reti dX6_digitHere_58 rfl rfl (by rfl)
        · refine k_iload_n dX6_digitHere_50 1 rfl rfl ?_
          refine k_bipush (v := 48) dX6_digitHere_51 (by decide) ?_
          refine k_isub dX6_digitHere_53 ?_
          refine k_goto (tgt := 58) dX6_digitHere_54 rfl ?_
          refine k_eqst (congrArg (fun z : Int => Value.int (iI z) :: []) (show f_dgt σ v = (f_here σ v) - 48 from if_pos ⟨by omega, by omega⟩)) ?_
          exact k_reti dX6_digitHere_58 rfl rfl (by rfl)
    · refine k_aload_n dX6_digitHere_21 0 rfl rfl (by decide) ?_
      refine k_get (kf := 0) (v := .ref 117) dX6_digitHere_22 kcX6 w_338 (by decide) (by decide) (s_116 hsh) rfl rfl ?_
      refine k_aload_n dX6_digitHere_25 0 rfl rfl (by decide) ?_
      refine k_get (kf := 4) (v := .int (iI (σ 116 4))) dX6_digitHere_26 kcX6 w_344 (by decide) (by decide) (s_116 hsh) rfl rfl ?_
      refine k_callVCr (Cn := "java/lang/StringBuilder") (st := []) (as := [.int (iI (σ 116 4))]) dX6_digitHere_29 oJ4_charAt_5068e w_1664 w_1587 w_1588 rfl (by omega) rfl (Nat.le_of_ble_eq_true rfl) (by decide) b0 rfl (c_sbChar (i := σ 116 4) hP.1 ⟨by omega, by omega⟩ ⟨by omega, by omega⟩) ?_
      refine k_goto (tgt := 37) dX6_digitHere_32 rfl ?_
      refine k_eqst (congrArg (fun z : Int => Value.int (iI z) :: []) (show f_here σ v = σ v (σ 116 4).toNat from if_pos ⟨by omega, by omega⟩)) ?_
      refine k_istore_n (ls' := [(0, .ref 116), (1, .int (iI (f_here σ v)))]) dX6_digitHere_37 rfl (by decide) rfl rfl ?_
      refine k_iload_n dX6_digitHere_38 1 rfl rfl ?_
      refine k_bipush (v := 48) dX6_digitHere_39 (by decide) ?_
      refine k_icmp_lt (tgt := 57) dX6_digitHere_41 rfl ⟨by omega, by omega⟩ ⟨by decide, by decide⟩ (fun h_7 => ?_) (fun h_7 => ?_)
      · refine k_iconst (v := (-1)) dX6_digitHere_57 rfl ?_
        refine k_eqst (congrArg (fun z : Int => Value.int (iI z) :: []) (show f_dgt σ v = -1 from if_neg (by omega))) ?_
        exact k_reti dX6_digitHere_58 rfl rfl (by rfl)
      · refine k_iload_n dX6_digitHere_44 1 rfl rfl ?_
        refine k_bipush (v := 57) dX6_digitHere_45 (by decide) ?_
        refine k_icmp_gt (tgt := 57) dX6_digitHere_47 rfl ⟨by omega, by omega⟩ ⟨by decide, by decide⟩ (fun h_8 => ?_) (fun h_8 => ?_)
        · refine k_iconst (v := (-1)) dX6_digitHere_57 rfl ?_
          refine k_eqst (congrArg (fun z : Int => Value.int (iI z) :: []) (show f_dgt σ v = -1 from if_neg (by omega))) ?_
          exact k_reti dX6_digitHere_58 rfl rfl (by rfl)
        · refine k_iload_n dX6_digitHere_50 1 rfl rfl ?_
          refine k_bipush (v := 48) dX6_digitHere_51 (by decide) ?_
          refine k_isub dX6_digitHere_53 ?_
          refine k_goto (tgt := 58) dX6_digitHere_54 rfl ?_
          refine k_eqst (congrArg (fun z : Int => Value.int (iI z) :: []) (show f_dgt σ v = (f_here σ v) - 48 from if_pos ⟨by omega, by omega⟩)) ?_
          exact k_reti dX6_digitHere_58 rfl rfl (by rfl)
set_option maxHeartbeats 4000000 in
theorem c_skip (hsh : k_Main sh) {v w : Nat} (hP : k_PI sh σ v w) {c : Int} (hc : -2147483648 ≤ c ∧ c < 2147483648) (hc0 : 0 ≤ c ∧ c < 128) : k_C E mX6_skip 5 [.ref 116, .int (iI (c))] sh σ 0 0 (k_ret (some (.int (iI (zb (f_st σ v c))))) sh (u_sk σ v c)) := by
  refine k_C_of (ls0 := [(0, .ref 116), (1, .int (iI (c)))]) rfl pnX6 (fun v hv => k_cat1 rfl hv) (Nat.le_of_ble_eq_true rfl) rfl ?_
  obtain ⟨hB, ⟨p1, p2⟩, p3, p4, p5⟩ := id hP
  obtain ⟨b0, b1, ⟨b2, b3, b4⟩, ⟨b5, b6, b7, b8⟩, b9⟩ := id hB
  have q1 := b9 (σ 116 4).toNat
  refine k_aload_n dX6_skip_0 0 rfl rfl (by decide) ?_
  refine k_get (kf := 4) (v := .int (iI (σ 116 4))) dX6_skip_1 kcX6 w_344 (by decide) (by decide) (s_116 hsh) rfl rfl ?_
  refine k_if_lt (tgt := 40) dX6_skip_4 rfl ⟨by omega, by omega⟩ (fun h_1 => ?_) (fun h_1 => ?_)
  · refine k_iconst (v := 0) dX6_skip_40 rfl ?_
    have hs_2 : ¬ f_st σ v c := by omega
    refine k_eqst (congrArg (fun z : Int => Value.int (iI z) :: []) (show zb (f_st σ v c) = 0 from zb_f hs_2)) ?_
    refine k_istore_n (ls' := [(0, .ref 116), (1, .int (iI (c))), (2, .int (iI (zb (f_st σ v c))))]) dX6_skip_41 rfl (by decide) rfl rfl ?_
    refine k_aload_n dX6_skip_42 0 rfl rfl (by decide) ?_
    refine k_dup dX6_skip_43 rfl ?_
    refine k_get (kf := 4) (v := .int (iI (σ 116 4))) dX6_skip_44 kcX6 w_344 (by decide) (by decide) (s_116 hsh) rfl rfl ?_
    refine k_iload_n dX6_skip_47 2 rfl rfl ?_
    refine k_if_eq (tgt := 55) dX6_skip_48 rfl (zb_kr _) (fun h_3 => ?_) (fun h_3 => ?_)
    · have h_3 := zb_0.mp h_3
      refine k_iconst (v := 0) dX6_skip_55 rfl ?_
      refine k_eqst (congrArg (fun z : Int => Value.int (iI z) :: [.int (iI (σ 116 4)), .ref 116]) (show zb (f_st σ v c) = 0 from zb_f h_3)) ?_
      refine k_iadd dX6_skip_56 ?_
      refine k_putf (kf := 4) dX6_skip_57 kcX6 w_344 (by decide) (by decide) (s_116 hsh) rfl rfl rfl rfl ?_
      refine k_iload_n dX6_skip_60 2 rfl rfl ?_
      exact k_retz dX6_skip_61 rfl (zb_z _) rfl (by rfl)
    · have h_3 := zb_n0.mp h_3
      refine k_iconst (v := 1) dX6_skip_51 rfl ?_
      refine k_goto (tgt := 56) dX6_skip_52 rfl ?_
      refine k_eqst (congrArg (fun z : Int => Value.int (iI z) :: [.int (iI (σ 116 4)), .ref 116]) (show zb (f_st σ v c) = 1 from zb_t h_3)) ?_
      refine k_iadd dX6_skip_56 ?_
      refine k_putf (kf := 4) dX6_skip_57 kcX6 w_344 (by decide) (by decide) (s_116 hsh) rfl rfl rfl rfl ?_
      refine k_iload_n dX6_skip_60 2 rfl rfl ?_
      exact k_retz dX6_skip_61 rfl (zb_z _) rfl (by rfl)
  · refine k_aload_n dX6_skip_7 0 rfl rfl (by decide) ?_
    refine k_get (kf := 4) (v := .int (iI (σ 116 4))) dX6_skip_8 kcX6 w_344 (by decide) (by decide) (s_116 hsh) rfl rfl ?_
    refine k_aload_n dX6_skip_11 0 rfl rfl (by decide) ?_
    refine k_get (kf := 0) (v := .ref 117) dX6_skip_12 kcX6 w_338 (by decide) (by decide) (s_116 hsh) rfl rfl ?_
    refine k_callVCr (Cn := "java/lang/StringBuilder") (st := [.int (iI (σ 116 4))]) (as := []) dX6_skip_15 oJ4_length_8abf5 w_1663 w_1475 w_2295 rfl (by omega) rfl (Nat.le_of_ble_eq_true rfl) (by decide) b0 rfl (c_sbLen hP.1) ?_
    refine k_icmp_ge (tgt := 40) dX6_skip_18 rfl ⟨by omega, by omega⟩ ⟨by omega, by omega⟩ (fun h_4 => ?_) (fun h_4 => ?_)
    · refine k_iconst (v := 0) dX6_skip_40 rfl ?_
      have hs_5 : ¬ f_st σ v c := by omega
      refine k_eqst (congrArg (fun z : Int => Value.int (iI z) :: []) (show zb (f_st σ v c) = 0 from zb_f hs_5)) ?_
      refine k_istore_n (ls' := [(0, .ref 116), (1, .int (iI (c))), (2, .int (iI (zb (f_st σ v c))))]) dX6_skip_41 rfl (by decide) rfl rfl ?_
      refine k_aload_n dX6_skip_42 0 rfl rfl (by decide) ?_
      refine k_dup dX6_skip_43 rfl ?_
      refine k_get (kf := 4) (v := .int (iI (σ 116 4))) dX6_skip_44 kcX6 w_344 (by decide) (by decide) (s_116 hsh) rfl rfl ?_
      refine k_iload_n dX6_skip_47 2 rfl rfl ?_
      refine k_if_eq (tgt := 55) dX6_skip_48 rfl (zb_kr _) (fun h_6 => ?_) (fun h_6 => ?_)
      · have h_6 := zb_0.mp h_6
        refine k_iconst (v := 0) dX6_skip_55 rfl ?_
        refine k_eqst (congrArg (fun z : Int => Value.int (iI z) :: [.int (iI (σ 116 4)), .ref 116]) (show zb (f_st σ v c) = 0 from zb_f h_6)) ?_
        refine k_iadd dX6_skip_56 ?_
        refine k_putf (kf := 4) dX6_skip_57 kcX6 w_344 (by decide) (by decide) (s_116 hsh) rfl rfl rfl rfl ?_
        refine k_iload_n dX6_skip_60 2 rfl rfl ?_
        exact k_retz dX6_skip_61 rfl (zb_z _) rfl (by rfl)
      · have h_6 := zb_n0.mp h_6
        refine k_iconst (v := 1) dX6_skip_51 rfl ?_
        refine k_goto (tgt := 56) dX6_skip_52 rfl ?_
        refine k_eqst (congrArg (fun z : Int => Value.int (iI z) :: [.int (iI (σ 116 4)), .ref 116]) (show zb (f_st σ v c) = 1 from zb_t h_6)) ?_
        refine k_iadd dX6_skip_56 ?_
        refine k_putf (kf := 4) dX6_skip_57 kcX6 w_344 (by decide) (by decide) (s_116 hsh) rfl rfl rfl rfl ?_
        refine k_iload_n dX6_skip_60 2 rfl rfl ?_
        exact k_retz dX6_skip_61 rfl (zb_z _) rfl (by rfl)
    · refine k_aload_n dX6_skip_21 0 rfl rfl (by decide) ?_
      refine k_get (kf := 0) (v := .ref 117) dX6_skip_22 kcX6 w_338 (by decide) (by decide) (s_116 hsh) rfl rfl ?_
      refine k_aload_n dX6_skip_25 0 rfl rfl (by decide) ?_
      refine k_get (kf := 4) (v := .int (iI (σ 116 4))) dX6_skip_26 kcX6 w_344 (by decide) (by decide) (s_116 hsh) rfl rfl ?_
      refine k_callVCr (Cn := "java/lang/StringBuilder") (st := []) (as := [.int (iI (σ 116 4))]) dX6_skip_29 oJ4_charAt_5068e w_1664 w_1587 w_1588 rfl (by omega) rfl (Nat.le_of_ble_eq_true rfl) (by decide) b0 rfl (c_sbChar (i := σ 116 4) hP.1 ⟨by omega, by omega⟩ ⟨by omega, by omega⟩) ?_
      refine k_iload_n dX6_skip_32 1 rfl rfl ?_
      refine k_icmp_ne (tgt := 40) dX6_skip_33 rfl ⟨by omega, by omega⟩ ⟨by omega, by omega⟩ (fun h_7 => ?_) (fun h_7 => ?_)
      · refine k_iconst (v := 0) dX6_skip_40 rfl ?_
        have hs_8 : ¬ f_st σ v c := by omega
        refine k_eqst (congrArg (fun z : Int => Value.int (iI z) :: []) (show zb (f_st σ v c) = 0 from zb_f hs_8)) ?_
        refine k_istore_n (ls' := [(0, .ref 116), (1, .int (iI (c))), (2, .int (iI (zb (f_st σ v c))))]) dX6_skip_41 rfl (by decide) rfl rfl ?_
        refine k_aload_n dX6_skip_42 0 rfl rfl (by decide) ?_
        refine k_dup dX6_skip_43 rfl ?_
        refine k_get (kf := 4) (v := .int (iI (σ 116 4))) dX6_skip_44 kcX6 w_344 (by decide) (by decide) (s_116 hsh) rfl rfl ?_
        refine k_iload_n dX6_skip_47 2 rfl rfl ?_
        refine k_if_eq (tgt := 55) dX6_skip_48 rfl (zb_kr _) (fun h_9 => ?_) (fun h_9 => ?_)
        · have h_9 := zb_0.mp h_9
          refine k_iconst (v := 0) dX6_skip_55 rfl ?_
          refine k_eqst (congrArg (fun z : Int => Value.int (iI z) :: [.int (iI (σ 116 4)), .ref 116]) (show zb (f_st σ v c) = 0 from zb_f h_9)) ?_
          refine k_iadd dX6_skip_56 ?_
          refine k_putf (kf := 4) dX6_skip_57 kcX6 w_344 (by decide) (by decide) (s_116 hsh) rfl rfl rfl rfl ?_
          refine k_iload_n dX6_skip_60 2 rfl rfl ?_
          exact k_retz dX6_skip_61 rfl (zb_z _) rfl (by rfl)
        · have h_9 := zb_n0.mp h_9
          refine k_iconst (v := 1) dX6_skip_51 rfl ?_
          refine k_goto (tgt := 56) dX6_skip_52 rfl ?_
          refine k_eqst (congrArg (fun z : Int => Value.int (iI z) :: [.int (iI (σ 116 4)), .ref 116]) (show zb (f_st σ v c) = 1 from zb_t h_9)) ?_
          refine k_iadd dX6_skip_56 ?_
          refine k_putf (kf := 4) dX6_skip_57 kcX6 w_344 (by decide) (by decide) (s_116 hsh) rfl rfl rfl rfl ?_
          refine k_iload_n dX6_skip_60 2 rfl rfl ?_
          exact k_retz dX6_skip_61 rfl (zb_z _) rfl (by rfl)
      · refine k_iconst (v := 1) dX6_skip_36 rfl ?_
        refine k_goto (tgt := 41) dX6_skip_37 rfl ?_
        have hs_10 : f_st σ v c := ⟨⟨by omega, by omega⟩, by omega⟩
        refine k_eqst (congrArg (fun z : Int => Value.int (iI z) :: []) (show zb (f_st σ v c) = 1 from zb_t hs_10)) ?_
        refine k_istore_n (ls' := [(0, .ref 116), (1, .int (iI (c))), (2, .int (iI (zb (f_st σ v c))))]) dX6_skip_41 rfl (by decide) rfl rfl ?_
        refine k_aload_n dX6_skip_42 0 rfl rfl (by decide) ?_
        refine k_dup dX6_skip_43 rfl ?_
        refine k_get (kf := 4) (v := .int (iI (σ 116 4))) dX6_skip_44 kcX6 w_344 (by decide) (by decide) (s_116 hsh) rfl rfl ?_
        refine k_iload_n dX6_skip_47 2 rfl rfl ?_
        refine k_if_eq (tgt := 55) dX6_skip_48 rfl (zb_kr _) (fun h_11 => ?_) (fun h_11 => ?_)
        · have h_11 := zb_0.mp h_11
          refine k_iconst (v := 0) dX6_skip_55 rfl ?_
          refine k_eqst (congrArg (fun z : Int => Value.int (iI z) :: [.int (iI (σ 116 4)), .ref 116]) (show zb (f_st σ v c) = 0 from zb_f h_11)) ?_
          refine k_iadd dX6_skip_56 ?_
          refine k_putf (kf := 4) dX6_skip_57 kcX6 w_344 (by decide) (by decide) (s_116 hsh) rfl rfl rfl rfl ?_
          refine k_iload_n dX6_skip_60 2 rfl rfl ?_
          exact k_retz dX6_skip_61 rfl (zb_z _) rfl (by rfl)
        · have h_11 := zb_n0.mp h_11
          refine k_iconst (v := 1) dX6_skip_51 rfl ?_
          refine k_goto (tgt := 56) dX6_skip_52 rfl ?_
          refine k_eqst (congrArg (fun z : Int => Value.int (iI z) :: [.int (iI (σ 116 4)), .ref 116]) (show zb (f_st σ v c) = 1 from zb_t h_11)) ?_
          refine k_iadd dX6_skip_56 ?_
          refine k_putf (kf := 4) dX6_skip_57 kcX6 w_344 (by decide) (by decide) (s_116 hsh) rfl rfl rfl rfl ?_
          refine k_iload_n dX6_skip_60 2 rfl rfl ?_
          exact k_retz dX6_skip_61 rfl (zb_z _) rfl (by rfl)
set_option maxHeartbeats 4000000 in
theorem c_readNumber (hsh : k_Main sh) {v w : Nat} (hP : k_PI sh σ v w) {c t : Int} (hc : -2147483648 ≤ c ∧ c < 2147483648) (ht : -2147483648 ≤ t ∧ t < 2147483648) : k_C E mX6_readNumber 6 [.ref 116, .int (iI (c)), .int (iI (t))] sh σ 0 0 (k_ret (some (.int (iI ((g_rn σ v c t).2)))) sh (g_rn σ v c t).1) := by
  refine k_C_of (ls0 := [(0, .ref 116), (1, .int (iI (c))), (2, .int (iI (t)))]) rfl pnX6 (fun v hv => k_cat1 rfl hv) (Nat.le_of_ble_eq_true rfl) rfl ?_
  obtain ⟨hB, ⟨p1, p2⟩, p3, p4, p5⟩ := id hP
  obtain ⟨b0, b1, ⟨b2, b3, b4⟩, ⟨b5, b6, b7, b8⟩, b9⟩ := id hB
  have q1 := f_dgt_r σ v
  refine k_aload_n dX6_readNumber_0 0 rfl rfl (by decide) ?_
  refine k_callVr (st := []) (as := []) dX6_readNumber_1 oX6_digitHere w_1659 w_1661 w_29 rfl (by omega) rfl (Nat.le_of_ble_eq_true rfl) (by decide) (s_116 hsh) rfl (c_digitHere hsh hP) ?_
  refine k_istore_n (ls' := [(0, .ref 116), (1, .int (iI (c))), (2, .int (iI (t))), (3, .int (iI (f_dgt σ v)))]) dX6_readNumber_4 rfl (by decide) rfl rfl ?_
  refine k_iload_n dX6_readNumber_5 3 rfl rfl ?_
  refine k_iconst (v := (-1)) dX6_readNumber_6 rfl ?_
  refine k_icmp_ne (tgt := 12) dX6_readNumber_7 rfl ⟨by omega, by omega⟩ ⟨by decide, by decide⟩ (fun h_1 => ?_) (fun h_1 => ?_)
  · refine k_aload_n dX6_readNumber_12 0 rfl rfl (by decide) ?_
    refine k_dup dX6_readNumber_13 rfl ?_
    refine k_get (kf := 4) (v := .int (iI (σ 116 4))) dX6_readNumber_14 kcX6 w_344 (by decide) (by decide) (s_116 hsh) rfl rfl ?_
    refine k_iconst (v := 1) dX6_readNumber_17 rfl ?_
    refine k_iadd dX6_readNumber_18 ?_
    refine k_putf (kf := 4) dX6_readNumber_19 kcX6 w_344 (by decide) (by decide) (s_116 hsh) rfl rfl rfl rfl ?_
    refine k_eqσ (σ' := (u_at σ (σ 116 4 + 1))) (rfl) ?_
    have r1 := f_dgt_in h_1
    have hP1 := k_PI_at hP (a := σ 116 4 + 1) ⟨by omega, by omega⟩
    have r2 := f_dgt_r (u_at σ (σ 116 4 + 1)) v
    have r3 : u_at σ (σ 116 4 + 1) 116 4 = σ 116 4 + 1 := rfl
    refine k_iload_n dX6_readNumber_22 2 rfl rfl ?_
    refine k_if_eq (tgt := 33) dX6_readNumber_23 rfl ⟨by omega, by omega⟩ (fun h_2 => ?_) (fun h_2 => ?_)
    · refine k_iconst (v := (-1)) dX6_readNumber_33 rfl ?_
      refine k_istore (ls' := [(0, .ref 116), (1, .int (iI (c))), (2, .int (iI (t))), (3, .int (iI (f_dgt σ v))), (4, .int (iI (-1)))]) dX6_readNumber_34 (by decide) rfl rfl ?_
      refine k_iload dX6_readNumber_36 4 rfl ?_
      refine k_iconst (v := (-1)) dX6_readNumber_38 rfl ?_
      refine k_icmp_eq (tgt := 60) dX6_readNumber_39 rfl ⟨by decide, by decide⟩ ⟨by decide, by decide⟩ (fun h_3 => ?_) (fun h_3 => absurd h_3 (by decide))
      refine k_aload_n dX6_readNumber_60 0 rfl rfl (by decide) ?_
      refine k_get (kf := 2) (v := .ref 120) dX6_readNumber_61 kcX6 w_341 (by decide) (by decide) (s_116 hsh) rfl rfl ?_
      refine k_iload_n dX6_readNumber_64 1 rfl rfl ?_
      refine k_iload_n dX6_readNumber_65 3 rfl rfl ?_
      refine k_callSNr (st := []) (as := [.ref 120, .int (iI (c)), .int (iI (f_dgt σ v))]) dX6_readNumber_66 oX7_write w_1665 w_498 rfl (by omega) rfl (Nat.le_of_ble_eq_true rfl) (c_write (by decide) (s_120 hsh) (by decide) ⟨by omega, by omega⟩) ?_
      refine k_iconst (v := 1) dX6_readNumber_69 rfl ?_
      have hz : g_rn σ v c t = ((u_num (u_at σ (σ 116 4 + 1)) c (f_dgt σ v)), 1) := by unfold g_rn; rw [if_neg h_1, if_neg (fun q => q.1 h_2)]
      refine k_eqst (congrArg (fun z : Int => Value.int (iI z) :: []) (show (g_rn σ v c t).2 = 1 from by rw [hz] <;> rfl)) ?_
      refine k_eqσ (σ' := (g_rn σ v c t).1) (by rw [hz] <;> rfl) ?_
      exact k_retz dX6_readNumber_70 rfl ((g_rn_pi hP c t).2.2) rfl (by rfl)
    · refine k_aload_n dX6_readNumber_26 0 rfl rfl (by decide) ?_
      refine k_callVr (st := []) (as := []) dX6_readNumber_27 oX6_digitHere w_1659 w_1661 w_29 rfl (by omega) rfl (Nat.le_of_ble_eq_true rfl) (by decide) (s_116 hsh) rfl (c_digitHere hsh hP1) ?_
      refine k_goto (tgt := 34) dX6_readNumber_30 rfl ?_
      refine k_istore (ls' := [(0, .ref 116), (1, .int (iI (c))), (2, .int (iI (t))), (3, .int (iI (f_dgt σ v))), (4, .int (iI (f_dgt (u_at σ (σ 116 4 + 1)) v)))]) dX6_readNumber_34 (by decide) rfl rfl ?_
      refine k_iload dX6_readNumber_36 4 rfl ?_
      refine k_iconst (v := (-1)) dX6_readNumber_38 rfl ?_
      refine k_icmp_eq (tgt := 60) dX6_readNumber_39 rfl ⟨by omega, by omega⟩ ⟨by decide, by decide⟩ (fun h_4 => ?_) (fun h_4 => ?_)
      · refine k_aload_n dX6_readNumber_60 0 rfl rfl (by decide) ?_
        refine k_get (kf := 2) (v := .ref 120) dX6_readNumber_61 kcX6 w_341 (by decide) (by decide) (s_116 hsh) rfl rfl ?_
        refine k_iload_n dX6_readNumber_64 1 rfl rfl ?_
        refine k_iload_n dX6_readNumber_65 3 rfl rfl ?_
        refine k_callSNr (st := []) (as := [.ref 120, .int (iI (c)), .int (iI (f_dgt σ v))]) dX6_readNumber_66 oX7_write w_1665 w_498 rfl (by omega) rfl (Nat.le_of_ble_eq_true rfl) (c_write (by decide) (s_120 hsh) (by decide) ⟨by omega, by omega⟩) ?_
        refine k_iconst (v := 1) dX6_readNumber_69 rfl ?_
        have hz : g_rn σ v c t = ((u_num (u_at σ (σ 116 4 + 1)) c (f_dgt σ v)), 1) := by unfold g_rn; rw [if_neg h_1, if_neg (fun q => q.2 h_4)]
        refine k_eqst (congrArg (fun z : Int => Value.int (iI z) :: []) (show (g_rn σ v c t).2 = 1 from by rw [hz] <;> rfl)) ?_
        refine k_eqσ (σ' := (g_rn σ v c t).1) (by rw [hz] <;> rfl) ?_
        exact k_retz dX6_readNumber_70 rfl ((g_rn_pi hP c t).2.2) rfl (by rfl)
      · refine k_iload_n dX6_readNumber_42 3 rfl rfl ?_
        refine k_bipush (v := 10) dX6_readNumber_43 (by decide) ?_
        refine k_imul dX6_readNumber_45 ?_
        refine k_iload dX6_readNumber_46 4 rfl ?_
        refine k_iadd dX6_readNumber_48 ?_
        refine k_istore_n (ls' := [(0, .ref 116), (1, .int (iI (c))), (2, .int (iI (t))), (3, .int (iI (((f_dgt σ v) * 10) + (f_dgt (u_at σ (σ 116 4 + 1)) v)))), (4, .int (iI (f_dgt (u_at σ (σ 116 4 + 1)) v)))]) dX6_readNumber_49 rfl (by decide) rfl rfl ?_
        refine k_aload_n dX6_readNumber_50 0 rfl rfl (by decide) ?_
        refine k_dup dX6_readNumber_51 rfl ?_
        refine k_get (kf := 4) (v := .int (iI ((u_at σ (σ 116 4 + 1)) 116 4))) dX6_readNumber_52 kcX6 w_344 (by decide) (by decide) (s_116 hsh) rfl rfl ?_
        refine k_iconst (v := 1) dX6_readNumber_55 rfl ?_
        refine k_iadd dX6_readNumber_56 ?_
        refine k_putf (kf := 4) dX6_readNumber_57 kcX6 w_344 (by decide) (by decide) (s_116 hsh) rfl rfl rfl rfl ?_
        refine k_eqσ (σ' := (u_at (u_at σ (σ 116 4 + 1)) (u_at σ (σ 116 4 + 1) 116 4 + 1))) (rfl) ?_
        refine k_aload_n dX6_readNumber_60 0 rfl rfl (by decide) ?_
        refine k_get (kf := 2) (v := .ref 120) dX6_readNumber_61 kcX6 w_341 (by decide) (by decide) (s_116 hsh) rfl rfl ?_
        refine k_iload_n dX6_readNumber_64 1 rfl rfl ?_
        refine k_iload_n dX6_readNumber_65 3 rfl rfl ?_
        refine k_callSNr (st := []) (as := [.ref 120, .int (iI (c)), .int (iI (((f_dgt σ v) * 10) + (f_dgt (u_at σ (σ 116 4 + 1)) v)))]) dX6_readNumber_66 oX7_write w_1665 w_498 rfl (by omega) rfl (Nat.le_of_ble_eq_true rfl) (c_write (by decide) (s_120 hsh) (by decide) ⟨by omega, by omega⟩) ?_
        refine k_iconst (v := 1) dX6_readNumber_69 rfl ?_
        have hz : g_rn σ v c t = ((u_num (u_at (u_at σ (σ 116 4 + 1)) (u_at σ (σ 116 4 + 1) 116 4 + 1)) c (((f_dgt σ v) * 10) + (f_dgt (u_at σ (σ 116 4 + 1)) v))), 1) := by unfold g_rn; rw [if_neg h_1, if_pos ⟨h_2, h_4⟩]
        refine k_eqst (congrArg (fun z : Int => Value.int (iI z) :: []) (show (g_rn σ v c t).2 = 1 from by rw [hz] <;> rfl)) ?_
        refine k_eqσ (σ' := (g_rn σ v c t).1) (by rw [hz] <;> rfl) ?_
        exact k_retz dX6_readNumber_70 rfl ((g_rn_pi hP c t).2.2) rfl (by rfl)
  · refine k_iconst (v := 0) dX6_readNumber_10 rfl ?_
    have hz : g_rn σ v c t = (σ, 0) := by unfold g_rn; rw [if_pos h_1]
    refine k_eqst (congrArg (fun z : Int => Value.int (iI z) :: []) (show (g_rn σ v c t).2 = 0 from by rw [hz] <;> rfl)) ?_
    refine k_eqσ (σ' := (g_rn σ v c t).1) (by rw [hz] <;> rfl) ?_
    exact k_retz dX6_readNumber_11 rfl ((g_rn_pi hP c t).2.2) rfl (by rfl)
set_option maxHeartbeats 4000000 in
theorem c_formOf0  : k_C E mX6_formOf 1 [.int (iI (0))] sh σ 0 0 (k_ret (some (.ref 1000010)) sh σ) := by
  refine k_C_of (ls0 := [(0, .int (iI (0)))]) rfl pnX6 (fun v hv => k_cat1 rfl hv) (Nat.le_of_ble_eq_true rfl) rfl ?_
  refine k_iload_n dX6_formOf_0 0 rfl rfl ?_
  refine k_tableIn (tgt := 60) dX6_formOf_1 ⟨by decide, by decide⟩ (by decide) (by decide) rfl rfl ?_
  refine k_ldcS 0 dX6_formOf_60 (by decide) rfl rfl ?_
  exact k_ret_r dX6_formOf_62 rfl (Or.inl ⟨_, rfl⟩) (by decide) ⟨rfl, rfl, rfl⟩
set_option maxHeartbeats 4000000 in
theorem c_formOf1  : k_C E mX6_formOf 1 [.int (iI (1))] sh σ 0 0 (k_ret (some (.ref 1000011)) sh σ) := by
  refine k_C_of (ls0 := [(0, .int (iI (1)))]) rfl pnX6 (fun v hv => k_cat1 rfl hv) (Nat.le_of_ble_eq_true rfl) rfl ?_
  refine k_iload_n dX6_formOf_0 0 rfl rfl ?_
  refine k_tableIn (tgt := 63) dX6_formOf_1 ⟨by decide, by decide⟩ (by decide) (by decide) rfl rfl ?_
  refine k_ldcS 1 dX6_formOf_63 (by decide) rfl rfl ?_
  exact k_ret_r dX6_formOf_65 rfl (Or.inl ⟨_, rfl⟩) (by decide) ⟨rfl, rfl, rfl⟩
set_option maxHeartbeats 4000000 in
theorem c_formOf2  : k_C E mX6_formOf 1 [.int (iI (2))] sh σ 0 0 (k_ret (some (.ref 1000012)) sh σ) := by
  refine k_C_of (ls0 := [(0, .int (iI (2)))]) rfl pnX6 (fun v hv => k_cat1 rfl hv) (Nat.le_of_ble_eq_true rfl) rfl ?_
  refine k_iload_n dX6_formOf_0 0 rfl rfl ?_
  refine k_tableIn (tgt := 66) dX6_formOf_1 ⟨by decide, by decide⟩ (by decide) (by decide) rfl rfl ?_
  refine k_ldcS 2 dX6_formOf_66 (by decide) rfl rfl ?_
  exact k_ret_r dX6_formOf_68 rfl (Or.inl ⟨_, rfl⟩) (by decide) ⟨rfl, rfl, rfl⟩
set_option maxHeartbeats 4000000 in
theorem c_formOf3  : k_C E mX6_formOf 1 [.int (iI (3))] sh σ 0 0 (k_ret (some (.ref 1000013)) sh σ) := by
  refine k_C_of (ls0 := [(0, .int (iI (3)))]) rfl pnX6 (fun v hv => k_cat1 rfl hv) (Nat.le_of_ble_eq_true rfl) rfl ?_
  refine k_iload_n dX6_formOf_0 0 rfl rfl ?_
  refine k_tableIn (tgt := 69) dX6_formOf_1 ⟨by decide, by decide⟩ (by decide) (by decide) rfl rfl ?_
  refine k_ldcS 3 dX6_formOf_69 (by decide) rfl rfl ?_
  exact k_ret_r dX6_formOf_71 rfl (Or.inl ⟨_, rfl⟩) (by decide) ⟨rfl, rfl, rfl⟩
set_option maxHeartbeats 4000000 in
theorem c_formOf4  : k_C E mX6_formOf 1 [.int (iI (4))] sh σ 0 0 (k_ret (some (.ref 1000014)) sh σ) := by
  refine k_C_of (ls0 := [(0, .int (iI (4)))]) rfl pnX6 (fun v hv => k_cat1 rfl hv) (Nat.le_of_ble_eq_true rfl) rfl ?_
  refine k_iload_n dX6_formOf_0 0 rfl rfl ?_
  refine k_tableIn (tgt := 72) dX6_formOf_1 ⟨by decide, by decide⟩ (by decide) (by decide) rfl rfl ?_
  refine k_ldcS 4 dX6_formOf_72 (by decide) rfl rfl ?_
  exact k_ret_r dX6_formOf_74 rfl (Or.inl ⟨_, rfl⟩) (by decide) ⟨rfl, rfl, rfl⟩
set_option maxHeartbeats 4000000 in
theorem c_formOf5  : k_C E mX6_formOf 1 [.int (iI (5))] sh σ 0 0 (k_ret (some (.ref 1000015)) sh σ) := by
  refine k_C_of (ls0 := [(0, .int (iI (5)))]) rfl pnX6 (fun v hv => k_cat1 rfl hv) (Nat.le_of_ble_eq_true rfl) rfl ?_
  refine k_iload_n dX6_formOf_0 0 rfl rfl ?_
  refine k_tableIn (tgt := 75) dX6_formOf_1 ⟨by decide, by decide⟩ (by decide) (by decide) rfl rfl ?_
  refine k_ldcS 5 dX6_formOf_75 (by decide) rfl rfl ?_
  exact k_ret_r dX6_formOf_77 rfl (Or.inl ⟨_, rfl⟩) (by decide) ⟨rfl, rfl, rfl⟩
set_option maxHeartbeats 4000000 in
theorem c_formOf6  : k_C E mX6_formOf 1 [.int (iI (6))] sh σ 0 0 (k_ret (some (.ref 1000016)) sh σ) := by
  refine k_C_of (ls0 := [(0, .int (iI (6)))]) rfl pnX6 (fun v hv => k_cat1 rfl hv) (Nat.le_of_ble_eq_true rfl) rfl ?_
  refine k_iload_n dX6_formOf_0 0 rfl rfl ?_
  refine k_tableIn (tgt := 78) dX6_formOf_1 ⟨by decide, by decide⟩ (by decide) (by decide) rfl rfl ?_
  refine k_ldcS 6 dX6_formOf_78 (by decide) rfl rfl ?_
  exact k_ret_r dX6_formOf_80 rfl (Or.inl ⟨_, rfl⟩) (by decide) ⟨rfl, rfl, rfl⟩
set_option maxHeartbeats 4000000 in
theorem c_formOf7  : k_C E mX6_formOf 1 [.int (iI (7))] sh σ 0 0 (k_ret (some (.ref 1000017)) sh σ) := by
  refine k_C_of (ls0 := [(0, .int (iI (7)))]) rfl pnX6 (fun v hv => k_cat1 rfl hv) (Nat.le_of_ble_eq_true rfl) rfl ?_
  refine k_iload_n dX6_formOf_0 0 rfl rfl ?_
  refine k_tableIn (tgt := 81) dX6_formOf_1 ⟨by decide, by decide⟩ (by decide) (by decide) rfl rfl ?_
  refine k_ldcS 7 dX6_formOf_81 (by decide) rfl rfl ?_
  exact k_ret_r dX6_formOf_83 rfl (Or.inl ⟨_, rfl⟩) (by decide) ⟨rfl, rfl, rfl⟩
set_option maxHeartbeats 4000000 in
theorem c_formOf8  : k_C E mX6_formOf 1 [.int (iI (8))] sh σ 0 0 (k_ret (some (.ref 1000018)) sh σ) := by
  refine k_C_of (ls0 := [(0, .int (iI (8)))]) rfl pnX6 (fun v hv => k_cat1 rfl hv) (Nat.le_of_ble_eq_true rfl) rfl ?_
  refine k_iload_n dX6_formOf_0 0 rfl rfl ?_
  refine k_tableIn (tgt := 84) dX6_formOf_1 ⟨by decide, by decide⟩ (by decide) (by decide) rfl rfl ?_
  refine k_ldcS 8 dX6_formOf_84 (by decide) rfl rfl ?_
  exact k_ret_r dX6_formOf_86 rfl (Or.inl ⟨_, rfl⟩) (by decide) ⟨rfl, rfl, rfl⟩
set_option maxHeartbeats 4000000 in
theorem c_formOf9  : k_C E mX6_formOf 1 [.int (iI (9))] sh σ 0 0 (k_ret (some (.ref 1000019)) sh σ) := by
  refine k_C_of (ls0 := [(0, .int (iI (9)))]) rfl pnX6 (fun v hv => k_cat1 rfl hv) (Nat.le_of_ble_eq_true rfl) rfl ?_
  refine k_iload_n dX6_formOf_0 0 rfl rfl ?_
  refine k_tableIn (tgt := 87) dX6_formOf_1 ⟨by decide, by decide⟩ (by decide) (by decide) rfl rfl ?_
  refine k_ldcS 9 dX6_formOf_87 (by decide) rfl rfl ?_
  exact k_ret_r dX6_formOf_89 rfl (Or.inl ⟨_, rfl⟩) (by decide) ⟨rfl, rfl, rfl⟩
set_option maxHeartbeats 4000000 in
theorem c_formOf10  : k_C E mX6_formOf 1 [.int (iI (10))] sh σ 0 0 (k_ret (some (.ref 1000020)) sh σ) := by
  refine k_C_of (ls0 := [(0, .int (iI (10)))]) rfl pnX6 (fun v hv => k_cat1 rfl hv) (Nat.le_of_ble_eq_true rfl) rfl ?_
  refine k_iload_n dX6_formOf_0 0 rfl rfl ?_
  refine k_tableIn (tgt := 90) dX6_formOf_1 ⟨by decide, by decide⟩ (by decide) (by decide) rfl rfl ?_
  refine k_ldcS 10 dX6_formOf_90 (by decide) rfl rfl ?_
  exact k_ret_r dX6_formOf_92 rfl (Or.inl ⟨_, rfl⟩) (by decide) ⟨rfl, rfl, rfl⟩
set_option maxHeartbeats 4000000 in
theorem c_formOf11  : k_C E mX6_formOf 1 [.int (iI (11))] sh σ 0 0 (k_ret (some (.ref 1000021)) sh σ) := by
  refine k_C_of (ls0 := [(0, .int (iI (11)))]) rfl pnX6 (fun v hv => k_cat1 rfl hv) (Nat.le_of_ble_eq_true rfl) rfl ?_
  refine k_iload_n dX6_formOf_0 0 rfl rfl ?_
  refine k_tableOut (tgt := 93) dX6_formOf_1 ⟨by decide, by decide⟩ (by decide) rfl ?_
  refine k_ldcS 11 dX6_formOf_93 (by decide) rfl rfl ?_
  exact k_ret_r dX6_formOf_95 rfl (Or.inl ⟨_, rfl⟩) (by decide) ⟨rfl, rfl, rfl⟩
theorem c_formOf : ∀ m : Nat, m < 12 → k_C E mX6_formOf 1 [.int (iI (m : Int))] sh σ 0 0 (k_ret (some (.ref (1000010 + m))) sh σ)
  | 0, _ => c_formOf0
  | 1, _ => c_formOf1
  | 2, _ => c_formOf2
  | 3, _ => c_formOf3
  | 4, _ => c_formOf4
  | 5, _ => c_formOf5
  | 6, _ => c_formOf6
  | 7, _ => c_formOf7
  | 8, _ => c_formOf8
  | 9, _ => c_formOf9
  | 10, _ => c_formOf10
  | 11, _ => c_formOf11
  | m + 12, h => absurd h (by omega)
set_option maxHeartbeats 4000000 in
theorem c_matchL (hsh : k_Main sh) {v w i : Nat} (hi : i < 24) {c0 : Int} : ∀ (f j : Nat) (ce : Int) (σ : Nat → Nat → Int), k_PI sh σ v w → j + f = k_len i → (0 ≤ ce ∧ ce ≤ 50 + j) → k_V E mX6_matches 7 5 [(0, .ref 116), (1, .ref (1000010 + i)), (2, .int (iI (c0))), (3, .int (iI (ce))), (4, .int (iI ((j : Int))))] [] sh σ 0 0 (k_ret (some (.int (iI (g_mt v i f j ce σ).2))) sh (g_mt v i f j ce σ).1)
  | 0, j, ce, σ, hP, hf, hc => by
    obtain ⟨hB, ⟨p1, p2⟩, p3, p4, p5⟩ := id hP
    obtain ⟨b0, b1, ⟨b2, b3, b4⟩, ⟨b5, b6, b7, b8⟩, b9⟩ := id hB
    have q0 := k_str_ok i hi
    have q1 := q0.1
    refine k_iload dX6_matches_5 4 rfl ?_
    refine k_aload_n dX6_matches_7 1 rfl rfl (by omega) ?_
    refine k_callVSr (st := [.int (iI ((j : Int)))]) (as := []) dX6_matches_8 oJ0_length_8abf5 w_1639 w_1387 w_1388 rfl (by omega) rfl (Nat.le_of_ble_eq_true rfl) hi (c_strLength hi) ?_
    refine k_icmp_ge (tgt := 101) dX6_matches_11 rfl ⟨by omega, by omega⟩ ⟨by omega, by omega⟩ (fun h_1 => ?_) (fun h_1 => absurd h_1 (by omega))
    refine k_iconst (v := 1) dX6_matches_101 rfl ?_
    exact k_retz dX6_matches_102 rfl (Or.inr rfl) rfl (by rfl)
  | f + 1, j, ce, σ, hP, hf, hc => by
    obtain ⟨hB, ⟨p1, p2⟩, p3, p4, p5⟩ := id hP
    obtain ⟨b0, b1, ⟨b2, b3, b4⟩, ⟨b5, b6, b7, b8⟩, b9⟩ := id hB
    have q0 := k_str_ok i hi
    have q1 := q0.1
    have q2 := q0.2 j (by omega)
    refine k_iload dX6_matches_5 4 rfl ?_
    refine k_aload_n dX6_matches_7 1 rfl rfl (by omega) ?_
    refine k_callVSr (st := [.int (iI ((j : Int)))]) (as := []) dX6_matches_8 oJ0_length_8abf5 w_1639 w_1387 w_1388 rfl (by omega) rfl (Nat.le_of_ble_eq_true rfl) hi (c_strLength hi) ?_
    refine k_icmp_ge (tgt := 101) dX6_matches_11 rfl ⟨by omega, by omega⟩ ⟨by omega, by omega⟩ (fun h_1 => absurd h_1 (by omega)) (fun h_1 => ?_)
    refine k_aload_n dX6_matches_14 1 rfl rfl (by omega) ?_
    refine k_iload dX6_matches_15 4 rfl ?_
    refine k_callVSr (st := []) (as := [.int (iI ((j : Int)))]) dX6_matches_17 oJ0_charAt_5068e w_1640 w_1641 w_1642 rfl (by omega) rfl (Nat.le_of_ble_eq_true rfl) hi (c_strCharAt (j := (j : Int)) hi ⟨by omega, by omega⟩) ?_
    refine k_istore (ls' := [(0, .ref 116), (1, .ref (1000010 + i)), (2, .int (iI (c0))), (3, .int (iI (ce))), (4, .int (iI ((j : Int)))), (5, .int (iI (k_ch i j)))]) dX6_matches_20 (by decide) rfl rfl ?_
    refine k_iload dX6_matches_22 5 rfl ?_
    refine k_bipush (v := 35) dX6_matches_24 (by decide) ?_
    refine k_icmp_eq (tgt := 36) dX6_matches_26 rfl ⟨by omega, by omega⟩ ⟨by decide, by decide⟩ (fun h_2 => ?_) (fun h_2 => ?_)
    · refine k_iconst (v := 1) dX6_matches_36 rfl ?_
      refine k_goto (tgt := 41) dX6_matches_37 rfl ?_
      have hn : k_nch i j := by omega
      refine k_istore (ls' := [(0, .ref 116), (1, .ref (1000010 + i)), (2, .int (iI (c0))), (3, .int (iI (ce))), (4, .int (iI ((j : Int)))), (5, .int (iI (k_ch i j))), (6, .int (iI (1)))]) dX6_matches_41 (by decide) rfl rfl ?_
      refine k_iload dX6_matches_43 6 rfl ?_
      refine k_if_eq (tgt := 71) dX6_matches_45 rfl ⟨by decide, by decide⟩ (fun h_3 => absurd h_3 (by decide)) (fun h_3 => ?_)
      refine k_aload_n dX6_matches_48 0 rfl rfl (by decide) ?_
      refine k_iload_n dX6_matches_49 3 rfl rfl ?_
      refine k_iload dX6_matches_50 5 rfl ?_
      refine k_bipush (v := 64) dX6_matches_52 (by decide) ?_
      refine k_icmp_ne (tgt := 61) dX6_matches_54 rfl ⟨by omega, by omega⟩ ⟨by decide, by decide⟩ (fun h_4 => ?_) (fun h_4 => ?_)
      · refine k_iconst (v := 0) dX6_matches_61 rfl ?_
        refine k_eqst (congrArg (fun z : Int => Value.int (iI z) :: [.int (iI (ce)), .ref 116]) (show zb (k_ch i j = 64) = 0 from zb_f (by omega))) ?_
        refine k_callVr (st := []) (as := [.int (iI (ce)), .int (iI (zb (k_ch i j = 64)))]) dX6_matches_62 oX6_readNumber w_1655 w_1657 w_28 rfl (by omega) rfl (Nat.le_of_ble_eq_true rfl) (by decide) (s_116 hsh) rfl (c_readNumber hsh hP ⟨by omega, by omega⟩ (zb_kr _)) ?_
        have hr5 := (g_rn_pi hP ce (zb (k_ch i j = 64))).2.2
        refine k_if_ne (tgt := 82) dX6_matches_65 rfl ⟨by omega, by omega⟩ (fun h_5 => ?_) (fun h_5 => ?_)
        · refine k_iload_n dX6_matches_82 3 rfl rfl ?_
          refine k_iload dX6_matches_83 6 rfl ?_
          refine k_if_eq (tgt := 92) dX6_matches_85 rfl ⟨by decide, by decide⟩ (fun h_6 => absurd h_6 (by decide)) (fun h_6 => ?_)
          refine k_iconst (v := 1) dX6_matches_88 rfl ?_
          refine k_goto (tgt := 93) dX6_matches_89 rfl ?_
          refine k_iadd dX6_matches_93 ?_
          refine k_istore_n (ls' := [(0, .ref 116), (1, .ref (1000010 + i)), (2, .int (iI (c0))), (3, .int (iI (ce + 1))), (4, .int (iI ((j : Int)))), (5, .int (iI (k_ch i j))), (6, .int (iI (1)))]) dX6_matches_94 rfl (by decide) rfl rfl ?_
          refine k_iinc (ls' := [(0, .ref 116), (1, .ref (1000010 + i)), (2, .int (iI (c0))), (3, .int (iI (ce + 1))), (4, .int (iI ((j : Int) + 1))), (5, .int (iI (k_ch i j))), (6, .int (iI (1)))]) dX6_matches_95 4 rfl (by decide) rfl rfl ?_
          refine k_goto (tgt := 5) dX6_matches_98 rfl ?_
          refine k_dropr (ls' := [(0, .ref 116), (1, .ref (1000010 + i)), (2, .int (iI (c0))), (3, .int (iI (ce + 1))), (4, .int (iI ((j : Int) + 1)))]) (ex := [(5, .int (iI (k_ch i j))), (6, .int (iI (1)))]) rfl ?_
          rw [show g_mt v i (f + 1) j ce σ = g_mt v i f (j + 1) (ce + 1) (g_rn σ v ce (zb (k_ch i j = 64))).1 from by rw [g_mt]; rw [if_pos hn, if_neg h_5]]
          exact c_matchL hsh hi f (j + 1) (ce + 1) _ (g_rn_pi hP _ _).1 (by omega) (by omega)
        · refine k_goto (tgt := 80) dX6_matches_68 rfl ?_
          rw [show g_mt v i (f + 1) j ce σ = ((g_rn σ v ce (zb (k_ch i j = 64))).1, 0) from by rw [g_mt]; rw [if_pos hn, if_pos h_5]]
          refine k_iconst (v := 0) dX6_matches_80 rfl ?_
          exact k_retz dX6_matches_81 rfl (Or.inl rfl) rfl (by rfl)
      · refine k_iconst (v := 1) dX6_matches_57 rfl ?_
        refine k_goto (tgt := 62) dX6_matches_58 rfl ?_
        refine k_eqst (congrArg (fun z : Int => Value.int (iI z) :: [.int (iI (ce)), .ref 116]) (show zb (k_ch i j = 64) = 1 from zb_t (by omega))) ?_
        refine k_callVr (st := []) (as := [.int (iI (ce)), .int (iI (zb (k_ch i j = 64)))]) dX6_matches_62 oX6_readNumber w_1655 w_1657 w_28 rfl (by omega) rfl (Nat.le_of_ble_eq_true rfl) (by decide) (s_116 hsh) rfl (c_readNumber hsh hP ⟨by omega, by omega⟩ (zb_kr _)) ?_
        have hr5 := (g_rn_pi hP ce (zb (k_ch i j = 64))).2.2
        refine k_if_ne (tgt := 82) dX6_matches_65 rfl ⟨by omega, by omega⟩ (fun h_7 => ?_) (fun h_7 => ?_)
        · refine k_iload_n dX6_matches_82 3 rfl rfl ?_
          refine k_iload dX6_matches_83 6 rfl ?_
          refine k_if_eq (tgt := 92) dX6_matches_85 rfl ⟨by decide, by decide⟩ (fun h_8 => absurd h_8 (by decide)) (fun h_8 => ?_)
          refine k_iconst (v := 1) dX6_matches_88 rfl ?_
          refine k_goto (tgt := 93) dX6_matches_89 rfl ?_
          refine k_iadd dX6_matches_93 ?_
          refine k_istore_n (ls' := [(0, .ref 116), (1, .ref (1000010 + i)), (2, .int (iI (c0))), (3, .int (iI (ce + 1))), (4, .int (iI ((j : Int)))), (5, .int (iI (k_ch i j))), (6, .int (iI (1)))]) dX6_matches_94 rfl (by decide) rfl rfl ?_
          refine k_iinc (ls' := [(0, .ref 116), (1, .ref (1000010 + i)), (2, .int (iI (c0))), (3, .int (iI (ce + 1))), (4, .int (iI ((j : Int) + 1))), (5, .int (iI (k_ch i j))), (6, .int (iI (1)))]) dX6_matches_95 4 rfl (by decide) rfl rfl ?_
          refine k_goto (tgt := 5) dX6_matches_98 rfl ?_
          refine k_dropr (ls' := [(0, .ref 116), (1, .ref (1000010 + i)), (2, .int (iI (c0))), (3, .int (iI (ce + 1))), (4, .int (iI ((j : Int) + 1)))]) (ex := [(5, .int (iI (k_ch i j))), (6, .int (iI (1)))]) rfl ?_
          rw [show g_mt v i (f + 1) j ce σ = g_mt v i f (j + 1) (ce + 1) (g_rn σ v ce (zb (k_ch i j = 64))).1 from by rw [g_mt]; rw [if_pos hn, if_neg h_7]]
          exact c_matchL hsh hi f (j + 1) (ce + 1) _ (g_rn_pi hP _ _).1 (by omega) (by omega)
        · refine k_goto (tgt := 80) dX6_matches_68 rfl ?_
          rw [show g_mt v i (f + 1) j ce σ = ((g_rn σ v ce (zb (k_ch i j = 64))).1, 0) from by rw [g_mt]; rw [if_pos hn, if_pos h_7]]
          refine k_iconst (v := 0) dX6_matches_80 rfl ?_
          exact k_retz dX6_matches_81 rfl (Or.inl rfl) rfl (by rfl)
    · refine k_iload dX6_matches_29 5 rfl ?_
      refine k_bipush (v := 64) dX6_matches_31 (by decide) ?_
      refine k_icmp_ne (tgt := 40) dX6_matches_33 rfl ⟨by omega, by omega⟩ ⟨by decide, by decide⟩ (fun h_9 => ?_) (fun h_9 => ?_)
      · refine k_iconst (v := 0) dX6_matches_40 rfl ?_
        have hn : ¬ k_nch i j := by omega
        refine k_istore (ls' := [(0, .ref 116), (1, .ref (1000010 + i)), (2, .int (iI (c0))), (3, .int (iI (ce))), (4, .int (iI ((j : Int)))), (5, .int (iI (k_ch i j))), (6, .int (iI (0)))]) dX6_matches_41 (by decide) rfl rfl ?_
        refine k_iload dX6_matches_43 6 rfl ?_
        refine k_if_eq (tgt := 71) dX6_matches_45 rfl ⟨by decide, by decide⟩ (fun h_10 => ?_) (fun h_10 => absurd h_10 (by decide))
        refine k_aload_n dX6_matches_71 0 rfl rfl (by decide) ?_
        refine k_iload dX6_matches_72 5 rfl ?_
        refine k_callVr (st := []) (as := [.int (iI (k_ch i j))]) dX6_matches_74 oX6_skip w_1666 w_1668 w_30 rfl (by omega) rfl (Nat.le_of_ble_eq_true rfl) (by decide) (s_116 hsh) rfl (c_skip hsh hP ⟨by omega, by omega⟩ ⟨by omega, by omega⟩) ?_
        refine k_if_ne (tgt := 82) dX6_matches_77 rfl (zb_kr _) (fun h_11 => ?_) (fun h_11 => ?_)
        · have h_11 := zb_n0.mp h_11
          refine k_iload_n dX6_matches_82 3 rfl rfl ?_
          refine k_iload dX6_matches_83 6 rfl ?_
          refine k_if_eq (tgt := 92) dX6_matches_85 rfl ⟨by decide, by decide⟩ (fun h_12 => ?_) (fun h_12 => absurd h_12 (by decide))
          refine k_iconst (v := 0) dX6_matches_92 rfl ?_
          refine k_iadd dX6_matches_93 ?_
          refine k_istore_n (ls' := [(0, .ref 116), (1, .ref (1000010 + i)), (2, .int (iI (c0))), (3, .int (iI (ce + 0))), (4, .int (iI ((j : Int)))), (5, .int (iI (k_ch i j))), (6, .int (iI (0)))]) dX6_matches_94 rfl (by decide) rfl rfl ?_
          refine k_iinc (ls' := [(0, .ref 116), (1, .ref (1000010 + i)), (2, .int (iI (c0))), (3, .int (iI (ce + 0))), (4, .int (iI ((j : Int) + 1))), (5, .int (iI (k_ch i j))), (6, .int (iI (0)))]) dX6_matches_95 4 rfl (by decide) rfl rfl ?_
          refine k_goto (tgt := 5) dX6_matches_98 rfl ?_
          refine k_dropr (ls' := [(0, .ref 116), (1, .ref (1000010 + i)), (2, .int (iI (c0))), (3, .int (iI (ce + 0))), (4, .int (iI ((j : Int) + 1)))]) (ex := [(5, .int (iI (k_ch i j))), (6, .int (iI (0)))]) rfl ?_
          rw [show g_mt v i (f + 1) j ce σ = g_mt v i f (j + 1) ce (u_sk σ v (k_ch i j)) from by rw [g_mt]; rw [if_neg hn, if_pos h_11]]
          refine k_lrw (q := 3) (j := 3) (a' := ce) (ls' := [(0, .ref 116), (1, .ref (1000010 + i)), (2, .int (iI (c0))), (3, .int (iI (ce))), (4, .int (iI ((j : Int) + 1)))]) rfl (by omega) rfl ?_
          exact c_matchL hsh hi f (j + 1) (ce) _ (k_PI_sk hP _) (by omega) (by omega)
        · have h_11 := zb_0.mp h_11
          rw [show g_mt v i (f + 1) j ce σ = ((u_sk σ v (k_ch i j)), 0) from by rw [g_mt]; rw [if_neg hn, if_neg h_11]]
          refine k_iconst (v := 0) dX6_matches_80 rfl ?_
          exact k_retz dX6_matches_81 rfl (Or.inl rfl) rfl (by rfl)
      · refine k_iconst (v := 1) dX6_matches_36 rfl ?_
        refine k_goto (tgt := 41) dX6_matches_37 rfl ?_
        have hn : k_nch i j := by omega
        refine k_istore (ls' := [(0, .ref 116), (1, .ref (1000010 + i)), (2, .int (iI (c0))), (3, .int (iI (ce))), (4, .int (iI ((j : Int)))), (5, .int (iI (k_ch i j))), (6, .int (iI (1)))]) dX6_matches_41 (by decide) rfl rfl ?_
        refine k_iload dX6_matches_43 6 rfl ?_
        refine k_if_eq (tgt := 71) dX6_matches_45 rfl ⟨by decide, by decide⟩ (fun h_13 => absurd h_13 (by decide)) (fun h_13 => ?_)
        refine k_aload_n dX6_matches_48 0 rfl rfl (by decide) ?_
        refine k_iload_n dX6_matches_49 3 rfl rfl ?_
        refine k_iload dX6_matches_50 5 rfl ?_
        refine k_bipush (v := 64) dX6_matches_52 (by decide) ?_
        refine k_icmp_ne (tgt := 61) dX6_matches_54 rfl ⟨by omega, by omega⟩ ⟨by decide, by decide⟩ (fun h_14 => ?_) (fun h_14 => ?_)
        · refine k_iconst (v := 0) dX6_matches_61 rfl ?_
          refine k_eqst (congrArg (fun z : Int => Value.int (iI z) :: [.int (iI (ce)), .ref 116]) (show zb (k_ch i j = 64) = 0 from zb_f (by omega))) ?_
          refine k_callVr (st := []) (as := [.int (iI (ce)), .int (iI (zb (k_ch i j = 64)))]) dX6_matches_62 oX6_readNumber w_1655 w_1657 w_28 rfl (by omega) rfl (Nat.le_of_ble_eq_true rfl) (by decide) (s_116 hsh) rfl (c_readNumber hsh hP ⟨by omega, by omega⟩ (zb_kr _)) ?_
          have hr5 := (g_rn_pi hP ce (zb (k_ch i j = 64))).2.2
          refine k_if_ne (tgt := 82) dX6_matches_65 rfl ⟨by omega, by omega⟩ (fun h_15 => ?_) (fun h_15 => ?_)
          · refine k_iload_n dX6_matches_82 3 rfl rfl ?_
            refine k_iload dX6_matches_83 6 rfl ?_
            refine k_if_eq (tgt := 92) dX6_matches_85 rfl ⟨by decide, by decide⟩ (fun h_16 => absurd h_16 (by decide)) (fun h_16 => ?_)
            refine k_iconst (v := 1) dX6_matches_88 rfl ?_
            refine k_goto (tgt := 93) dX6_matches_89 rfl ?_
            refine k_iadd dX6_matches_93 ?_
            refine k_istore_n (ls' := [(0, .ref 116), (1, .ref (1000010 + i)), (2, .int (iI (c0))), (3, .int (iI (ce + 1))), (4, .int (iI ((j : Int)))), (5, .int (iI (k_ch i j))), (6, .int (iI (1)))]) dX6_matches_94 rfl (by decide) rfl rfl ?_
            refine k_iinc (ls' := [(0, .ref 116), (1, .ref (1000010 + i)), (2, .int (iI (c0))), (3, .int (iI (ce + 1))), (4, .int (iI ((j : Int) + 1))), (5, .int (iI (k_ch i j))), (6, .int (iI (1)))]) dX6_matches_95 4 rfl (by decide) rfl rfl ?_
            refine k_goto (tgt := 5) dX6_matches_98 rfl ?_
            refine k_dropr (ls' := [(0, .ref 116), (1, .ref (1000010 + i)), (2, .int (iI (c0))), (3, .int (iI (ce + 1))), (4, .int (iI ((j : Int) + 1)))]) (ex := [(5, .int (iI (k_ch i j))), (6, .int (iI (1)))]) rfl ?_
            rw [show g_mt v i (f + 1) j ce σ = g_mt v i f (j + 1) (ce + 1) (g_rn σ v ce (zb (k_ch i j = 64))).1 from by rw [g_mt]; rw [if_pos hn, if_neg h_15]]
            exact c_matchL hsh hi f (j + 1) (ce + 1) _ (g_rn_pi hP _ _).1 (by omega) (by omega)
          · refine k_goto (tgt := 80) dX6_matches_68 rfl ?_
            rw [show g_mt v i (f + 1) j ce σ = ((g_rn σ v ce (zb (k_ch i j = 64))).1, 0) from by rw [g_mt]; rw [if_pos hn, if_pos h_15]]
            refine k_iconst (v := 0) dX6_matches_80 rfl ?_
            exact k_retz dX6_matches_81 rfl (Or.inl rfl) rfl (by rfl)
        · refine k_iconst (v := 1) dX6_matches_57 rfl ?_
          refine k_goto (tgt := 62) dX6_matches_58 rfl ?_
          refine k_eqst (congrArg (fun z : Int => Value.int (iI z) :: [.int (iI (ce)), .ref 116]) (show zb (k_ch i j = 64) = 1 from zb_t (by omega))) ?_
          refine k_callVr (st := []) (as := [.int (iI (ce)), .int (iI (zb (k_ch i j = 64)))]) dX6_matches_62 oX6_readNumber w_1655 w_1657 w_28 rfl (by omega) rfl (Nat.le_of_ble_eq_true rfl) (by decide) (s_116 hsh) rfl (c_readNumber hsh hP ⟨by omega, by omega⟩ (zb_kr _)) ?_
          have hr5 := (g_rn_pi hP ce (zb (k_ch i j = 64))).2.2
          refine k_if_ne (tgt := 82) dX6_matches_65 rfl ⟨by omega, by omega⟩ (fun h_17 => ?_) (fun h_17 => ?_)
          · refine k_iload_n dX6_matches_82 3 rfl rfl ?_
            refine k_iload dX6_matches_83 6 rfl ?_
            refine k_if_eq (tgt := 92) dX6_matches_85 rfl ⟨by decide, by decide⟩ (fun h_18 => absurd h_18 (by decide)) (fun h_18 => ?_)
            refine k_iconst (v := 1) dX6_matches_88 rfl ?_
            refine k_goto (tgt := 93) dX6_matches_89 rfl ?_
            refine k_iadd dX6_matches_93 ?_
            refine k_istore_n (ls' := [(0, .ref 116), (1, .ref (1000010 + i)), (2, .int (iI (c0))), (3, .int (iI (ce + 1))), (4, .int (iI ((j : Int)))), (5, .int (iI (k_ch i j))), (6, .int (iI (1)))]) dX6_matches_94 rfl (by decide) rfl rfl ?_
            refine k_iinc (ls' := [(0, .ref 116), (1, .ref (1000010 + i)), (2, .int (iI (c0))), (3, .int (iI (ce + 1))), (4, .int (iI ((j : Int) + 1))), (5, .int (iI (k_ch i j))), (6, .int (iI (1)))]) dX6_matches_95 4 rfl (by decide) rfl rfl ?_
            refine k_goto (tgt := 5) dX6_matches_98 rfl ?_
            refine k_dropr (ls' := [(0, .ref 116), (1, .ref (1000010 + i)), (2, .int (iI (c0))), (3, .int (iI (ce + 1))), (4, .int (iI ((j : Int) + 1)))]) (ex := [(5, .int (iI (k_ch i j))), (6, .int (iI (1)))]) rfl ?_
            rw [show g_mt v i (f + 1) j ce σ = g_mt v i f (j + 1) (ce + 1) (g_rn σ v ce (zb (k_ch i j = 64))).1 from by rw [g_mt]; rw [if_pos hn, if_neg h_17]]
            exact c_matchL hsh hi f (j + 1) (ce + 1) _ (g_rn_pi hP _ _).1 (by omega) (by omega)
          · refine k_goto (tgt := 80) dX6_matches_68 rfl ?_
            rw [show g_mt v i (f + 1) j ce σ = ((g_rn σ v ce (zb (k_ch i j = 64))).1, 0) from by rw [g_mt]; rw [if_pos hn, if_pos h_17]]
            refine k_iconst (v := 0) dX6_matches_80 rfl ?_
            exact k_retz dX6_matches_81 rfl (Or.inl rfl) rfl (by rfl)
set_option maxHeartbeats 4000000 in
theorem c_matches (hsh : k_Main sh) {v w : Nat} (hP : k_PI sh σ v w) {i : Nat} (hi : i < 24) {c0 : Int} (hc0 : -2147483648 ≤ c0 ∧ c0 < 2147483648) (hc0 : 0 ≤ c0 ∧ c0 ≤ 50) : k_C E mX6_matches 7 [.ref 116, .ref (1000010 + i), .int (iI (c0))] sh σ 0 0 (k_ret (some (.int (iI ((g_mt v i (k_len i) 0 c0 σ).2)))) sh (g_mt v i (k_len i) 0 c0 σ).1) := by
  refine k_C_of (ls0 := [(0, .ref 116), (1, .ref (1000010 + i)), (2, .int (iI (c0)))]) rfl pnX6 (fun v hv => k_cat1 rfl hv) (Nat.le_of_ble_eq_true rfl) rfl ?_
  refine k_iload_n dX6_matches_0 2 rfl rfl ?_
  refine k_istore_n (ls' := [(0, .ref 116), (1, .ref (1000010 + i)), (2, .int (iI (c0))), (3, .int (iI (c0)))]) dX6_matches_1 rfl (by decide) rfl rfl ?_
  refine k_iconst (v := 0) dX6_matches_2 rfl ?_
  refine k_istore (ls' := [(0, .ref 116), (1, .ref (1000010 + i)), (2, .int (iI (c0))), (3, .int (iI (c0))), (4, .int (iI (0)))]) dX6_matches_3 (by decide) rfl rfl ?_
  exact c_matchL hsh hi (k_len i) 0 c0 σ hP (by omega) ⟨by omega, by omega⟩
set_option maxHeartbeats 4000000 in
theorem c_cmdL (hsh : k_Main sh) {v w : Nat} {c start : Int} (hc : 0 ≤ c ∧ c < 12) : ∀ (f m : Nat) (fu : Int) (σ : Nat → Nat → Int), k_PI sh σ v w → m + f = 12 → (0 ≤ fu ∧ fu ≤ σ 117 3) → (0 ≤ start ∧ start ≤ σ 117 3) → k_V E mX6_readCommand 8 13 [(0, .ref 116), (1, .int (iI (c))), (2, .int (iI (start))), (3, .int (iI (fu))), (4, .int (iI ((m : Int))))] [] sh σ 0 0 (k_ret (some (.int (iI (g_rc v c start f m fu σ).2))) sh (g_rc v c start f m fu σ).1)
  | 0, m, fu, σ, hP, hf, hfu, hst => by
    obtain ⟨hB, ⟨p1, p2⟩, p3, p4, p5⟩ := id hP
    obtain ⟨b0, b1, ⟨b2, b3, b4⟩, ⟨b5, b6, b7, b8⟩, b9⟩ := id hB
    refine k_iload dX6_readCommand_13 4 rfl ?_
    refine k_bipush (v := 12) dX6_readCommand_15 (by decide) ?_
    refine k_icmp_ge (tgt := 67) dX6_readCommand_17 rfl ⟨by omega, by omega⟩ ⟨by decide, by decide⟩ (fun h_1 => ?_) (fun h_1 => absurd h_1 (by omega))
    refine k_aload_n dX6_readCommand_67 0 rfl rfl (by decide) ?_
    refine k_iload_n dX6_readCommand_68 3 rfl rfl ?_
    refine k_putf (kf := 4) dX6_readCommand_69 kcX6 w_344 (by decide) (by decide) (s_116 hsh) rfl rfl rfl rfl ?_
    refine k_iconst (v := 0) dX6_readCommand_72 rfl ?_
    exact k_retz dX6_readCommand_73 rfl (Or.inl rfl) rfl (by rfl)
  | f + 1, m, fu, σ, hP, hf, hfu, hst => by
    obtain ⟨hB, ⟨p1, p2⟩, p3, p4, p5⟩ := id hP
    obtain ⟨b0, b1, ⟨b2, b3, b4⟩, ⟨b5, b6, b7, b8⟩, b9⟩ := id hB
    refine k_iload dX6_readCommand_13 4 rfl ?_
    refine k_bipush (v := 12) dX6_readCommand_15 (by decide) ?_
    refine k_icmp_ge (tgt := 67) dX6_readCommand_17 rfl ⟨by omega, by omega⟩ ⟨by decide, by decide⟩ (fun h_1 => absurd h_1 (by omega)) (fun h_1 => ?_)
    refine k_aload_n dX6_readCommand_20 0 rfl rfl (by decide) ?_
    refine k_iload_n dX6_readCommand_21 2 rfl rfl ?_
    refine k_putf (kf := 4) dX6_readCommand_22 kcX6 w_344 (by decide) (by decide) (s_116 hsh) rfl rfl rfl rfl ?_
    refine k_eqσ (σ' := (u_at σ start)) (rfl) ?_
    have hP1 := k_PI_at hP hst
    refine k_aload_n dX6_readCommand_25 0 rfl rfl (by decide) ?_
    refine k_iload dX6_readCommand_26 4 rfl ?_
    refine k_callSr (st := [.ref 116]) (as := [.int (iI ((m : Int)))]) dX6_readCommand_28 oX6_formOf w_1620 w_1621 rfl (by omega) rfl (Nat.le_of_ble_eq_true rfl) (c_formOf m (by omega)) ?_
    refine k_iload_n dX6_readCommand_31 1 rfl rfl ?_
    refine k_iconst (v := 3) dX6_readCommand_32 rfl ?_
    refine k_imul dX6_readCommand_33 ?_
    refine k_callVr (st := []) (as := [.ref (1000010 + m), .int (iI (c * 3))]) dX6_readCommand_34 oX6_matches w_1635 w_1637 w_27 rfl (by omega) rfl (Nat.le_of_ble_eq_true rfl) (by decide) (s_116 hsh) rfl (c_matches hsh hP1 (i := m) (by omega) ⟨by omega, by omega⟩ ⟨by omega, by omega⟩) ?_
    have hm1 := g_mt_pi (i := m) (k_len m) 0 (c * 3) _ hP1
    have hm2 : (g_mt v m (k_len m) 0 (c * 3) (u_at σ start)).1 117 = σ 117 := hm1.2.1
    have hm3 : 0 ≤ (g_mt v m (k_len m) 0 (c * 3) (u_at σ start)).1 116 4 ∧ (g_mt v m (k_len m) 0 (c * 3) (u_at σ start)).1 116 4 ≤ σ 117 3 := by have q := hm1.1.2.1; rw [hm2] at q; exact q
    have hm4 := hm1.2.2
    refine k_if_eq (tgt := 52) dX6_readCommand_37 rfl ⟨by omega, by omega⟩ (fun h_2 => ?_) (fun h_2 => ?_)
    · refine k_iload_n dX6_readCommand_52 3 rfl rfl ?_
      refine k_aload_n dX6_readCommand_53 0 rfl rfl (by decide) ?_
      refine k_get (kf := 4) (v := .int (iI ((g_mt v m (k_len m) 0 (c * 3) (u_at σ start)).1 116 4))) dX6_readCommand_54 kcX6 w_344 (by decide) (by decide) (s_116 hsh) rfl rfl ?_
      refine k_mmax (st := []) dX6_readCommand_57 w_1670 w_930 (by omega) (Nat.le_of_ble_eq_true rfl) ⟨by omega, by omega⟩ ⟨by omega, by omega⟩ ?_
      refine k_istore_n (ls' := [(0, .ref 116), (1, .int (iI (c))), (2, .int (iI (start))), (3, .int (iI (z_max (fu) ((g_mt v m (k_len m) 0 (c * 3) (u_at σ start)).1 116 4)))), (4, .int (iI ((m : Int))))]) dX6_readCommand_60 rfl (by decide) rfl rfl ?_
      refine k_iinc (ls' := [(0, .ref 116), (1, .int (iI (c))), (2, .int (iI (start))), (3, .int (iI (z_max (fu) ((g_mt v m (k_len m) 0 (c * 3) (u_at σ start)).1 116 4)))), (4, .int (iI ((m : Int) + 1)))]) dX6_readCommand_61 4 rfl (by decide) rfl rfl ?_
      refine k_goto (tgt := 13) dX6_readCommand_64 rfl ?_
      rw [show g_rc v c start (f + 1) m fu σ = g_rc v c start f (m + 1) (z_max fu ((g_mt v m (k_len m) 0 (c * 3) (u_at σ start)).1 116 4)) (g_mt v m (k_len m) 0 (c * 3) (u_at σ start)).1 from by rw [g_rc]; exact if_pos h_2]
      refine k_lrw (q := 4) (j := 4) (a' := ((m + 1 : Nat) : Int)) (ls' := [(0, .ref 116), (1, .int (iI (c))), (2, .int (iI (start))), (3, .int (iI (z_max (fu) ((g_mt v m (k_len m) 0 (c * 3) (u_at σ start)).1 116 4)))), (4, .int (iI (((m + 1 : Nat) : Int))))]) rfl (by omega) rfl ?_
      exact c_cmdL hsh hc f (m + 1) _ _ hm1.1 (by omega) (by rw [hm2]; exact z_max_r hfu hm3) (by rw [hm2]; exact hst)
    · refine k_aload_n dX6_readCommand_40 0 rfl rfl (by decide) ?_
      refine k_get (kf := 1) (v := .ref 119) dX6_readCommand_41 kcX6 w_340 (by decide) (by decide) (s_116 hsh) rfl rfl ?_
      refine k_iload_n dX6_readCommand_44 1 rfl rfl ?_
      refine k_iload dX6_readCommand_45 4 rfl ?_
      refine k_callSNr (st := []) (as := [.ref 119, .int (iI (c)), .int (iI ((m : Int)))]) dX6_readCommand_47 oX7_write w_1665 w_498 rfl (by omega) rfl (Nat.le_of_ble_eq_true rfl) (c_write (by decide) (s_119 hsh) (by decide) ⟨by omega, by omega⟩) ?_
      rw [show g_rc v c start (f + 1) m fu σ = ((u_mod (g_mt v m (k_len m) 0 (c * 3) (u_at σ start)).1 c ((m : Int))), 1) from by rw [g_rc]; exact if_neg h_2]
      refine k_iconst (v := 1) dX6_readCommand_50 rfl ?_
      exact k_retz dX6_readCommand_51 rfl (Or.inr rfl) rfl (by rfl)
set_option maxHeartbeats 4000000 in
theorem c_readCommand (hsh : k_Main sh) {v w : Nat} (hP : k_PI sh σ v w) {c : Int} (hc : -2147483648 ≤ c ∧ c < 2147483648) (hc0 : 0 ≤ c ∧ c < 12) : k_C E mX6_readCommand 8 [.ref 116, .int (iI (c))] sh σ 0 0 (k_ret (some (.int (iI ((g_cmd v c σ).2)))) sh (g_cmd v c σ).1) := by
  refine k_C_of (ls0 := [(0, .ref 116), (1, .int (iI (c)))]) rfl pnX6 (fun v hv => k_cat1 rfl hv) (Nat.le_of_ble_eq_true rfl) rfl ?_
  obtain ⟨hB, ⟨p1, p2⟩, p3, p4, p5⟩ := id hP
  obtain ⟨b0, b1, ⟨b2, b3, b4⟩, ⟨b5, b6, b7, b8⟩, b9⟩ := id hB
  refine k_aload_n dX6_readCommand_0 0 rfl rfl (by decide) ?_
  refine k_get (kf := 4) (v := .int (iI (σ 116 4))) dX6_readCommand_1 kcX6 w_344 (by decide) (by decide) (s_116 hsh) rfl rfl ?_
  refine k_istore_n (ls' := [(0, .ref 116), (1, .int (iI (c))), (2, .int (iI (σ 116 4)))]) dX6_readCommand_4 rfl (by decide) rfl rfl ?_
  refine k_aload_n dX6_readCommand_5 0 rfl rfl (by decide) ?_
  refine k_get (kf := 4) (v := .int (iI (σ 116 4))) dX6_readCommand_6 kcX6 w_344 (by decide) (by decide) (s_116 hsh) rfl rfl ?_
  refine k_istore_n (ls' := [(0, .ref 116), (1, .int (iI (c))), (2, .int (iI (σ 116 4))), (3, .int (iI (σ 116 4)))]) dX6_readCommand_9 rfl (by decide) rfl rfl ?_
  refine k_iconst (v := 0) dX6_readCommand_10 rfl ?_
  refine k_istore (ls' := [(0, .ref 116), (1, .int (iI (c))), (2, .int (iI (σ 116 4))), (3, .int (iI (σ 116 4))), (4, .int (iI (0)))]) dX6_readCommand_11 (by decide) rfl rfl ?_
  exact c_cmdL hsh (by omega) 12 0 (σ 116 4) σ hP rfl hP.2.1 hP.2.1
theorem g_rn_cnt (σ : Nat → Nat → Int) (v : Nat) (ce t : Int) : (g_rn σ v ce t).1 116 3 = σ 116 3 := by
  unfold g_rn
  split
  · rfl
  · split <;> rfl
theorem g_mt_cnt (v i : Nat) : ∀ (f j : Nat) (ce : Int) (σ : Nat → Nat → Int), (g_mt v i f j ce σ).1 116 3 = σ 116 3
  | 0, _, _, _ => rfl
  | f + 1, j, ce, σ => by
    unfold g_mt
    split
    · split
      · exact g_rn_cnt σ v ce _
      · exact (g_mt_cnt v i f (j + 1) (ce + 1) _).trans (g_rn_cnt σ v ce _)
    · split
      · exact g_mt_cnt v i f (j + 1) ce _
      · rfl
theorem g_rc_cnt (v : Nat) (c start : Int) : ∀ (f m : Nat) (fu : Int) (σ : Nat → Nat → Int), (g_rc v c start f m fu σ).1 116 3 = σ 116 3
  | 0, _, _, _ => rfl
  | f + 1, m, fu, σ => by
    unfold g_rc
    split
    · exact (g_rc_cnt v c start f (m + 1) _ _).trans (g_mt_cnt v m _ _ _ _)
    · exact g_mt_cnt v m _ _ _ (u_at σ start)
theorem g_cmd_cnt (v : Nat) (c : Int) (σ : Nat → Nat → Int) : (g_cmd v c σ).1 116 3 = σ 116 3 := g_rc_cnt v c _ 12 0 _ σ
set_option maxHeartbeats 4000000 in
theorem c_parseL (hsh : k_Main sh) {v w : Nat} : ∀ (f : Nat) (σ : Nat → Nat → Int), k_PI sh σ v w → σ 116 3 = 12 - f → 0 ≤ σ 116 3 → k_V E mX6_parse 9 10 [(0, .ref 116)] [] sh σ 0 0 (k_ret (some (.int (iI (g_pa v f σ).2))) sh (g_pa v f σ).1)
  | 0, σ, hP, hf, hf0 => by
    obtain ⟨hB, ⟨p1, p2⟩, p3, p4, p5⟩ := id hP
    obtain ⟨b0, b1, ⟨b2, b3, b4⟩, ⟨b5, b6, b7, b8⟩, b9⟩ := id hB
    refine k_aload_n dX6_parse_10 0 rfl rfl (by decide) ?_
    refine k_get (kf := 3) (v := .int (iI (σ 116 3))) dX6_parse_11 kcX6 w_342 (by decide) (by decide) (s_116 hsh) rfl rfl ?_
    refine k_bipush (v := 12) dX6_parse_14 (by decide) ?_
    refine k_icmp_ge (tgt := 88) dX6_parse_16 rfl ⟨by omega, by omega⟩ ⟨by decide, by decide⟩ (fun h_1 => ?_) (fun h_1 => absurd h_1 (by omega))
    refine k_aload_n dX6_parse_88 0 rfl rfl (by decide) ?_
    refine k_get (kf := 4) (v := .int (iI (σ 116 4))) dX6_parse_89 kcX6 w_344 (by decide) (by decide) (s_116 hsh) rfl rfl ?_
    exact k_reti dX6_parse_92 rfl rfl (by rfl)
  | f + 1, σ, hP, hf, hf0 => by
    obtain ⟨hB, ⟨p1, p2⟩, p3, p4, p5⟩ := id hP
    obtain ⟨b0, b1, ⟨b2, b3, b4⟩, ⟨b5, b6, b7, b8⟩, b9⟩ := id hB
    refine k_aload_n dX6_parse_10 0 rfl rfl (by decide) ?_
    refine k_get (kf := 3) (v := .int (iI (σ 116 3))) dX6_parse_11 kcX6 w_342 (by decide) (by decide) (s_116 hsh) rfl rfl ?_
    refine k_bipush (v := 12) dX6_parse_14 (by decide) ?_
    refine k_icmp_ge (tgt := 88) dX6_parse_16 rfl ⟨by omega, by omega⟩ ⟨by decide, by decide⟩ (fun h_1 => absurd h_1 (by omega)) (fun h_1 => ?_)
    refine k_aload_n dX6_parse_19 0 rfl rfl (by decide) ?_
    refine k_aload_n dX6_parse_20 0 rfl rfl (by decide) ?_
    refine k_get (kf := 3) (v := .int (iI (σ 116 3))) dX6_parse_21 kcX6 w_342 (by decide) (by decide) (s_116 hsh) rfl rfl ?_
    refine k_callVr (st := []) (as := [.int (iI (σ 116 3))]) dX6_parse_24 oX6_readCommand w_1616 w_1618 w_26 rfl (by omega) rfl (Nat.le_of_ble_eq_true rfl) (by decide) (s_116 hsh) rfl (c_readCommand hsh hP ⟨by omega, by omega⟩ ⟨by omega, by omega⟩) ?_
    have hg := g_cmd_pi hP (σ 116 3)
    have hg1 : (g_cmd v (σ 116 3) σ).1 116 3 = σ 116 3 := g_cmd_cnt v (σ 116 3) σ
    have hg2 := hg.1.2.1
    have hg3 := hg.2.2
    have hg5 := hg.2.1
    have hg4 : (g_cmd v (σ 116 3) σ).1 117 3 ≤ w := by rw [hg5]; exact b8
    refine k_if_ne (tgt := 35) dX6_parse_27 rfl ⟨by omega, by omega⟩ (fun h_2 => ?_) (fun h_2 => ?_)
    · refine k_aload_n dX6_parse_35 0 rfl rfl (by decide) ?_
      refine k_get (kf := 4) (v := .int (iI ((g_cmd v (σ 116 3) σ).1 116 4))) dX6_parse_36 kcX6 w_344 (by decide) (by decide) (s_116 hsh) rfl rfl ?_
      refine k_aload_n dX6_parse_39 0 rfl rfl (by decide) ?_
      refine k_get (kf := 0) (v := .ref 117) dX6_parse_40 kcX6 w_338 (by decide) (by decide) (s_116 hsh) rfl rfl ?_
      refine k_callVCr (Cn := "java/lang/StringBuilder") (st := [.int (iI ((g_cmd v (σ 116 3) σ).1 116 4))]) (as := []) dX6_parse_43 oJ4_length_8abf5 w_1663 w_1475 w_2295 rfl (by omega) rfl (Nat.le_of_ble_eq_true rfl) (by decide) b0 rfl (c_sbLen hg.1.1) ?_
      refine k_icmp_lt (tgt := 61) dX6_parse_46 rfl ⟨by omega, by omega⟩ ⟨by omega, by omega⟩ (fun h_3 => ?_) (fun h_3 => ?_)
      · refine k_aload_n dX6_parse_61 0 rfl rfl (by decide) ?_
        refine k_bipush (v := 59) dX6_parse_62 (by decide) ?_
        refine k_callVr (st := []) (as := [.int (iI (59))]) dX6_parse_64 oX6_skip w_1666 w_1668 w_30 rfl (by omega) rfl (Nat.le_of_ble_eq_true rfl) (by decide) (s_116 hsh) rfl (c_skip hsh hg.1 ⟨by omega, by omega⟩ ⟨by omega, by omega⟩) ?_
        have hk1 := (k_PI_sk hg.1 59).2.1
        refine k_if_ne (tgt := 75) dX6_parse_67 rfl (zb_kr _) (fun h_4 => ?_) (fun h_4 => ?_)
        · have h_4 := zb_n0.mp h_4
          refine k_aload_n dX6_parse_75 0 rfl rfl (by decide) ?_
          refine k_dup dX6_parse_76 rfl ?_
          refine k_get (kf := 3) (v := .int (iI ((u_sk (g_cmd v (σ 116 3) σ).1 v 59) 116 3))) dX6_parse_77 kcX6 w_342 (by decide) (by decide) (s_116 hsh) rfl rfl ?_
          refine k_iconst (v := 1) dX6_parse_80 rfl ?_
          refine k_iadd dX6_parse_81 ?_
          refine k_putf (kf := 3) dX6_parse_82 kcX6 w_342 (by decide) (by decide) (s_116 hsh) rfl rfl rfl rfl ?_
          refine k_goto (tgt := 10) dX6_parse_85 rfl ?_
          refine k_eqσ (σ' := (u_count (u_sk (g_cmd v (σ 116 3) σ).1 v 59) (u_sk (g_cmd v (σ 116 3) σ).1 v 59 116 3 + 1))) (rfl) ?_
          rw [show g_pa v (f + 1) σ = g_pa v f (u_count (u_sk (g_cmd v (σ 116 3) σ).1 v 59) (u_sk (g_cmd v (σ 116 3) σ).1 v 59 116 3 + 1)) from by rw [g_pa]; rw [if_neg h_2, if_neg (by omega)]; exact if_pos h_4]
          exact c_parseL hsh f _ (k_PI_count (k_PI_sk hg.1 59) _) (by show (g_cmd v (σ 116 3) σ).1 116 3 + 1 = _; omega) (by show 0 ≤ (g_cmd v (σ 116 3) σ).1 116 3 + 1; omega)
        · have h_4 := zb_0.mp h_4
          rw [show g_pa v (f + 1) σ = (u_sk (g_cmd v (σ 116 3) σ).1 v 59, u_sk (g_cmd v (σ 116 3) σ).1 v 59 116 4) from by rw [g_pa]; rw [if_neg h_2, if_neg (by omega)]; exact if_neg h_4]
          refine k_aload_n dX6_parse_70 0 rfl rfl (by decide) ?_
          refine k_get (kf := 4) (v := .int (iI ((u_sk (g_cmd v (σ 116 3) σ).1 v 59) 116 4))) dX6_parse_71 kcX6 w_344 (by decide) (by decide) (s_116 hsh) rfl rfl ?_
          exact k_reti dX6_parse_74 rfl rfl (by rfl)
      · refine k_aload_n dX6_parse_49 0 rfl rfl (by decide) ?_
        refine k_dup dX6_parse_50 rfl ?_
        refine k_get (kf := 3) (v := .int (iI ((g_cmd v (σ 116 3) σ).1 116 3))) dX6_parse_51 kcX6 w_342 (by decide) (by decide) (s_116 hsh) rfl rfl ?_
        refine k_iconst (v := 1) dX6_parse_54 rfl ?_
        refine k_iadd dX6_parse_55 ?_
        refine k_putf (kf := 3) dX6_parse_56 kcX6 w_342 (by decide) (by decide) (s_116 hsh) rfl rfl rfl rfl ?_
        rw [show g_pa v (f + 1) σ = (u_count (g_cmd v (σ 116 3) σ).1 ((g_cmd v (σ 116 3) σ).1 116 3 + 1), -1) from by rw [g_pa]; rw [if_neg h_2]; exact if_pos h_3]
        refine k_eqσ (σ' := (u_count (g_cmd v (σ 116 3) σ).1 ((g_cmd v (σ 116 3) σ).1 116 3 + 1))) (rfl) ?_
        refine k_iconst (v := (-1)) dX6_parse_59 rfl ?_
        exact k_reti dX6_parse_60 rfl rfl (by rfl)
    · rw [show g_pa v (f + 1) σ = ((g_cmd v (σ 116 3) σ).1, (g_cmd v (σ 116 3) σ).1 116 4) from by rw [g_pa]; exact if_pos h_2]
      refine k_aload_n dX6_parse_30 0 rfl rfl (by decide) ?_
      refine k_get (kf := 4) (v := .int (iI ((g_cmd v (σ 116 3) σ).1 116 4))) dX6_parse_31 kcX6 w_344 (by decide) (by decide) (s_116 hsh) rfl rfl ?_
      exact k_reti dX6_parse_34 rfl rfl (by rfl)
set_option maxHeartbeats 4000000 in
theorem c_parse (hsh : k_Main sh) {v w : Nat} (hP : k_PI sh σ v w)  : k_C E mX6_parse 9 [.ref 116] sh σ 0 0 (k_ret (some (.int (iI ((g_parse v σ).2)))) sh (g_parse v σ).1) := by
  refine k_C_of (ls0 := [(0, .ref 116)]) rfl pnX6 (fun v hv => k_cat1 rfl hv) (Nat.le_of_ble_eq_true rfl) rfl ?_
  obtain ⟨hB, ⟨p1, p2⟩, p3, p4, p5⟩ := id hP
  obtain ⟨b0, b1, ⟨b2, b3, b4⟩, ⟨b5, b6, b7, b8⟩, b9⟩ := id hB
  refine k_aload_n dX6_parse_0 0 rfl rfl (by decide) ?_
  refine k_iconst (v := 0) dX6_parse_1 rfl ?_
  refine k_putf (kf := 4) dX6_parse_2 kcX6 w_344 (by decide) (by decide) (s_116 hsh) rfl rfl rfl rfl ?_
  refine k_aload_n dX6_parse_5 0 rfl rfl (by decide) ?_
  refine k_iconst (v := 0) dX6_parse_6 rfl ?_
  refine k_putf (kf := 3) dX6_parse_7 kcX6 w_342 (by decide) (by decide) (s_116 hsh) rfl rfl rfl rfl ?_
  refine k_eqσ (σ' := (u_count (u_at σ 0) 0)) (rfl) ?_
  exact c_parseL hsh 12 _ (k_PI_count (k_PI_at hP ⟨by omega, by omega⟩) 0) rfl (Int.le_refl 0)
set_option maxHeartbeats 4000000 in
theorem c_modification (hsh : k_Main sh) {c : Int} (hc : -2147483648 ≤ c ∧ c < 2147483648) : k_C E mX6_modification 2 [.ref 116, .int (iI (c))] sh σ 0 0 (k_ret (some (.int (iI (f_read (σ 119) 12 c)))) sh σ) := by
  refine k_C_of (ls0 := [(0, .ref 116), (1, .int (iI (c)))]) rfl pnX6 (fun v hv => k_cat1 rfl hv) (Nat.le_of_ble_eq_true rfl) rfl ?_
  refine k_aload_n dX6_modification_0 0 rfl rfl (by decide) ?_
  refine k_get (kf := 1) (v := .ref 119) dX6_modification_1 kcX6 w_340 (by decide) (by decide) (s_116 hsh) rfl rfl ?_
  refine k_iload_n dX6_modification_4 1 rfl rfl ?_
  refine k_callSNr (st := []) (as := [.ref 119, .int (iI (c))]) dX6_modification_5 oX7_read w_1676 w_460 rfl (by omega) rfl (Nat.le_of_ble_eq_true rfl) (c_read (by decide) (s_119 hsh) (by decide) (by omega)) ?_
  exact k_reti dX6_modification_8 rfl rfl (by rfl)
set_option maxHeartbeats 4000000 in
theorem c_number (hsh : k_Main sh) {c d : Int} (hc : -2147483648 ≤ c ∧ c < 2147483648) (hd : -2147483648 ≤ d ∧ d < 2147483648) (hc0 : 0 ≤ c ∧ c < 100 ∧ 0 ≤ d ∧ d < 100) : k_C E mX6_number 2 [.ref 116, .int (iI (c)), .int (iI (d))] sh σ 0 0 (k_ret (some (.int (iI (f_read (σ 120) 36 (c * 3 + d))))) sh σ) := by
  refine k_C_of (ls0 := [(0, .ref 116), (1, .int (iI (c))), (2, .int (iI (d)))]) rfl pnX6 (fun v hv => k_cat1 rfl hv) (Nat.le_of_ble_eq_true rfl) rfl ?_
  refine k_aload_n dX6_number_0 0 rfl rfl (by decide) ?_
  refine k_get (kf := 2) (v := .ref 120) dX6_number_1 kcX6 w_341 (by decide) (by decide) (s_116 hsh) rfl rfl ?_
  refine k_iload_n dX6_number_4 1 rfl rfl ?_
  refine k_iconst (v := 3) dX6_number_5 rfl ?_
  refine k_imul dX6_number_6 ?_
  refine k_iload_n dX6_number_7 2 rfl rfl ?_
  refine k_iadd dX6_number_8 ?_
  refine k_callSNr (st := []) (as := [.ref 120, .int (iI ((c * 3) + d))]) dX6_number_9 oX7_read w_1676 w_460 rfl (by omega) rfl (Nat.le_of_ble_eq_true rfl) (c_read (by decide) (s_120 hsh) (by decide) (by omega)) ?_
  exact k_reti dX6_number_12 rfl rfl (by rfl)
end K_PA
