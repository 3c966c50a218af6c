/-! ===== THE LAW'S BODY: its cases by their shapes ===== -/
section K_LB
variable {E : k_E} {dp pc k n : Nat} {ls : List (Nat × Value)} {st as : List Value} {sh : List k_Sh} {σ τ : Nat → Nat → Int} {Q : k_Q}
abbrev mL_law : k_M := (yL_law, cL_law, 9, (some .boolean), [])
abbrev k_lsL (i : Int) : List (Nat × Value) := [(0, .ref 1000000), (1, .ref 0), (2, .ref 123), (3, .ref 141), (4, .ref 142), (5, .int (iI i))]
theorem k_okL {N : Nat} (hN : 143 ≤ N) (i : Int) : k_okl N (k_lsL i) [] := ⟨fun z hz => by
  have : z = (0, .ref 1000000) ∨ z = (1, .ref 0) ∨ z = (2, .ref 123) ∨ z = (3, .ref 141) ∨ z = (4, .ref 142) ∨ z = (5, .int (iI i)) := by simpa [k_lsL] using hz
  rcases this with rfl | rfl | rfl | rfl | rfl | rfl
  · exact Or.inr (Nat.le_refl _)
  · exact Or.inl (show (0 : Nat) < N by omega)
  · exact Or.inl (show (123 : Nat) < N by omega)
  · exact Or.inl (show (141 : Nat) < N by omega)
  · exact Or.inl (show (142 : Nat) < N by omega)
  · exact True.intro, fun v hv => by cases hv⟩
theorem lg_self (x : Int64) : lg_cmp x x = iI 0 := by
  unfold lg_cmp
  simp
  try rfl
/-- the j-th number behind the command's -/
def sx (E : k_E) (i j : Int) : Int := (k_xs E (i + j).toNat).toInt
theorem sx_r (i j : Int) : -2147483648 ≤ sx E i j ∧ sx E i j < 2147483648 := k_r_toInt _
abbrev law_A (q : Nat) (j : Int) : Prop := decode cL_law q = .ok (.aload_n 0, 1) ∧ decode cL_law (q + 1) = .ok (.iload 5, 2) ∧ decode cL_law (q + 3) = .ok (.iconst j, 1) ∧ decode cL_law (q + 4) = .ok (.iadd, 1) ∧ decode cL_law (q + 5) = .ok (.iaload, 1)
theorem law_arg {q : Nat} {i j : Int} (hD : law_A q j) (hi : 0 ≤ i ∧ i + 3 < k_L E) (hL : k_L E ≤ 2048) (hj : 0 ≤ j ∧ j ≤ 3) (h0 : ls[0]? = some (0, .ref 1000000)) (h5 : ls[5]? = some (5, .int (iI i))) (kk : k_V E mL_law dp (q + 6) ls (.int (iI (sx E i j)) :: st) sh σ k n Q) : k_V E mL_law dp q ls st sh σ k n Q := by
  obtain ⟨d0, d1, d3, d4, d5⟩ := hD
  refine k_aload_n d0 0 rfl h0 (by decide) ?_
  refine k_iload d1 5 h5 ?_
  refine k_iconst (v := j) d3 rfl ?_
  refine k_iadd d4 ?_
  exact k_sld d5 (by omega) (by omega) hL kk

abbrev law_T (q : Nat) (off : Int) : Prop := decode cL_law q = .ok (.istore 7, 2) ∧ decode cL_law (q + 2) = .ok (.aload_n 2, 1) ∧ decode cL_law (q + 3) = .ok (.invokevirtual 175, 3) ∧ decode cL_law (q + 6) = .ok (.iload 6, 2) ∧ decode cL_law (q + 8) = .ok (.if_icmp .eq 5, 3) ∧ decode cL_law (q + 13) = .ok (.iload 6, 2) ∧ decode cL_law (q + 15) = .ok (.ifCond .ne 15, 3) ∧ decode cL_law (q + 18) = .ok (.aload_n 3, 1) ∧ decode cL_law (q + 19) = .ok (.iconst 0, 1) ∧ decode cL_law (q + 20) = .ok (.laload, 1) ∧ decode cL_law (q + 21) = .ok (.iload 7, 2) ∧ decode cL_law (q + 23) = .ok (.i2l, 1) ∧ decode cL_law (q + 24) = .ok (.lcmp, 1) ∧ decode cL_law (q + 25) = .ok (.ifCond .eq 5, 3) ∧ decode cL_law (q + 30) = .ok (.goto off, 3)
theorem law_tail {q : Nat} {off i c b : Int} (hD : law_T q off) (ho : ((q + 30 : Nat) : Int) + off = ((3072 : Nat) : Int)) (hsh : k_Main sh) (h7 : σ 123 7 = c) (hc : 0 ≤ c ∧ c ≤ 3) (hb : c = 0 → σ 141 0 = b) (hbr : k_r b) (hdp : 2 ≤ dp) (kk : k_V E mL_law dp 3072 (k_lsL i) [] sh σ k n Q) : k_V E mL_law dp q [(0, .ref 1000000), (1, .ref 0), (2, .ref 123), (3, .ref 141), (4, .ref 142), (5, .int (iI i)), (6, .int (iI c))] [.int (iI b)] sh σ k n Q := by
  obtain ⟨d0, d2, d3, d6, d8, d13, d15, d18, d19, d20, d21, d23, d24, d25, d30⟩ := hD
  refine k_istore (ls' := [(0, .ref 1000000), (1, .ref 0), (2, .ref 123), (3, .ref 141), (4, .ref 142), (5, .int (iI i)), (6, .int (iI c)), (7, .int (iI b))]) d0 (by decide) rfl rfl ?_
  refine k_aload_n d2 2 rfl rfl (by decide) ?_
  refine k_callVr (st := []) (as := []) d3 oX8_thrown w_1842 w_1843 w_1844 rfl (by omega) rfl (Nat.le_of_ble_eq_true rfl) (by decide) (s_123 hsh) rfl (c8_thrown hsh) ?_
  refine k_eqst (st' := [.int (iI c)]) (by rw [h7]; rfl) ?_
  refine k_iload d6 6 rfl ?_
  refine k_icmp_eq (tgt := q + 13) d8 (by omega) ⟨by omega, by omega⟩ ⟨by omega, by omega⟩ (fun _ => ?_) (fun y => absurd rfl y)
  refine k_iload d13 6 rfl ?_
  refine k_if_ne (tgt := q + 30) d15 (by omega) ⟨by omega, by omega⟩ (fun hz => ?_) (fun hz => ?_)
  · refine k_goto (tgt := 3072) d30 ho ?_
    exact k_dropr (ls' := k_lsL i) (ex := [(6, .int (iI c)), (7, .int (iI b))]) rfl kk
  · refine k_aload_n d18 3 rfl rfl (by decide) ?_
    refine k_iconst (v := 0) d19 rfl ?_
    refine k_lald d20 (by decide) (s_141 hsh) (by decide) (by decide) (by decide) ?_
    refine k_iload d21 7 rfl ?_
    refine k_i2l d23 hbr ?_
    refine k_lcmp (v := 0) d24 (by rw [show σ 141 (0 : Int).toNat = b from hb hz]; exact lg_self _) ?_
    refine k_if_eq (tgt := q + 30) d25 (by omega) ⟨by decide, by decide⟩ (fun _ => ?_) (fun y => absurd rfl y)
    refine k_goto (tgt := 3072) d30 ho ?_
    exact k_dropr (ls' := k_lsL i) (ex := [(6, .int (iI c)), (7, .int (iI b))]) rfl kk

abbrev law_TB (q : Nat) (off : Int) : Prop := decode cL_law q = .ok (.istore 7, 2) ∧ decode cL_law (q + 2) = .ok (.aload_n 2, 1) ∧ decode cL_law (q + 3) = .ok (.invokevirtual 175, 3) ∧ decode cL_law (q + 6) = .ok (.iload 6, 2) ∧ decode cL_law (q + 8) = .ok (.if_icmp .eq 5, 3) ∧ decode cL_law (q + 13) = .ok (.iload 6, 2) ∧ decode cL_law (q + 15) = .ok (.ifCond .ne 22, 3) ∧ decode cL_law (q + 18) = .ok (.aload_n 3, 1) ∧ decode cL_law (q + 19) = .ok (.iconst 0, 1) ∧ decode cL_law (q + 20) = .ok (.laload, 1) ∧ decode cL_law (q + 21) = .ok (.iload 7, 2) ∧ decode cL_law (q + 23) = .ok (.ifCond .eq 7, 3) ∧ decode cL_law (q + 26) = .ok (.lconst 1, 1) ∧ decode cL_law (q + 27) = .ok (.goto 4, 3) ∧ decode cL_law (q + 30) = .ok (.lconst 0, 1) ∧ decode cL_law (q + 31) = .ok (.lcmp, 1) ∧ decode cL_law (q + 32) = .ok (.ifCond .eq 5, 3) ∧ decode cL_law (q + 37) = .ok (.goto off, 3)
theorem law_tailB {q : Nat} {off i c b : Int} (hD : law_TB q off) (ho : ((q + 37 : Nat) : Int) + off = ((3072 : Nat) : Int)) (hsh : k_Main sh) (h7 : σ 123 7 = c) (hc : 0 ≤ c ∧ c ≤ 3) (hb : c = 0 → σ 141 0 = b) (hbr : b = 0 ∨ b = 1) (hdp : 2 ≤ dp) (kk : k_V E mL_law dp 3072 (k_lsL i) [] sh σ k n Q) : k_V E mL_law dp q [(0, .ref 1000000), (1, .ref 0), (2, .ref 123), (3, .ref 141), (4, .ref 142), (5, .int (iI i)), (6, .int (iI c))] [.int (iI b)] sh σ k n Q := by
  obtain ⟨d0, d2, d3, d6, d8, d13, d15, d18, d19, d20, d21, d23, d26, d27, d30, d31, d32, d37⟩ := hD
  refine k_istore (ls' := [(0, .ref 1000000), (1, .ref 0), (2, .ref 123), (3, .ref 141), (4, .ref 142), (5, .int (iI i)), (6, .int (iI c)), (7, .int (iI b))]) d0 (by decide) rfl rfl ?_
  refine k_aload_n d2 2 rfl rfl (by decide) ?_
  refine k_callVr (st := []) (as := []) d3 oX8_thrown w_1842 w_1843 w_1844 rfl (by omega) rfl (Nat.le_of_ble_eq_true rfl) (by decide) (s_123 hsh) rfl (c8_thrown hsh) ?_
  refine k_eqst (st' := [.int (iI c)]) (by rw [h7]; rfl) ?_
  refine k_iload d6 6 rfl ?_
  refine k_icmp_eq (tgt := q + 13) d8 (by omega) ⟨by omega, by omega⟩ ⟨by omega, by omega⟩ (fun _ => ?_) (fun y => absurd rfl y)
  refine k_iload d13 6 rfl ?_
  refine k_if_ne (tgt := q + 37) d15 (by omega) ⟨by omega, by omega⟩ (fun hz => ?_) (fun hz => ?_)
  · refine k_goto (tgt := 3072) d37 ho ?_
    exact k_dropr (ls' := k_lsL i) (ex := [(6, .int (iI c)), (7, .int (iI b))]) rfl kk
  · refine k_aload_n d18 3 rfl rfl (by decide) ?_
    refine k_iconst (v := 0) d19 rfl ?_
    refine k_lald d20 (by decide) (s_141 hsh) (by decide) (by decide) (by decide) ?_
    refine k_iload d21 7 rfl ?_
    have hend : k_V E mL_law dp (q + 31) [(0, .ref 1000000), (1, .ref 0), (2, .ref 123), (3, .ref 141), (4, .ref 142), (5, .int (iI i)), (6, .int (iI c)), (7, .int (iI b))] [.long (iL b), .long (iL b)] sh σ k n Q := by
      refine k_lcmp (v := 0) d31 (lg_self _) ?_
      refine k_if_eq (tgt := q + 37) d32 (by omega) ⟨by decide, by decide⟩ (fun _ => ?_) (fun y => absurd rfl y)
      refine k_goto (tgt := 3072) d37 ho ?_
      exact k_dropr (ls' := k_lsL i) (ex := [(6, .int (iI c)), (7, .int (iI b))]) rfl kk
    refine k_if_eq (tgt := q + 30) d23 (by omega) ⟨by omega, by omega⟩ (fun hy => ?_) (fun hy => ?_)
    · refine k_lconst (v := 0) d30 rfl ?_
      refine k_eqst (st' := [.long (iL b), .long (iL b)]) (by rw [hy, show σ 141 (0 : Int).toNat = 0 from (hb hz).trans hy]) hend
    · have hy1 : b = 1 := hbr.resolve_left hy
      refine k_lconst (v := 1) d26 rfl ?_
      refine k_goto (tgt := q + 31) d27 (by omega) ?_
      refine k_eqst (st' := [.long (iL b), .long (iL b)]) (by rw [hy1, show σ 141 (0 : Int).toNat = 1 from (hb hz).trans hy1]) hend

/-- a command done by both: what comes out is alike, and all stands in order after -/
def k_Stp (E : k_E) (Inv : List k_Sh → (Nat → Nat → Int) → Prop) (ML M8 : k_M) (as : List Value) (B : Int → Prop) (sh : List k_Sh) (σ : Nat → Nat → Int) : Prop := ∃ (d1 d8 k1 n1 : Nat) (sh' : List k_Sh) (τ : Nat → Nat → Int) (c b : Int) (υ : Nat → Nat → Int) (R : Prop), (d1 ≤ 20 ∧ d8 ≤ 20 ∧ k1 ≤ 1 ∧ n1 ≤ 142) ∧ k_Main sh' ∧ k_C E ML d1 (.ref 0 :: (as ++ [.ref 141])) sh σ k1 n1 (k_ret (some (.int (iI c))) sh' τ) ∧ k_C E M8 d8 (.ref 123 :: as) sh' τ 0 0 (k_retP (some (.int (iI b))) sh' υ R) ∧ (R → υ 123 7 = c ∧ (0 ≤ c ∧ c ≤ 3) ∧ (c = 0 → υ 141 0 = b) ∧ B b ∧ Inv sh' υ)
/-- what a call of the wrapper and of the model ask -/
def k_LOk (ML M8 : k_M) (idx idx8 na : Nat) : Prop := (k_MOk ML (na + 2) ∧ (∃ h t, ML.2.2.2.2 = h :: t) ∧ Cond.methodLink RL idx ML.1 ∈ k_TBL ∧ Cond.static ML.1 ∈ k_TBL) ∧ k_MOk M8 na ∧ M8.2.2.2.2 = [] ∧ Cond.methodLink RL idx8 M8.1 ∈ k_TBL ∧ Cond.instanceMethod M8.1 ∈ k_TBL ∧ Cond.selects M8.1.cls M8.1 M8.1 ∈ k_TBL ∧ M8.1.cls = RX8
variable {Inv : List k_Sh → (Nat → Nat → Int) → Prop} {ML M8 : k_M} {idx idx8 : Nat}
abbrev law_C0_D (q idx idx8 : Nat) (off : Int) : Prop := decode cL_law q = .ok (.aload_n 1, 1) ∧ decode cL_law (q + 1) = .ok (.aload_n 3, 1) ∧ decode cL_law (q + 2) = .ok (.invokestatic idx, 3) ∧ decode cL_law (q + 5) = .ok (.istore 6, 2) ∧ decode cL_law (q + 7) = .ok (.aload_n 2, 1) ∧ decode cL_law (q + 8) = .ok (.invokevirtual idx8, 3) ∧ law_T (q + 11) off
theorem law_C0 {q : Nat} {off i : Int} (hD : law_C0_D q idx idx8 off) (ho : ((q + 41 : Nat) : Int) + off = ((3072 : Nat) : Int)) (hO : k_LOk ML M8 idx idx8 0) (hsh : k_Main sh) (hi : 0 ≤ i ∧ i + 3 < k_L E) (hL : k_L E ≤ 2048) (hdp : 21 ≤ dp) (hS : k_Stp E Inv ML M8 [] k_r sh σ) (kk : ∀ sh' υ, Inv sh' υ → k_V E mL_law dp 3072 (k_lsL i) [] sh' υ k n Q) : k_V E mL_law dp q (k_lsL i) [] sh σ (k + 1) (n + 142) Q := by
  obtain ⟨d0, d1, d2, d5, d7, d8, dT⟩ := hD
  obtain ⟨e1, e8, k1, n1, sh2, τ, c, b, υ, R, ⟨g1, g8, gk, gn⟩, hsh2, hC, h8, hR⟩ := hS
  obtain ⟨⟨o1, ⟨h1, t1, o2⟩, o3, o4⟩, o5, o6, o7, o8, o9, o10⟩ := hO
  refine k_aload_n d0 1 rfl rfl (by decide) ?_
  refine k_aload_n d1 3 rfl rfl (by decide) ?_
  refine k_less (k' := k1 + k) (n' := n1 + n) (by omega) (by omega) ?_
  refine k_callSW (M := mL_law) (d1 := e1) (dp := dp) (pc := q + 2) (st := []) (as := .ref 0 :: ([] ++ [.ref 141])) (ls := k_lsL i) d2 o1 o2 o3 o4 (by omega) rfl (Nat.le_of_ble_eq_true rfl) hC k_noX (Or.inl (k_okL (k_Main_len hsh) i)) (fun v s2 σ2 h => ?_)
  obtain ⟨h1, rfl, rfl⟩ := h
  cases h1
  refine k_istore (ls' := [(0, .ref 1000000), (1, .ref 0), (2, .ref 123), (3, .ref 141), (4, .ref 142), (5, .int (iI i)), (6, .int (iI c))]) d5 (by decide) rfl rfl ?_
  refine k_aload_n d7 2 rfl rfl (by decide) ?_
  refine k_callVrP (st := []) (as := []) d8 o5 o7 o8 o9 o6 (by omega) rfl (Nat.le_of_ble_eq_true rfl) (by decide) (s_123 hsh2) (by rw [o10]; rfl) h8 (fun hr => ?_)
  obtain ⟨r1, r2, r3, r4, r5⟩ := hR hr
  exact law_tail dT (by omega) hsh2 r1 r2 r3 r4 (by omega) (kk _ _ r5)
abbrev law_C1_D (q idx idx8 : Nat) (off : Int) : Prop := decode cL_law q = .ok (.aload_n 1, 1) ∧ law_A (q + 1) 1 ∧ decode cL_law (q + 7) = .ok (.aload_n 3, 1) ∧ decode cL_law (q + 8) = .ok (.invokestatic idx, 3) ∧ decode cL_law (q + 11) = .ok (.istore 6, 2) ∧ decode cL_law (q + 13) = .ok (.aload_n 2, 1) ∧ law_A (q + 14) 1 ∧ decode cL_law (q + 20) = .ok (.invokevirtual idx8, 3) ∧ law_T (q + 23) off
theorem law_C1 {q : Nat} {off i : Int} (hD : law_C1_D q idx idx8 off) (ho : ((q + 53 : Nat) : Int) + off = ((3072 : Nat) : Int)) (hO : k_LOk ML M8 idx idx8 1) (hsh : k_Main sh) (hi : 0 ≤ i ∧ i + 3 < k_L E) (hL : k_L E ≤ 2048) (hdp : 21 ≤ dp) (hS : k_Stp E Inv ML M8 [.int (iI (sx E i 1))] k_r sh σ) (kk : ∀ sh' υ, Inv sh' υ → k_V E mL_law dp 3072 (k_lsL i) [] sh' υ k n Q) : k_V E mL_law dp q (k_lsL i) [] sh σ (k + 1) (n + 142) Q := by
  obtain ⟨d0, a0, d1, d2, d5, d7, b0, d8, dT⟩ := hD
  obtain ⟨e1, e8, k1, n1, sh2, τ, c, b, υ, R, ⟨g1, g8, gk, gn⟩, hsh2, hC, h8, hR⟩ := hS
  obtain ⟨⟨o1, ⟨h1, t1, o2⟩, o3, o4⟩, o5, o6, o7, o8, o9, o10⟩ := hO
  refine k_aload_n d0 1 rfl rfl (by decide) ?_
  refine law_arg a0 hi hL (by decide) rfl rfl ?_
  refine k_aload_n d1 3 rfl rfl (by decide) ?_
  refine k_less (k' := k1 + k) (n' := n1 + n) (by omega) (by omega) ?_
  refine k_callSW (M := mL_law) (d1 := e1) (dp := dp) (pc := q + 8) (st := []) (as := .ref 0 :: ([.int (iI (sx E i 1))] ++ [.ref 141])) (ls := k_lsL i) d2 o1 o2 o3 o4 (by omega) rfl (Nat.le_of_ble_eq_true rfl) hC k_noX (Or.inl (k_okL (k_Main_len hsh) i)) (fun v s2 σ2 h => ?_)
  obtain ⟨h1, rfl, rfl⟩ := h
  cases h1
  refine k_istore (ls' := [(0, .ref 1000000), (1, .ref 0), (2, .ref 123), (3, .ref 141), (4, .ref 142), (5, .int (iI i)), (6, .int (iI c))]) d5 (by decide) rfl rfl ?_
  refine k_aload_n d7 2 rfl rfl (by decide) ?_
  refine law_arg b0 hi hL (by decide) rfl rfl ?_
  refine k_callVrP (st := []) (as := [.int (iI (sx E i 1))]) d8 o5 o7 o8 o9 o6 (by omega) rfl (Nat.le_of_ble_eq_true rfl) (by decide) (s_123 hsh2) (by rw [o10]; rfl) h8 (fun hr => ?_)
  obtain ⟨r1, r2, r3, r4, r5⟩ := hR hr
  exact law_tail dT (by omega) hsh2 r1 r2 r3 r4 (by omega) (kk _ _ r5)
abbrev law_C2_D (q idx idx8 : Nat) (off : Int) : Prop := decode cL_law q = .ok (.aload_n 1, 1) ∧ law_A (q + 1) 1 ∧ law_A (q + 7) 2 ∧ decode cL_law (q + 13) = .ok (.aload_n 3, 1) ∧ decode cL_law (q + 14) = .ok (.invokestatic idx, 3) ∧ decode cL_law (q + 17) = .ok (.istore 6, 2) ∧ decode cL_law (q + 19) = .ok (.aload_n 2, 1) ∧ law_A (q + 20) 1 ∧ law_A (q + 26) 2 ∧ decode cL_law (q + 32) = .ok (.invokevirtual idx8, 3) ∧ law_T (q + 35) off
theorem law_C2 {q : Nat} {off i : Int} (hD : law_C2_D q idx idx8 off) (ho : ((q + 65 : Nat) : Int) + off = ((3072 : Nat) : Int)) (hO : k_LOk ML M8 idx idx8 2) (hsh : k_Main sh) (hi : 0 ≤ i ∧ i + 3 < k_L E) (hL : k_L E ≤ 2048) (hdp : 21 ≤ dp) (hS : k_Stp E Inv ML M8 [.int (iI (sx E i 1)), .int (iI (sx E i 2))] k_r sh σ) (kk : ∀ sh' υ, Inv sh' υ → k_V E mL_law dp 3072 (k_lsL i) [] sh' υ k n Q) : k_V E mL_law dp q (k_lsL i) [] sh σ (k + 1) (n + 142) Q := by
  obtain ⟨d0, a0, a1, d1, d2, d5, d7, b0, b1, d8, dT⟩ := hD
  obtain ⟨e1, e8, k1, n1, sh2, τ, c, b, υ, R, ⟨g1, g8, gk, gn⟩, hsh2, hC, h8, hR⟩ := hS
  obtain ⟨⟨o1, ⟨h1, t1, o2⟩, o3, o4⟩, o5, o6, o7, o8, o9, o10⟩ := hO
  refine k_aload_n d0 1 rfl rfl (by decide) ?_
  refine law_arg a0 hi hL (by decide) rfl rfl ?_
  refine law_arg a1 hi hL (by decide) rfl rfl ?_
  refine k_aload_n d1 3 rfl rfl (by decide) ?_
  refine k_less (k' := k1 + k) (n' := n1 + n) (by omega) (by omega) ?_
  refine k_callSW (M := mL_law) (d1 := e1) (dp := dp) (pc := q + 14) (st := []) (as := .ref 0 :: ([.int (iI (sx E i 1)), .int (iI (sx E i 2))] ++ [.ref 141])) (ls := k_lsL i) d2 o1 o2 o3 o4 (by omega) rfl (Nat.le_of_ble_eq_true rfl) hC k_noX (Or.inl (k_okL (k_Main_len hsh) i)) (fun v s2 σ2 h => ?_)
  obtain ⟨h1, rfl, rfl⟩ := h
  cases h1
  refine k_istore (ls' := [(0, .ref 1000000), (1, .ref 0), (2, .ref 123), (3, .ref 141), (4, .ref 142), (5, .int (iI i)), (6, .int (iI c))]) d5 (by decide) rfl rfl ?_
  refine k_aload_n d7 2 rfl rfl (by decide) ?_
  refine law_arg b0 hi hL (by decide) rfl rfl ?_
  refine law_arg b1 hi hL (by decide) rfl rfl ?_
  refine k_callVrP (st := []) (as := [.int (iI (sx E i 1)), .int (iI (sx E i 2))]) d8 o5 o7 o8 o9 o6 (by omega) rfl (Nat.le_of_ble_eq_true rfl) (by decide) (s_123 hsh2) (by rw [o10]; rfl) h8 (fun hr => ?_)
  obtain ⟨r1, r2, r3, r4, r5⟩ := hR hr
  exact law_tail dT (by omega) hsh2 r1 r2 r3 r4 (by omega) (kk _ _ r5)
abbrev law_C3_D (q idx idx8 : Nat) (off : Int) : Prop := decode cL_law q = .ok (.aload_n 1, 1) ∧ law_A (q + 1) 1 ∧ law_A (q + 7) 2 ∧ law_A (q + 13) 3 ∧ decode cL_law (q + 19) = .ok (.aload_n 3, 1) ∧ decode cL_law (q + 20) = .ok (.invokestatic idx, 3) ∧ decode cL_law (q + 23) = .ok (.istore 6, 2) ∧ decode cL_law (q + 25) = .ok (.aload_n 2, 1) ∧ law_A (q + 26) 1 ∧ law_A (q + 32) 2 ∧ law_A (q + 38) 3 ∧ decode cL_law (q + 44) = .ok (.invokevirtual idx8, 3) ∧ law_T (q + 47) off
theorem law_C3 {q : Nat} {off i : Int} (hD : law_C3_D q idx idx8 off) (ho : ((q + 77 : Nat) : Int) + off = ((3072 : Nat) : Int)) (hO : k_LOk ML M8 idx idx8 3) (hsh : k_Main sh) (hi : 0 ≤ i ∧ i + 3 < k_L E) (hL : k_L E ≤ 2048) (hdp : 21 ≤ dp) (hS : k_Stp E Inv ML M8 [.int (iI (sx E i 1)), .int (iI (sx E i 2)), .int (iI (sx E i 3))] k_r sh σ) (kk : ∀ sh' υ, Inv sh' υ → k_V E mL_law dp 3072 (k_lsL i) [] sh' υ k n Q) : k_V E mL_law dp q (k_lsL i) [] sh σ (k + 1) (n + 142) Q := by
  obtain ⟨d0, a0, a1, a2, d1, d2, d5, d7, b0, b1, b2, d8, dT⟩ := hD
  obtain ⟨e1, e8, k1, n1, sh2, τ, c, b, υ, R, ⟨g1, g8, gk, gn⟩, hsh2, hC, h8, hR⟩ := hS
  obtain ⟨⟨o1, ⟨h1, t1, o2⟩, o3, o4⟩, o5, o6, o7, o8, o9, o10⟩ := hO
  refine k_aload_n d0 1 rfl rfl (by decide) ?_
  refine law_arg a0 hi hL (by decide) rfl rfl ?_
  refine law_arg a1 hi hL (by decide) rfl rfl ?_
  refine law_arg a2 hi hL (by decide) rfl rfl ?_
  refine k_aload_n d1 3 rfl rfl (by decide) ?_
  refine k_less (k' := k1 + k) (n' := n1 + n) (by omega) (by omega) ?_
  refine k_callSW (M := mL_law) (d1 := e1) (dp := dp) (pc := q + 20) (st := []) (as := .ref 0 :: ([.int (iI (sx E i 1)), .int (iI (sx E i 2)), .int (iI (sx E i 3))] ++ [.ref 141])) (ls := k_lsL i) d2 o1 o2 o3 o4 (by omega) rfl (Nat.le_of_ble_eq_true rfl) hC k_noX (Or.inl (k_okL (k_Main_len hsh) i)) (fun v s2 σ2 h => ?_)
  obtain ⟨h1, rfl, rfl⟩ := h
  cases h1
  refine k_istore (ls' := [(0, .ref 1000000), (1, .ref 0), (2, .ref 123), (3, .ref 141), (4, .ref 142), (5, .int (iI i)), (6, .int (iI c))]) d5 (by decide) rfl rfl ?_
  refine k_aload_n d7 2 rfl rfl (by decide) ?_
  refine law_arg b0 hi hL (by decide) rfl rfl ?_
  refine law_arg b1 hi hL (by decide) rfl rfl ?_
  refine law_arg b2 hi hL (by decide) rfl rfl ?_
  refine k_callVrP (st := []) (as := [.int (iI (sx E i 1)), .int (iI (sx E i 2)), .int (iI (sx E i 3))]) d8 o5 o7 o8 o9 o6 (by omega) rfl (Nat.le_of_ble_eq_true rfl) (by decide) (s_123 hsh2) (by rw [o10]; rfl) h8 (fun hr => ?_)
  obtain ⟨r1, r2, r3, r4, r5⟩ := hR hr
  exact law_tail dT (by omega) hsh2 r1 r2 r3 r4 (by omega) (kk _ _ r5)
abbrev law_B1_D (q idx idx8 : Nat) (off : Int) : Prop := decode cL_law q = .ok (.aload_n 1, 1) ∧ law_A (q + 1) 1 ∧ decode cL_law (q + 7) = .ok (.aload_n 3, 1) ∧ decode cL_law (q + 8) = .ok (.invokestatic idx, 3) ∧ decode cL_law (q + 11) = .ok (.istore 6, 2) ∧ decode cL_law (q + 13) = .ok (.aload_n 2, 1) ∧ law_A (q + 14) 1 ∧ decode cL_law (q + 20) = .ok (.invokevirtual idx8, 3) ∧ law_TB (q + 23) off
theorem law_B1 {q : Nat} {off i : Int} (hD : law_B1_D q idx idx8 off) (ho : ((q + 60 : Nat) : Int) + off = ((3072 : Nat) : Int)) (hO : k_LOk ML M8 idx idx8 1) (hsh : k_Main sh) (hi : 0 ≤ i ∧ i + 3 < k_L E) (hL : k_L E ≤ 2048) (hdp : 21 ≤ dp) (hS : k_Stp E Inv ML M8 [.int (iI (sx E i 1))] (fun b => b = 0 ∨ b = 1) sh σ) (kk : ∀ sh' υ, Inv sh' υ → k_V E mL_law dp 3072 (k_lsL i) [] sh' υ k n Q) : k_V E mL_law dp q (k_lsL i) [] sh σ (k + 1) (n + 142) Q := by
  obtain ⟨d0, a0, d1, d2, d5, d7, b0, d8, dT⟩ := hD
  obtain ⟨e1, e8, k1, n1, sh2, τ, c, b, υ, R, ⟨g1, g8, gk, gn⟩, hsh2, hC, h8, hR⟩ := hS
  obtain ⟨⟨o1, ⟨h1, t1, o2⟩, o3, o4⟩, o5, o6, o7, o8, o9, o10⟩ := hO
  refine k_aload_n d0 1 rfl rfl (by decide) ?_
  refine law_arg a0 hi hL (by decide) rfl rfl ?_
  refine k_aload_n d1 3 rfl rfl (by decide) ?_
  refine k_less (k' := k1 + k) (n' := n1 + n) (by omega) (by omega) ?_
  refine k_callSW (M := mL_law) (d1 := e1) (dp := dp) (pc := q + 8) (st := []) (as := .ref 0 :: ([.int (iI (sx E i 1))] ++ [.ref 141])) (ls := k_lsL i) d2 o1 o2 o3 o4 (by omega) rfl (Nat.le_of_ble_eq_true rfl) hC k_noX (Or.inl (k_okL (k_Main_len hsh) i)) (fun v s2 σ2 h => ?_)
  obtain ⟨h1, rfl, rfl⟩ := h
  cases h1
  refine k_istore (ls' := [(0, .ref 1000000), (1, .ref 0), (2, .ref 123), (3, .ref 141), (4, .ref 142), (5, .int (iI i)), (6, .int (iI c))]) d5 (by decide) rfl rfl ?_
  refine k_aload_n d7 2 rfl rfl (by decide) ?_
  refine law_arg b0 hi hL (by decide) rfl rfl ?_
  refine k_callVrP (st := []) (as := [.int (iI (sx E i 1))]) d8 o5 o7 o8 o9 o6 (by omega) rfl (Nat.le_of_ble_eq_true rfl) (by decide) (s_123 hsh2) (by rw [o10]; rfl) h8 (fun hr => ?_)
  obtain ⟨r1, r2, r3, r4, r5⟩ := hR hr
  exact law_tailB dT (by omega) hsh2 r1 r2 r3 r4 (by omega) (kk _ _ r5)
abbrev law_B2_D (q idx idx8 : Nat) (off : Int) : Prop := decode cL_law q = .ok (.aload_n 1, 1) ∧ law_A (q + 1) 1 ∧ law_A (q + 7) 2 ∧ decode cL_law (q + 13) = .ok (.aload_n 3, 1) ∧ decode cL_law (q + 14) = .ok (.invokestatic idx, 3) ∧ decode cL_law (q + 17) = .ok (.istore 6, 2) ∧ decode cL_law (q + 19) = .ok (.aload_n 2, 1) ∧ law_A (q + 20) 1 ∧ law_A (q + 26) 2 ∧ decode cL_law (q + 32) = .ok (.invokevirtual idx8, 3) ∧ law_TB (q + 35) off
theorem law_B2 {q : Nat} {off i : Int} (hD : law_B2_D q idx idx8 off) (ho : ((q + 72 : Nat) : Int) + off = ((3072 : Nat) : Int)) (hO : k_LOk ML M8 idx idx8 2) (hsh : k_Main sh) (hi : 0 ≤ i ∧ i + 3 < k_L E) (hL : k_L E ≤ 2048) (hdp : 21 ≤ dp) (hS : k_Stp E Inv ML M8 [.int (iI (sx E i 1)), .int (iI (sx E i 2))] (fun b => b = 0 ∨ b = 1) sh σ) (kk : ∀ sh' υ, Inv sh' υ → k_V E mL_law dp 3072 (k_lsL i) [] sh' υ k n Q) : k_V E mL_law dp q (k_lsL i) [] sh σ (k + 1) (n + 142) Q := by
  obtain ⟨d0, a0, a1, d1, d2, d5, d7, b0, b1, d8, dT⟩ := hD
  obtain ⟨e1, e8, k1, n1, sh2, τ, c, b, υ, R, ⟨g1, g8, gk, gn⟩, hsh2, hC, h8, hR⟩ := hS
  obtain ⟨⟨o1, ⟨h1, t1, o2⟩, o3, o4⟩, o5, o6, o7, o8, o9, o10⟩ := hO
  refine k_aload_n d0 1 rfl rfl (by decide) ?_
  refine law_arg a0 hi hL (by decide) rfl rfl ?_
  refine law_arg a1 hi hL (by decide) rfl rfl ?_
  refine k_aload_n d1 3 rfl rfl (by decide) ?_
  refine k_less (k' := k1 + k) (n' := n1 + n) (by omega) (by omega) ?_
  refine k_callSW (M := mL_law) (d1 := e1) (dp := dp) (pc := q + 14) (st := []) (as := .ref 0 :: ([.int (iI (sx E i 1)), .int (iI (sx E i 2))] ++ [.ref 141])) (ls := k_lsL i) d2 o1 o2 o3 o4 (by omega) rfl (Nat.le_of_ble_eq_true rfl) hC k_noX (Or.inl (k_okL (k_Main_len hsh) i)) (fun v s2 σ2 h => ?_)
  obtain ⟨h1, rfl, rfl⟩ := h
  cases h1
  refine k_istore (ls' := [(0, .ref 1000000), (1, .ref 0), (2, .ref 123), (3, .ref 141), (4, .ref 142), (5, .int (iI i)), (6, .int (iI c))]) d5 (by decide) rfl rfl ?_
  refine k_aload_n d7 2 rfl rfl (by decide) ?_
  refine law_arg b0 hi hL (by decide) rfl rfl ?_
  refine law_arg b1 hi hL (by decide) rfl rfl ?_
  refine k_callVrP (st := []) (as := [.int (iI (sx E i 1)), .int (iI (sx E i 2))]) d8 o5 o7 o8 o9 o6 (by omega) rfl (Nat.le_of_ble_eq_true rfl) (by decide) (s_123 hsh2) (by rw [o10]; rfl) h8 (fun hr => ?_)
  obtain ⟨r1, r2, r3, r4, r5⟩ := hR hr
  exact law_tailB dT (by omega) hsh2 r1 r2 r3 r4 (by omega) (kk _ _ r5)
abbrev law_K1_D (q idx idx8 : Nat) (off : Int) : Prop := decode cL_law q = .ok (.aload_n 1, 1) ∧ law_A (q + 1) 1 ∧ decode cL_law (q + 7) = .ok (.i2c, 1) ∧ decode cL_law (q + 8) = .ok (.aload_n 3, 1) ∧ decode cL_law (q + 9) = .ok (.invokestatic idx, 3) ∧ decode cL_law (q + 12) = .ok (.istore 6, 2) ∧ decode cL_law (q + 14) = .ok (.aload_n 2, 1) ∧ law_A (q + 15) 1 ∧ decode cL_law (q + 21) = .ok (.i2c, 1) ∧ decode cL_law (q + 22) = .ok (.invokevirtual idx8, 3) ∧ law_T (q + 25) off
theorem law_K1 {q : Nat} {off i : Int} (hD : law_K1_D q idx idx8 off) (ho : ((q + 55 : Nat) : Int) + off = ((3072 : Nat) : Int)) (hO : k_LOk ML M8 idx idx8 1) (hsh : k_Main sh) (hi : 0 ≤ i ∧ i + 3 < k_L E) (hL : k_L E ≤ 2048) (hdp : 21 ≤ dp) {c0 : Int} (hc0 : (((iI (sx E i 1)).toUInt32 % 65536).toInt32) = iI c0) (hS : k_Stp E Inv ML M8 [.int (iI c0)] k_r sh σ) (kk : ∀ sh' υ, Inv sh' υ → k_V E mL_law dp 3072 (k_lsL i) [] sh' υ k n Q) : k_V E mL_law dp q (k_lsL i) [] sh σ (k + 1) (n + 142) Q := by
  obtain ⟨d0, a0, ac, d1, d2, d5, d7, b0, bc, d8, dT⟩ := hD
  obtain ⟨e1, e8, k1, n1, sh2, τ, c, b, υ, R, ⟨g1, g8, gk, gn⟩, hsh2, hC, h8, hR⟩ := hS
  obtain ⟨⟨o1, ⟨h1, t1, o2⟩, o3, o4⟩, o5, o6, o7, o8, o9, o10⟩ := hO
  refine k_aload_n d0 1 rfl rfl (by decide) ?_
  refine law_arg a0 hi hL (by decide) rfl rfl ?_
  refine k_i2c ac hc0 ?_
  refine k_aload_n d1 3 rfl rfl (by decide) ?_
  refine k_less (k' := k1 + k) (n' := n1 + n) (by omega) (by omega) ?_
  refine k_callSW (M := mL_law) (d1 := e1) (dp := dp) (pc := q + 9) (st := []) (as := .ref 0 :: ([.int (iI c0)] ++ [.ref 141])) (ls := k_lsL i) d2 o1 o2 o3 o4 (by omega) rfl (Nat.le_of_ble_eq_true rfl) hC k_noX (Or.inl (k_okL (k_Main_len hsh) i)) (fun v s2 σ2 h => ?_)
  obtain ⟨h1, rfl, rfl⟩ := h
  cases h1
  refine k_istore (ls' := [(0, .ref 1000000), (1, .ref 0), (2, .ref 123), (3, .ref 141), (4, .ref 142), (5, .int (iI i)), (6, .int (iI c))]) d5 (by decide) rfl rfl ?_
  refine k_aload_n d7 2 rfl rfl (by decide) ?_
  refine law_arg b0 hi hL (by decide) rfl rfl ?_
  refine k_i2c bc hc0 ?_
  refine k_callVrP (st := []) (as := [.int (iI c0)]) d8 o5 o7 o8 o9 o6 (by omega) rfl (Nat.le_of_ble_eq_true rfl) (by decide) (s_123 hsh2) (by rw [o10]; rfl) h8 (fun hr => ?_)
  obtain ⟨r1, r2, r3, r4, r5⟩ := hR hr
  exact law_tail dT (by omega) hsh2 r1 r2 r3 r4 (by omega) (kk _ _ r5)
def k_StpD (E : k_E) (Inv : List k_Sh → (Nat → Nat → Int) → Prop) (M7 M8 : k_M) (sh : List k_Sh) (σ : Nat → Nat → Int) : Prop := ∃ (d1 d8 k1 n1 : Nat) (τ : Nat → Nat → Int) (v b : Int) (υ : Nat → Nat → Int) (R : Prop), (d1 ≤ 20 ∧ d8 ≤ 20 ∧ k1 ≤ 1 ∧ n1 ≤ 142) ∧ k_C E M7 d1 [.ref 0] sh σ k1 n1 (k_rx (.inl (some (.int (iI v)))) sh τ) ∧ k_C E M8 d8 [.ref 123] sh τ 0 0 (k_retP (some (.int (iI b))) sh υ R) ∧ (R → v = b ∧ k_r b ∧ Inv sh υ)
def k_DOk (M7 M8 : k_M) (idx idx8 : Nat) : Prop := (k_MOk M7 0 ∧ M7.2.2.2.2 = [] ∧ Cond.methodLink RL idx M7.1 ∈ k_TBL ∧ Cond.instanceMethod M7.1 ∈ k_TBL ∧ Cond.selects M7.1.cls M7.1 M7.1 ∈ k_TBL ∧ M7.1.cls = RX7) ∧ k_MOk M8 0 ∧ M8.2.2.2.2 = [] ∧ Cond.methodLink RL idx8 M8.1 ∈ k_TBL ∧ Cond.instanceMethod M8.1 ∈ k_TBL ∧ Cond.selects M8.1.cls M8.1 M8.1 ∈ k_TBL ∧ M8.1.cls = RX8
abbrev law_N_D (q idx idx8 : Nat) (off : Int) : Prop := decode cL_law q = .ok (.aload_n 1, 1) ∧ decode cL_law (q + 1) = .ok (.invokevirtual idx, 3) ∧ decode cL_law (q + 4) = .ok (.aload_n 2, 1) ∧ decode cL_law (q + 5) = .ok (.invokevirtual idx8, 3) ∧ decode cL_law (q + 8) = .ok (.if_icmp .eq off, 3)
theorem law_N {M7 : k_M} {q : Nat} {off i : Int} (hD : law_N_D q idx idx8 off) (ho : ((q + 8 : Nat) : Int) + off = ((3072 : Nat) : Int)) (hO : k_DOk M7 M8 idx idx8) (hsh : k_Main sh) (hdp : 21 ≤ dp) (hS : k_StpD E Inv M7 M8 sh σ) (kk : ∀ sh' υ, Inv sh' υ → k_V E mL_law dp 3072 (k_lsL i) [] sh' υ k n Q) : k_V E mL_law dp q (k_lsL i) [] sh σ (k + 1) (n + 142) Q := by
  obtain ⟨d0, d1, d4, d5, d8⟩ := hD
  obtain ⟨e1, e8, k1, n1, τ, v, b, υ, R, ⟨g1, g8, gk, gn⟩, hC, h8, hR⟩ := hS
  obtain ⟨⟨o1, o2, o3, o4, o4b, o4c⟩, o5, o6, o7, o8, o9, o10⟩ := hO
  refine k_aload_n d0 1 rfl rfl (by decide) ?_
  refine k_less (k' := k1 + k) (n' := n1 + n) (by omega) (by omega) ?_
  refine k_callV (M := mL_law) (d1 := e1) (dp := dp) (pc := q + 1) (st := []) (as := []) (ls := k_lsL i) d1 o1 o2 o3 o4 o4b (by omega) rfl (Nat.le_of_ble_eq_true rfl) (by decide) (s_0 hsh) (by rw [o4c]; rfl) hC (Or.inl (k_okL (k_Main_len hsh) i)) (fun Xn s2 σ2 h => by cases h.1) (fun w s2 σ2 h => ?_)
  obtain ⟨h1, rfl, rfl⟩ := h
  cases h1
  refine k_aload_n d4 2 rfl rfl (by decide) ?_
  refine k_callVrP (st := [.int (iI v)]) (as := []) d5 o5 o7 o8 o9 o6 (by omega) rfl (Nat.le_of_ble_eq_true rfl) (by decide) (s_123 hsh) (by rw [o10]; rfl) h8 (fun hr => ?_)
  obtain ⟨r1, r2, r3⟩ := hR hr
  refine k_icmp_eq (tgt := 3072) d8 ho (by rw [r1]; exact r2) r2 (fun _ => kk _ _ r3) (fun y => absurd r1 y)

def k_StpM (E : k_E) (Inv : List k_Sh → (Nat → Nat → Int) → Prop) (sh : List k_Sh) (σ : Nat → Nat → Int) : Prop := ∃ (d1 d8 k1 n1 : Nat) (τ : Nat → Nat → Int) (c : Int) (b : UInt64) (υ : Nat → Nat → Int) (R : Prop), (d1 ≤ 20 ∧ d8 ≤ 20 ∧ k1 ≤ 1 ∧ n1 ≤ 142) ∧ k_C E mL_meanClassSize d1 [.ref 0, .ref 142] sh σ k1 n1 (k_ret (some (.int (iI c))) sh τ) ∧ k_C E mX8_meanClassSize d8 [.ref 123] sh τ 0 0 (k_retP (some (.double b)) sh υ R) ∧ (R → υ 123 7 = c ∧ (0 ≤ c ∧ c ≤ 3) ∧ (c = 0 → UInt64.ofNat (υ 142 0).toNat = b) ∧ Inv sh υ)
abbrev law_M_D (q idx idx8 : Nat) (off : Int) : Prop := decode cL_law q = .ok (.aload_n 1, 1) ∧ decode cL_law (q + 1) = .ok (.aload 4, 2) ∧ decode cL_law (q + 3) = .ok (.invokestatic idx, 3) ∧ decode cL_law (q + 6) = .ok (.istore 6, 2) ∧ decode cL_law (q + 8) = .ok (.aload_n 2, 1) ∧ decode cL_law (q + 9) = .ok (.invokevirtual idx8, 3) ∧ decode cL_law (q + 12) = .ok (.dstore 7, 2) ∧ decode cL_law (q + 14) = .ok (.aload_n 2, 1) ∧ decode cL_law (q + 15) = .ok (.invokevirtual 175, 3) ∧ decode cL_law (q + 18) = .ok (.iload 6, 2) ∧ decode cL_law (q + 20) = .ok (.if_icmp .eq 5, 3) ∧ decode cL_law (q + 25) = .ok (.iload 6, 2) ∧ decode cL_law (q + 27) = .ok (.ifCond .ne 35, 3) ∧ decode cL_law (q + 30) = .ok (.aload 4, 2) ∧ decode cL_law (q + 32) = .ok (.iconst 0, 1) ∧ decode cL_law (q + 33) = .ok (.daload, 1) ∧ decode cL_law (q + 34) = .ok (.dload 7, 2) ∧ decode cL_law (q + 36) = .ok (.dcmp .l, 1) ∧ decode cL_law (q + 37) = .ok (.ifCond .eq 25, 3) ∧ decode cL_law (q + 40) = .ok (.aload 4, 2) ∧ decode cL_law (q + 42) = .ok (.iconst 0, 1) ∧ decode cL_law (q + 43) = .ok (.daload, 1) ∧ decode cL_law (q + 44) = .ok (.aload 4, 2) ∧ decode cL_law (q + 46) = .ok (.iconst 0, 1) ∧ decode cL_law (q + 47) = .ok (.daload, 1) ∧ decode cL_law (q + 48) = .ok (.dcmp .l, 1) ∧ decode cL_law (q + 49) = .ok (.ifCond .eq 11, 3) ∧ decode cL_law (q + 52) = .ok (.dload 7, 2) ∧ decode cL_law (q + 54) = .ok (.dload 7, 2) ∧ decode cL_law (q + 56) = .ok (.dcmp .l, 1) ∧ decode cL_law (q + 57) = .ok (.ifCond .ne 5, 3) ∧ decode cL_law (q + 62) = .ok (.goto off, 3)
theorem law_M {q : Nat} {off i : Int} (hD : law_M_D q idx idx8 off) (ho : ((q + 62 : Nat) : Int) + off = ((3072 : Nat) : Int)) (hO : k_LOk mL_meanClassSize mX8_meanClassSize idx idx8 0) (hsh : k_Main sh) (hdp : 21 ≤ dp) (hS : k_StpM E Inv sh σ) (kk : ∀ sh' υ, Inv sh' υ → k_V E mL_law dp 3072 (k_lsL i) [] sh' υ k n Q) : k_V E mL_law dp q (k_lsL i) [] sh σ (k + 1) (n + 142) Q := by
  obtain ⟨d0, d1, d3, d6, d8, d9, d12, d14, d15, d18, d20, d25, d27, d30, d32, d33, d34, d36, d37, d40, d42, d43, d44, d46, d47, d48, d49, d52, d54, d56, d57, d62⟩ := hD
  obtain ⟨e1, e8, k1, n1, τ, c, b, υ, R, ⟨g1, g8, gk, gn⟩, hC, h8, hR⟩ := hS
  obtain ⟨⟨o1, ⟨h1, t1, o2⟩, o3, o4⟩, o5, o6, o7, o8, o9, o10⟩ := hO
  refine k_aload_n d0 1 rfl rfl (by decide) ?_
  refine k_aload d1 4 rfl (by decide) ?_
  refine k_less (k' := k1 + k) (n' := n1 + n) (by omega) (by omega) ?_
  refine k_callSW (M := mL_law) (d1 := e1) (dp := dp) (pc := q + 3) (st := []) (as := [.ref 0, .ref 142]) (ls := k_lsL i) d3 o1 o2 o3 o4 (by omega) rfl (Nat.le_of_ble_eq_true rfl) hC k_noX (Or.inl (k_okL (k_Main_len hsh) i)) (fun v s2 σ2 h => ?_)
  obtain ⟨h1, rfl, rfl⟩ := h
  cases h1
  refine k_istore (ls' := [(0, .ref 1000000), (1, .ref 0), (2, .ref 123), (3, .ref 141), (4, .ref 142), (5, .int (iI i)), (6, .int (iI c))]) d6 (by decide) rfl rfl ?_
  refine k_aload_n d8 2 rfl rfl (by decide) ?_
  refine k_callVrP (st := []) (as := []) d9 o5 o7 o8 o9 o6 (by omega) rfl (Nat.le_of_ble_eq_true rfl) (by decide) (s_123 hsh) (by rw [o10]; rfl) h8 (fun hr => ?_)
  obtain ⟨r1, r2, r3, r5⟩ := hR hr
  refine k_dstore d12 (by decide) rfl (fun z hz => ?_) ?_
  · have : z = (0, .ref 1000000) ∨ z = (1, .ref 0) ∨ z = (2, .ref 123) ∨ z = (3, .ref 141) ∨ z = (4, .ref 142) ∨ z = (5, .int (iI i)) ∨ z = (6, .int (iI c)) := by simpa using hz
    rcases this with rfl | rfl | rfl | rfl | rfl | rfl | rfl
    · exact (show (0 : Nat) < 7 by decide)
    · exact (show (1 : Nat) < 7 by decide)
    · exact (show (2 : Nat) < 7 by decide)
    · exact (show (3 : Nat) < 7 by decide)
    · exact (show (4 : Nat) < 7 by decide)
    · exact (show (5 : Nat) < 7 by decide)
    · exact (show (6 : Nat) < 7 by decide)
  show k_V E mL_law dp (q + 14) [(0, .ref 1000000), (1, .ref 0), (2, .ref 123), (3, .ref 141), (4, .ref 142), (5, .int (iI i)), (6, .int (iI c)), (7, .double b)] [] s2 υ k n Q
  have hend : k_V E mL_law dp (q + 62) [(0, .ref 1000000), (1, .ref 0), (2, .ref 123), (3, .ref 141), (4, .ref 142), (5, .int (iI i)), (6, .int (iI c)), (7, .double b)] [] s2 υ k n Q := by
    refine k_goto (tgt := 3072) d62 ho ?_
    exact k_dropr (ls' := k_lsL i) (ex := [(6, .int (iI c)), (7, .double b)]) rfl (kk _ _ r5)
  refine k_aload_n d14 2 rfl rfl (by decide) ?_
  refine k_callVr (st := []) (as := []) d15 oX8_thrown w_1842 w_1843 w_1844 rfl (by omega) rfl (Nat.le_of_ble_eq_true rfl) (by decide) (s_123 hsh) rfl (c8_thrown hsh) ?_
  refine k_eqst (st' := [.int (iI c)]) (by rw [r1]; rfl) ?_
  refine k_iload d18 6 rfl ?_
  refine k_icmp_eq (tgt := q + 25) d20 (by omega) ⟨by omega, by omega⟩ ⟨by omega, by omega⟩ (fun _ => ?_) (fun y => absurd rfl y)
  refine k_iload d25 6 rfl ?_
  refine k_if_ne (tgt := q + 62) d27 (by omega) ⟨by omega, by omega⟩ (fun hz => hend) (fun hz => ?_)
  have eb : UInt64.ofNat (υ 142 (0 : Int).toNat).toNat = b := r3 hz
  refine k_aload d30 4 rfl (by decide) ?_
  refine k_iconst (v := 0) d32 rfl ?_
  refine k_dald d33 (by decide) (s_142 hsh) (by decide) (by decide) (by decide) ?_
  rw [eb]
  refine k_dload d34 7 rfl ?_
  refine k_dcmp d36 ?_
  refine k_if_eq (tgt := q + 62) d37 (by omega) (k_r_toInt _) (fun _ => hend) (fun hne => ?_)
  refine k_aload d40 4 rfl (by decide) ?_
  refine k_iconst (v := 0) d42 rfl ?_
  refine k_dald d43 (by decide) (s_142 hsh) (by decide) (by decide) (by decide) ?_
  rw [eb]
  refine k_aload d44 4 rfl (by decide) ?_
  refine k_iconst (v := 0) d46 rfl ?_
  refine k_dald d47 (by decide) (s_142 hsh) (by decide) (by decide) (by decide) ?_
  rw [eb]
  refine k_dcmp d48 ?_
  refine k_if_eq (tgt := q + 60) d49 (by omega) (k_r_toInt _) (fun y => absurd y hne) (fun _ => ?_)
  refine k_dload d52 7 rfl ?_
  refine k_dload d54 7 rfl ?_
  refine k_dcmp d56 ?_
  exact k_if_ne (tgt := q + 62) d57 (by omega) (k_r_toInt _) (fun _ => hend) (fun y => absurd y hne)
end K_LB
