/-! ===== THE CHANGES, a step each ===== -/
section K_SC3
variable {E : k_E} {M7 ML M8 : k_M} {sh sh' : List k_Sh} {σ ρ τ υ : Nat → Nat → Int} {v w : Nat} {as : List Value}
def k_Fe (υ ρ : Nat → Nat → Int) : Prop := (∀ i, i < 123 ∨ i = 129 ∨ i = 130 ∨ i = 137 ∨ 140 < i → υ i = ρ i) ∧ k_Qn υ ρ
theorem m_ends_far (τ : Nat → Nat → Int) (v x y : Int) : (∀ i, i ≠ 123 → i ≠ 128 → (m_ends τ v x y).2 i = τ i) ∧ ∀ j, j ≠ 5 → j ≠ 7 → (m_ends τ v x y).2 123 j = τ 123 j := by
  unfold m_ends r_ends_59 r_ends_99 r_ends_99_2
  split
  · split
    · refine ⟨fun i h1 h2 => ?_, fun j h1 h2 => ?_⟩
      · dsimp only
        rw [k_up_ne h2, k_up_ne h1]
      · dsimp only
        rw [k_up_ne (by decide), k_up_same, n_u1_ne h2, n_u1_ne h1, n_u1_ne h1]
    · refine ⟨fun i h1 h2 => ?_, fun j h1 h2 => ?_⟩
      · dsimp only
        rw [k_up_ne h2, k_up_ne h1]
      · dsimp only
        rw [k_up_ne (by decide), k_up_same, n_u1_ne h2, n_u1_ne h1]
  · have h : ∀ z : Int, (∀ i, i ≠ 123 → i ≠ 128 → k_up τ 123 (k_u1 (τ 123) 7 z) i = τ i) ∧ ∀ j, j ≠ 5 → j ≠ 7 → k_up τ 123 (k_u1 (τ 123) 7 z) 123 j = τ 123 j := fun z => ⟨fun i h1 _ => k_up_ne h1, fun j _ h2 => by rw [k_up_same, n_u1_ne h2]⟩
    split
    · exact h 1
    · split
      · exact h 2
      · exact h 3
theorem fe_ends {A : Nat → Nat → Int} (hF : k_Fr A (g_begin ρ)) (v x y : Int) : k_Fe (m_ends A v x y).2 ρ := by
  obtain ⟨h1, h2⟩ := m_ends_far A v x y
  refine ⟨fun i hi => ?_, fun j hj => ?_⟩
  · rw [h1 i (by omega) (by omega), hF.1 i (by omega)]
    exact g_begin_ne (by omega) (by omega)
  · rw [h2 j (by omega) (by omega), hF.2 j (by omega) (by omega) (by omega), g_begin_123]
    exact n_u1_ne (by omega)
theorem stp_chg {D d8 k1 n1 : Nat} {tbl : List String} {r : Option Value ⊕ String} {m : (Nat → Nat → Int) → Int × (Nat → Nat → Int)} (hI : k_In3 sh v w σ) (h5 : k_A5 τ) (hτ : ∀ i, i = 25 ∨ 107 ≤ i → τ i = σ i) (h0 : ∀ j, 11 ≤ j → j ≤ 13 → τ 0 j = σ 0 j) (hsp : k_Sp tbl r) (hl : tbl.length ≤ 3) (hb : D ≤ 20 ∧ d8 ≤ 20 ∧ k1 ≤ 1 ∧ n1 ≤ 142) (hC : k_Sp tbl r → k_C E ML D (.ref 0 :: (as ++ [.ref 141])) sh σ k1 n1 (k_ret (some (.int (iI (w_code tbl r)))) sh (w_out r τ)))
    (h8 : ∀ ρ, k_MA ρ → k_Rel σ ρ → k_C E M8 d8 (.ref 123 :: as) sh ρ 0 0 (k_pP sh k_RV (m ρ))) (hfin : ∀ ρ, k_Rel σ ρ → k_RV (m ρ) → k_ag tbl r (m ρ).1 ((m ρ).2 123 7) ∧ k_Rel τ (m ρ).2 ∧ k_OK τ) (hfe : ∀ ρ, k_Fe (m ρ).2 ρ) : k_Stp E k_Inv ML M8 as k_r sh σ := by
  have hv := (k_Gr_v hI.ic.1).1
  have e0 : ∀ ρ : Nat → Nat → Int, (∀ i, i ≠ 141 → ρ i = τ i) → ∀ i, 123 ≤ i → i ≤ 140 → ρ i = σ i := fun ρ hρ i h1 _ => (hρ i (by omega)).trans (hτ i (by omega))
  refine stp_gen hI.im hI.ic.1 (fun i h1 _ => hτ i (by omega)) hsp hl hC hb (fun hM => h8 _ hM (hI.ir2 (e0 _ fun i hi => w_out_ne hi)).1) (fun ρ hρ hR => ?_) (fun ρ i hi => (hfe ρ).1 i (by omega))
  have hir := hI.ir2 (e0 ρ hρ)
  obtain ⟨f1, f2, f3⟩ := hfin ρ hir.1 hR
  exact ⟨f1, k_Ic_ch hI.ic f3 h5 (fun i hi => hτ i (by omega)), k_Ir_rel hir f2 (fun i hi => hτ i (by omega)) h0 (hfe ρ).2 ((hfe ρ).1 129 (by omega)) ((hfe ρ).1 130 (by omega))⟩
theorem stp_dirC {D d8 k1 n1 : Nat} {x : Int} {m : (Nat → Nat → Int) → Int × (Nat → Nat → Int)} (hI : k_In3 sh v w σ) (hK : k_OK τ) (h5 : k_A5 τ) (hτ : ∀ i, i = 25 ∨ 107 ≤ i → τ i = σ i) (h0 : ∀ j, 11 ≤ j → j ≤ 13 → τ 0 j = σ 0 j) (hb : D ≤ 20 ∧ d8 ≤ 20 ∧ k1 ≤ 1 ∧ n1 ≤ 142) (hC : k_C E M7 D [.ref 0] sh σ k1 n1 (k_rx (.inl (some (.int (iI x)))) sh τ)) (h8 : ∀ ρ, k_MA ρ → k_C E M8 d8 [.ref 123] sh ρ 0 0 (k_pP sh k_RV (m ρ))) (hfin : ∀ ρ, k_Rel σ ρ → x = (m ρ).1 ∧ k_Rel τ (m ρ).2) (hfe : ∀ ρ, k_Fe (m ρ).2 ρ) : k_StpD E k_Inv M7 M8 sh σ := by
  have hv := (k_Gr_v hI.ic.1).1
  have e : ∀ i, 123 ≤ i → i ≤ 140 → τ i = σ i := fun i h1 _ => hτ i (by omega)
  have hir := hI.ir2 e
  have hM : k_MA τ := k_MA_cong hI.im.1 e
  obtain ⟨f1, f2⟩ := hfin τ hir.1
  refine ⟨D, d8, k1, n1, τ, x, (m τ).1, (m τ).2, k_RV (m τ), hb, hC, h8 τ hM, fun hR => ⟨f1, ?_, ?_⟩⟩
  · have := hR.1
    show k_r _
    omega
  · exact k_Inv_of hI.im (k_Ic_ch hI.ic hK h5 (fun i hi => hτ i (by omega))) (k_Ir_rel hir f2 (fun i hi => hτ i (by omega)) h0 (hfe τ).2 ((hfe τ).1 129 (by omega)) ((hfe τ).1 130 (by omega))) hR.2 (((hfe τ).1 137 (by omega)).trans (e 137 (by omega) (by omega))) (fun i hi => (hfe τ).1 i (by omega))
theorem kp_far (hH : k_Hi σ) {B i : Nat} (h : i < 24 ∨ i = 25 ∨ 98 ≤ i) : u_keepB σ B i = σ i := by
  by_cases q : i = 25
  · subst q
    unfold u_keepB
    rw [k_up_ne (by decide)]
    exact u_copy_ne (by omega)
  · exact u_keepB_ne hH.2.1 (by omega)
theorem um_far (hOK : k_OK σ) {mm a b c : Int} (hm : 0 ≤ mm ∧ mm < 12) {i : Nat} (h : i = 0 ∨ i = 25 ∨ 98 ≤ i) : u_make σ mm a b c i = σ i := by
  have hF := (k_OK_fault hOK mm a b c).2.2.2.2
  have hf : u_fault σ mm a b c i = σ i := by
    rcases h with rfl | h
    · exact u_fault_pl mm a b c 0 (by decide)
    · exact u_fault_ne mm a b c (by omega)
  unfold u_make
  split
  · rw [u_perf_far a b c hm (by omega)]
    exact (kp_far hF (by omega)).trans hf
  · exact hf
theorem um_a5 (hOK : k_OK σ) (h5 : k_A5 σ) {mm a b c : Int} (hm : 0 ≤ mm ∧ mm < 12) : k_A5 (u_make σ mm a b c) := by
  have hF := k_OK_fault hOK mm a b c
  have h5F : k_A5 (u_fault σ mm a b c) := k_A5_fault h5 mm a b c
  have hK : k_OK (u_kept σ mm a b c) := k_OK_keep hF
  unfold u_make
  split
  · exact k_A5_perf hK.1 hK.2.2.2.1 (k_A5_of h5F (kp_far hF.2.2.2.2 (by omega))) hm
  · exact h5F
theorem stp_made {D d8 k1 n1 : Nat} {tbl : List String} {mm a b c x y : Int} {m : (Nat → Nat → Int) → Int × (Nat → Nat → Int)} (hI : k_In3 sh v w σ) (hm : 0 ≤ mm ∧ mm < 12) (hT : ∀ e : Int, e = e_fault σ mm a b c → e ≠ 0 → x_of e ∈ tbl ∧ w_code tbl (.inr (x_of e)) = if e = x then 1 else if e = y then 2 else 3) (hl : tbl.length ≤ 3) (hb : D ≤ 20 ∧ d8 ≤ 20 ∧ k1 ≤ 1 ∧ n1 ≤ 142) (hE : ∀ ρ, m ρ = m_ends (m_acts (g_begin ρ) mm a b c).2 (m_acts (g_begin ρ) mm a b c).1 x y) (hC : k_Sp tbl (r_make σ mm a b c) → k_C E ML D (.ref 0 :: (as ++ [.ref 141])) sh σ k1 n1 (k_ret (some (.int (iI (w_code tbl (r_make σ mm a b c))))) sh (w_out (r_make σ mm a b c) (u_make σ mm a b c))))
    (h8 : ∀ ρ, k_MA ρ → k_C E M8 d8 (.ref 123 :: as) sh ρ 0 0 (k_pP sh k_RV (m ρ))) : k_Stp E k_Inv ML M8 as k_r sh σ := by
  refine stp_chg (m := m) hI (um_a5 hI.ok hI.a5 hm) (fun i hi => um_far hI.ok hm (by omega)) (fun j _ _ => by rw [um_far hI.ok hm (Or.inl rfl)]) ?_ hl hb hC (fun ρ hM _ => h8 ρ hM) (fun ρ hr hR => ?_) (fun ρ => ?_)
  · unfold r_make
    by_cases q : e_fault σ mm a b c = 0
    · rw [if_pos q]
      exact Or.inl ⟨_, rfl⟩
    · rw [if_neg q]
      exact Or.inr ⟨_, (hT _ rfl q).1, rfl⟩
  · have hR1 := hR.1
    rw [hE ρ] at hR1 ⊢
    obtain ⟨q1, q2, -⟩ := q_made hr hI.ok (a := a) (b := b) (c := c) hm x y
    exact ⟨q_told hr hI.ok hm hT hR1, q2, k_OK_make hI.ok hm q1⟩
  · rw [hE ρ]
    exact fe_ends (m_acts_fr mm a b c) _ _ _
theorem ev_0 (a b c : Int) : e_fault σ 0 a b c = 0 ∨ e_fault σ 0 a b c = 2 ∨ e_fault σ 0 a b c = 3 := by
  show e_subject σ a = 0 ∨ e_subject σ a = 2 ∨ e_subject σ a = 3
  unfold e_subject
  (repeat' split) <;> first | exact (Or.inl rfl) | exact (Or.inr (Or.inl rfl)) | exact (Or.inr (Or.inr rfl)) | (first | omega | contradiction | (exfalso; omega))
theorem ev_1 (a b c : Int) : e_fault σ 1 a b c = 0 ∨ e_fault σ 1 a b c = 2 ∨ e_fault σ 1 a b c = 3 := by
  show e_blocks σ a = 0 ∨ e_blocks σ a = 2 ∨ e_blocks σ a = 3
  unfold e_blocks
  (repeat' split) <;> first | exact (Or.inl rfl) | exact (Or.inr (Or.inl rfl)) | exact (Or.inr (Or.inr rfl)) | (first | omega | contradiction | (exfalso; omega))
theorem ev_2 (a b c : Int) : e_fault σ 2 a b c = 0 ∨ e_fault σ 2 a b c = 1 ∨ e_fault σ 2 a b c = 3 := by
  show e_open σ a b = 0 ∨ e_open σ a b = 1 ∨ e_open σ a b = 3
  unfold e_open
  (repeat' split) <;> first | exact (Or.inl rfl) | exact (Or.inr (Or.inl rfl)) | exact (Or.inr (Or.inr rfl)) | (first | omega | contradiction | (exfalso; omega))
theorem ev_3 (a b c : Int) : e_fault σ 3 a b c = 0 ∨ e_fault σ 3 a b c = 1 ∨ e_fault σ 3 a b c = 3 := by
  show e_close σ a b = 0 ∨ e_close σ a b = 1 ∨ e_close σ a b = 3
  unfold e_close
  (repeat' split) <;> first | exact (Or.inl rfl) | exact (Or.inr (Or.inl rfl)) | exact (Or.inr (Or.inr rfl)) | (first | omega | contradiction | (exfalso; omega))
theorem ev_4 (a b c : Int) : e_fault σ 4 a b c = 0 ∨ e_fault σ 4 a b c = 3 := by
  show e_pupil σ = 0 ∨ e_pupil σ = 3
  unfold e_pupil
  (repeat' split) <;> first | exact (Or.inl rfl) | exact (Or.inr rfl) | (first | omega | contradiction | (exfalso; omega))
theorem ev_5 (a b c : Int) : e_fault σ 5 a b c = 0 ∨ e_fault σ 5 a b c = 1 ∨ e_fault σ 5 a b c = 3 := by
  show e_wish σ a b = 0 ∨ e_wish σ a b = 1 ∨ e_wish σ a b = 3
  unfold e_wish
  unfold e_reserve
  (repeat' split) <;> first | exact (Or.inl rfl) | exact (Or.inr (Or.inl rfl)) | exact (Or.inr (Or.inr rfl)) | (first | omega | contradiction | (exfalso; omega))
theorem ev_6 (a b c : Int) : e_fault σ 6 a b c = 0 ∨ e_fault σ 6 a b c = 1 ∨ e_fault σ 6 a b c = 3 := by
  show e_reserve σ a b = 0 ∨ e_reserve σ a b = 1 ∨ e_reserve σ a b = 3
  unfold e_reserve
  (repeat' split) <;> first | exact (Or.inl rfl) | exact (Or.inr (Or.inl rfl)) | exact (Or.inr (Or.inr rfl)) | (first | omega | contradiction | (exfalso; omega))
theorem ev_7 (a b c : Int) : e_fault σ 7 a b c = 0 ∨ e_fault σ 7 a b c = 1 ∨ e_fault σ 7 a b c = 3 := by
  show e_enrol σ a = 0 ∨ e_enrol σ a = 1 ∨ e_enrol σ a = 3
  unfold e_enrol
  (repeat' split) <;> first | exact (Or.inl rfl) | exact (Or.inr (Or.inl rfl)) | exact (Or.inr (Or.inr rfl)) | (first | omega | contradiction | (exfalso; omega))
theorem ev_8 (a b c : Int) : e_fault σ 8 a b c = 0 ∨ e_fault σ 8 a b c = 1 ∨ e_fault σ 8 a b c = 3 ∨ e_fault σ 8 a b c = 4 := by
  show e_join σ a b = 0 ∨ e_join σ a b = 1 ∨ e_join σ a b = 3 ∨ e_join σ a b = 4
  unfold e_join
  unfold e_joiner e_seek
  (repeat' split) <;> first | exact (Or.inl rfl) | exact (Or.inr (Or.inl rfl)) | exact (Or.inr (Or.inr (Or.inl rfl))) | exact (Or.inr (Or.inr (Or.inr rfl))) | (first | omega | contradiction | (exfalso; omega))
theorem ev_9 (a b c : Int) : e_fault σ 9 a b c = 0 ∨ e_fault σ 9 a b c = 1 ∨ e_fault σ 9 a b c = 3 := by
  show e_quit σ a b = 0 ∨ e_quit σ a b = 1 ∨ e_quit σ a b = 3
  unfold e_quit
  (repeat' split) <;> first | exact (Or.inl rfl) | exact (Or.inr (Or.inl rfl)) | exact (Or.inr (Or.inr rfl)) | (first | omega | contradiction | (exfalso; omega))
theorem ev_10 (a b c : Int) : e_fault σ 10 a b c = 0 ∨ e_fault σ 10 a b c = 1 ∨ e_fault σ 10 a b c = 3 ∨ e_fault σ 10 a b c = 4 := by
  show e_change σ a b c = 0 ∨ e_change σ a b c = 1 ∨ e_change σ a b c = 3 ∨ e_change σ a b c = 4
  unfold e_change
  unfold e_chg e_seek
  (repeat' split) <;> first | exact (Or.inl rfl) | exact (Or.inr (Or.inl rfl)) | exact (Or.inr (Or.inr (Or.inl rfl))) | exact (Or.inr (Or.inr (Or.inr rfl))) | (first | omega | contradiction | (exfalso; omega))
theorem ev_11 (a b c : Int) : e_fault σ 11 a b c = 0 ∨ e_fault σ 11 a b c = 3 := by
  show e_arrange σ = 0 ∨ e_arrange σ = 3
  unfold e_arrange
  (repeat' split) <;> first | exact (Or.inl rfl) | exact (Or.inr rfl) | (first | omega | contradiction | (exfalso; omega))
theorem tt_addSubject (a b c : Int) : ∀ e : Int, e = e_fault σ 0 a b c → e ≠ 0 → x_of e ∈ [x_ia, x_is] ∧ w_code [x_ia, x_is] (.inr (x_of e)) = if e = 2 then 1 else if e = 3 then 2 else 3 := fun e he h0 => by
  rcases ev_0 (σ := σ) a b c with h | h | h
  · exact absurd (he.trans h) h0
  · rw [he, h]
    exact ⟨List.mem_cons_self, by decide⟩
  · rw [he, h]
    exact ⟨List.mem_cons_of_mem _ (List.mem_cons_self), by decide⟩
theorem st_addSubject (hI : k_In3 sh v w σ) {a : Int} (ha : -2147483648 ≤ a ∧ a < 2147483648) : k_Stp E k_Inv mL_addSubject mX8_addSubject [.int (iI a)] k_r sh σ :=
  stp_made (m := fun ρ => m_addSubject ρ a) (mm := 0) (a := a) (b := 0) (c := 0) (x := 2) (y := 3) hI (by decide) (tt_addSubject a 0 0) (by decide) ⟨by decide, by decide, by decide, by decide⟩ (fun ρ => rfl) (fun hsp => cw_addSubject hI.main hI.main (c7_addSubject hI.main hI.ok ha) (sp2 hsp)) (fun ρ hM => c8_addSubject hI.main hM ha)
theorem tt_setBlockCount (a b c : Int) : ∀ e : Int, e = e_fault σ 1 a b c → e ≠ 0 → x_of e ∈ [x_ia, x_is] ∧ w_code [x_ia, x_is] (.inr (x_of e)) = if e = 2 then 1 else if e = 3 then 2 else 3 := fun e he h0 => by
  rcases ev_1 (σ := σ) a b c with h | h | h
  · exact absurd (he.trans h) h0
  · rw [he, h]
    exact ⟨List.mem_cons_self, by decide⟩
  · rw [he, h]
    exact ⟨List.mem_cons_of_mem _ (List.mem_cons_self), by decide⟩
theorem st_setBlockCount (hI : k_In3 sh v w σ) {a : Int} (ha : -2147483648 ≤ a ∧ a < 2147483648) : k_Stp E k_Inv mL_setBlockCount mX8_setBlockCount [.int (iI a)] k_r sh σ :=
  stp_made (m := fun ρ => m_setBlockCount ρ a) (mm := 1) (a := a) (b := 0) (c := 0) (x := 2) (y := 3) hI (by decide) (tt_setBlockCount a 0 0) (by decide) ⟨by decide, by decide, by decide, by decide⟩ (fun ρ => rfl) (fun hsp => cw_setBlockCount hI.main hI.main (c7_setBlockCount hI.main hI.ok ha) (sp2 hsp)) (fun ρ hM => c8_setBlockCount hI.main hM ha)
theorem tt_openClass (a b c : Int) : ∀ e : Int, e = e_fault σ 2 a b c → e ≠ 0 → x_of e ∈ [x_io, x_is] ∧ w_code [x_io, x_is] (.inr (x_of e)) = if e = 1 then 1 else if e = 3 then 2 else 3 := fun e he h0 => by
  rcases ev_2 (σ := σ) a b c with h | h | h
  · exact absurd (he.trans h) h0
  · rw [he, h]
    exact ⟨List.mem_cons_self, by decide⟩
  · rw [he, h]
    exact ⟨List.mem_cons_of_mem _ (List.mem_cons_self), by decide⟩
theorem st_openClass (hI : k_In3 sh v w σ) {a : Int} (ha : -2147483648 ≤ a ∧ a < 2147483648) {b : Int} (hb : -2147483648 ≤ b ∧ b < 2147483648) : k_Stp E k_Inv mL_openClass mX8_openClass [.int (iI a), .int (iI b)] k_r sh σ :=
  stp_made (m := fun ρ => m_openClass ρ a b) (mm := 2) (a := a) (b := b) (c := 0) (x := 1) (y := 3) hI (by decide) (tt_openClass a b 0) (by decide) ⟨by decide, by decide, by decide, by decide⟩ (fun ρ => rfl) (fun hsp => cw_openClass hI.main hI.main (c7_openClass hI.main hI.ok ha hb) (sp2 hsp)) (fun ρ hM => c8_openClass hI.main hM ha hb)
theorem tt_closeClass (a b c : Int) : ∀ e : Int, e = e_fault σ 3 a b c → e ≠ 0 → x_of e ∈ [x_io, x_is] ∧ w_code [x_io, x_is] (.inr (x_of e)) = if e = 1 then 1 else if e = 3 then 2 else 3 := fun e he h0 => by
  rcases ev_3 (σ := σ) a b c with h | h | h
  · exact absurd (he.trans h) h0
  · rw [he, h]
    exact ⟨List.mem_cons_self, by decide⟩
  · rw [he, h]
    exact ⟨List.mem_cons_of_mem _ (List.mem_cons_self), by decide⟩
theorem st_closeClass (hI : k_In3 sh v w σ) {a : Int} (ha : -2147483648 ≤ a ∧ a < 2147483648) {b : Int} (hb : -2147483648 ≤ b ∧ b < 2147483648) : k_Stp E k_Inv mL_closeClass mX8_closeClass [.int (iI a), .int (iI b)] k_r sh σ :=
  stp_made (m := fun ρ => m_closeClass ρ a b) (mm := 3) (a := a) (b := b) (c := 0) (x := 1) (y := 3) hI (by decide) (tt_closeClass a b 0) (by decide) ⟨by decide, by decide, by decide, by decide⟩ (fun ρ => rfl) (fun hsp => cw_closeClass hI.main hI.main (c7_closeClass hI.main hI.ok ha hb) (sp2 hsp)) (fun ρ hM => c8_closeClass hI.main hM ha hb)
theorem tt_addPupil (a b c : Int) : ∀ e : Int, e = e_fault σ 4 a b c → e ≠ 0 → x_of e ∈ [x_is] ∧ w_code [x_is] (.inr (x_of e)) = if e = 3 then 1 else if e = 0 then 2 else 3 := fun e he h0 => by
  rcases ev_4 (σ := σ) a b c with h | h
  · exact absurd (he.trans h) h0
  · rw [he, h]
    exact ⟨List.mem_cons_self, by decide⟩
theorem st_addPupil (hI : k_In3 sh v w σ)  : k_Stp E k_Inv mL_addPupil mX8_addPupil [] k_r sh σ :=
  stp_made (m := fun ρ => m_addPupil ρ) (mm := 4) (a := 0) (b := 0) (c := 0) (x := 3) (y := 0) hI (by decide) (tt_addPupil 0 0 0) (by decide) ⟨by decide, by decide, by decide, by decide⟩ (fun ρ => rfl) (fun hsp => cw_addPupil hI.main hI.main (c7_addPupil hI.main hI.ok) (sp1 hsp)) (fun ρ hM => c8_addPupil hI.main hM)
theorem tt_addWish (a b c : Int) : ∀ e : Int, e = e_fault σ 5 a b c → e ≠ 0 → x_of e ∈ [x_io, x_is] ∧ w_code [x_io, x_is] (.inr (x_of e)) = if e = 1 then 1 else if e = 3 then 2 else 3 := fun e he h0 => by
  rcases ev_5 (σ := σ) a b c with h | h | h
  · exact absurd (he.trans h) h0
  · rw [he, h]
    exact ⟨List.mem_cons_self, by decide⟩
  · rw [he, h]
    exact ⟨List.mem_cons_of_mem _ (List.mem_cons_self), by decide⟩
theorem st_addWish (hI : k_In3 sh v w σ) {a : Int} (ha : -2147483648 ≤ a ∧ a < 2147483648) {b : Int} (hb : -2147483648 ≤ b ∧ b < 2147483648) : k_Stp E k_Inv mL_addWish mX8_addWish [.int (iI a), .int (iI b)] k_r sh σ :=
  stp_made (m := fun ρ => m_addWish ρ a b) (mm := 5) (a := a) (b := b) (c := 0) (x := 1) (y := 3) hI (by decide) (tt_addWish a b 0) (by decide) ⟨by decide, by decide, by decide, by decide⟩ (fun ρ => rfl) (fun hsp => cw_addWish hI.main hI.main (c7_addWish hI.main hI.ok ha hb) (sp2 hsp)) (fun ρ hM => c8_addWish hI.main hM ha hb)
theorem tt_setReserve (a b c : Int) : ∀ e : Int, e = e_fault σ 6 a b c → e ≠ 0 → x_of e ∈ [x_io, x_is] ∧ w_code [x_io, x_is] (.inr (x_of e)) = if e = 1 then 1 else if e = 3 then 2 else 3 := fun e he h0 => by
  rcases ev_6 (σ := σ) a b c with h | h | h
  · exact absurd (he.trans h) h0
  · rw [he, h]
    exact ⟨List.mem_cons_self, by decide⟩
  · rw [he, h]
    exact ⟨List.mem_cons_of_mem _ (List.mem_cons_self), by decide⟩
theorem st_setReserve (hI : k_In3 sh v w σ) {a : Int} (ha : -2147483648 ≤ a ∧ a < 2147483648) {b : Int} (hb : -2147483648 ≤ b ∧ b < 2147483648) : k_Stp E k_Inv mL_setReserve mX8_setReserve [.int (iI a), .int (iI b)] k_r sh σ :=
  stp_made (m := fun ρ => m_setReserve ρ a b) (mm := 6) (a := a) (b := b) (c := 0) (x := 1) (y := 3) hI (by decide) (tt_setReserve a b 0) (by decide) ⟨by decide, by decide, by decide, by decide⟩ (fun ρ => rfl) (fun hsp => cw_setReserve hI.main hI.main (c7_setReserve hI.main hI.ok ha hb) (sp2 hsp)) (fun ρ hM => c8_setReserve hI.main hM ha hb)
theorem tt_enrol (a b c : Int) : ∀ e : Int, e = e_fault σ 7 a b c → e ≠ 0 → x_of e ∈ [x_io, x_is] ∧ w_code [x_io, x_is] (.inr (x_of e)) = if e = 1 then 1 else if e = 3 then 2 else 3 := fun e he h0 => by
  rcases ev_7 (σ := σ) a b c with h | h | h
  · exact absurd (he.trans h) h0
  · rw [he, h]
    exact ⟨List.mem_cons_self, by decide⟩
  · rw [he, h]
    exact ⟨List.mem_cons_of_mem _ (List.mem_cons_self), by decide⟩
theorem st_enrol (hI : k_In3 sh v w σ) {a : Int} (ha : -2147483648 ≤ a ∧ a < 2147483648) : k_Stp E k_Inv mL_enrol mX8_enrol [.int (iI a)] k_r sh σ :=
  stp_made (m := fun ρ => m_enrol ρ a) (mm := 7) (a := a) (b := 0) (c := 0) (x := 1) (y := 3) hI (by decide) (tt_enrol a 0 0) (by decide) ⟨by decide, by decide, by decide, by decide⟩ (fun ρ => rfl) (fun hsp => cw_enrol hI.main hI.main (c7_enrol hI.main hI.ok ha) (sp2 hsp)) (fun ρ hM => c8_enrol hI.main hM ha)
theorem tt_join (a b c : Int) : ∀ e : Int, e = e_fault σ 8 a b c → e ≠ 0 → x_of e ∈ [x_io, x_is, x_uo] ∧ w_code [x_io, x_is, x_uo] (.inr (x_of e)) = if e = 1 then 1 else if e = 3 then 2 else 3 := fun e he h0 => by
  rcases ev_8 (σ := σ) a b c with h | h | h | h
  · exact absurd (he.trans h) h0
  · rw [he, h]
    exact ⟨List.mem_cons_self, by decide⟩
  · rw [he, h]
    exact ⟨List.mem_cons_of_mem _ (List.mem_cons_self), by decide⟩
  · rw [he, h]
    exact ⟨List.mem_cons_of_mem _ (List.mem_cons_of_mem _ (List.mem_cons_self)), by decide⟩
theorem st_join (hI : k_In3 sh v w σ) {a : Int} (ha : -2147483648 ≤ a ∧ a < 2147483648) {b : Int} (hb : -2147483648 ≤ b ∧ b < 2147483648) : k_Stp E k_Inv mL_join mX8_join [.int (iI a), .int (iI b)] k_r sh σ :=
  stp_made (m := fun ρ => m_join ρ a b) (mm := 8) (a := a) (b := b) (c := 0) (x := 1) (y := 3) hI (by decide) (tt_join a b 0) (by decide) ⟨by decide, by decide, by decide, by decide⟩ (fun ρ => rfl) (fun hsp => cw_join hI.main hI.main (c7_join hI.main hI.ok ha hb) (sp3 hsp)) (fun ρ hM => c8_join hI.main hM ha hb)
theorem tt_quit (a b c : Int) : ∀ e : Int, e = e_fault σ 9 a b c → e ≠ 0 → x_of e ∈ [x_io, x_is] ∧ w_code [x_io, x_is] (.inr (x_of e)) = if e = 1 then 1 else if e = 3 then 2 else 3 := fun e he h0 => by
  rcases ev_9 (σ := σ) a b c with h | h | h
  · exact absurd (he.trans h) h0
  · rw [he, h]
    exact ⟨List.mem_cons_self, by decide⟩
  · rw [he, h]
    exact ⟨List.mem_cons_of_mem _ (List.mem_cons_self), by decide⟩
theorem st_quit (hI : k_In3 sh v w σ) {a : Int} (ha : -2147483648 ≤ a ∧ a < 2147483648) {b : Int} (hb : -2147483648 ≤ b ∧ b < 2147483648) : k_Stp E k_Inv mL_quit mX8_quit [.int (iI a), .int (iI b)] k_r sh σ :=
  stp_made (m := fun ρ => m_quit ρ a b) (mm := 9) (a := a) (b := b) (c := 0) (x := 1) (y := 3) hI (by decide) (tt_quit a b 0) (by decide) ⟨by decide, by decide, by decide, by decide⟩ (fun ρ => rfl) (fun hsp => cw_quit hI.main hI.main (c7_quit hI.main hI.ok ha hb) (sp2 hsp)) (fun ρ hM => c8_quit hI.main hM ha hb)
theorem tt_change (a b c : Int) : ∀ e : Int, e = e_fault σ 10 a b c → e ≠ 0 → x_of e ∈ [x_io, x_is, x_uo] ∧ w_code [x_io, x_is, x_uo] (.inr (x_of e)) = if e = 1 then 1 else if e = 3 then 2 else 3 := fun e he h0 => by
  rcases ev_10 (σ := σ) a b c with h | h | h | h
  · exact absurd (he.trans h) h0
  · rw [he, h]
    exact ⟨List.mem_cons_self, by decide⟩
  · rw [he, h]
    exact ⟨List.mem_cons_of_mem _ (List.mem_cons_self), by decide⟩
  · rw [he, h]
    exact ⟨List.mem_cons_of_mem _ (List.mem_cons_of_mem _ (List.mem_cons_self)), by decide⟩
theorem st_change (hI : k_In3 sh v w σ) {a : Int} (ha : -2147483648 ≤ a ∧ a < 2147483648) {b : Int} (hb : -2147483648 ≤ b ∧ b < 2147483648) {c : Int} (hc : -2147483648 ≤ c ∧ c < 2147483648) : k_Stp E k_Inv mL_change mX8_change [.int (iI a), .int (iI b), .int (iI c)] k_r sh σ :=
  stp_made (m := fun ρ => m_change ρ a b c) (mm := 10) (a := a) (b := b) (c := c) (x := 1) (y := 3) hI (by decide) (tt_change a b c) (by decide) ⟨by decide, by decide, by decide, by decide⟩ (fun ρ => rfl) (fun hsp => cw_change hI.main hI.main (c7_change2 hI.main hI.ok (q_made hI.ir.1 hI.ok (a := a) (b := b) (c := c) (m := 10) (by decide) 1 3).1 ha hb hc) (sp3 hsp)) (fun ρ hM => c8_change hI.main hM ha hb hc)
theorem tt_arrange (a b c : Int) : ∀ e : Int, e = e_fault σ 11 a b c → e ≠ 0 → x_of e ∈ [x_is] ∧ w_code [x_is] (.inr (x_of e)) = if e = 3 then 1 else if e = 0 then 2 else 3 := fun e he h0 => by
  rcases ev_11 (σ := σ) a b c with h | h
  · exact absurd (he.trans h) h0
  · rw [he, h]
    exact ⟨List.mem_cons_self, by decide⟩
theorem st_arrange (hI : k_In3 sh v w σ)  : k_Stp E k_Inv mL_arrange mX8_arrange [] k_r sh σ :=
  stp_made (m := fun ρ => m_arrange ρ) (mm := 11) (a := 0) (b := 0) (c := 0) (x := 3) (y := 0) hI (by decide) (tt_arrange 0 0 0) (by decide) ⟨by decide, by decide, by decide, by decide⟩ (fun ρ => rfl) (fun hsp => cw_arrange hI.main hI.main (c7_arrange hI.main hI.ok) (sp1 hsp)) (fun ρ hM => c8_arrange hI.main hM)
end K_SC3
