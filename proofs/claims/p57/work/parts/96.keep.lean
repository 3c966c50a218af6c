/-! ===== WHAT HOLDS between the calls of the law; it is kept ===== -/
section P_E
variable {E : k_E} {sh : List k_Sh} {σ ρ τ υ : Nat → Nat → Int} {r t : Nat → Int} {v w : Nat}
/-- a count of clashes that the arrangements keep -/
def k_A5 (σ : Nat → Nat → Int) : Prop := 0 ≤ σ 18 5 ∧ σ 18 5 ≤ 2147483647
theorem u_car_18 {p s : Int} : u_car σ p s 18 = σ 18 := u_car_far (Or.inr (by decide))
theorem k_A5_abest (hI : k_Ty σ) (hA : k_Ar σ) : k_A5 (u_abest σ) := by
  have h := (f_abest_ok hI hA).2.2.2
  have e : u_abest σ 18 5 = (f_abest σ).2.2.2 := by
    unfold u_abest g_putA
    rw [k_up_same]
    exact if_pos rfl
  unfold k_A5
  rw [e]
  exact h
theorem k_A5_atry (hI : k_Ty σ) (hA : k_Ar σ) (h5 : k_A5 σ) : k_A5 (u_atry σ) := by
  have h := (f_atry_ok hI hA h5).2.2.2.2
  have e : u_atry σ 18 5 = (f_atry σ).2.2.2.2 := by
    unfold u_atry g_putA
    rw [k_up_same]
    exact if_pos rfl
  unfold k_A5
  rw [e]
  exact h
theorem k_A5_of (h : k_A5 σ) (e : τ 18 = σ 18) : k_A5 τ := by
  unfold k_A5 at h ⊢
  rw [e]
  exact h
theorem k_A5_perf (hI : k_Ty σ) (hA : k_Ar σ) (h5 : k_A5 σ) {m a b c : Int} (hm : 0 ≤ m ∧ m < 12) : k_A5 (u_perf σ m a b c) := by
  have : m = 0 ∨ m = 1 ∨ m = 2 ∨ m = 3 ∨ m = 4 ∨ m = 5 ∨ m = 6 ∨ m = 7 ∨ m = 8 ∨ m = 9 ∨ m = 10 ∨ m = 11 := by omega
  rcases this with rfl | rfl | rfl | rfl | rfl | rfl | rfl | rfl | rfl | rfl | rfl | rfl
  · refine k_A5_of h5 ?_
    show u_newSubject σ a 18 = σ 18
    unfold u_newSubject
    rw [k_up_ne (by decide), k_up_ne (by decide)]
  · exact k_A5_of h5 (k_up_ne (by decide))
  · exact k_A5_of h5 (k_up_ne (by decide))
  · exact k_A5_of h5 (k_up_ne (by decide))
  · refine k_A5_of h5 ?_
    show u_newPupil σ 18 = σ 18
    unfold u_newPupil
    rw [k_up_ne (by decide), k_up_ne (by decide)]
  · refine k_A5_of h5 ?_
    show u_newWish σ a b 18 = σ 18
    unfold u_newWish
    rw [k_up_ne (by decide), k_up_ne (by decide)]
  · exact k_A5_of h5 (k_up_ne (by decide))
  · exact k_A5_of h5 (u_give_far _ (by decide))
  · exact k_A5_of h5 u_car_18
  · exact k_A5_of h5 (u_leave_ne (by decide))
  · exact k_A5_of h5 (u_car_18.trans (u_leave_ne (by decide)))
  · refine k_A5_of (k_A5_abest hI hA) ?_
    show u_arr σ 18 = u_abest σ 18
    unfold u_arr u_arrN
    exact k_up_ne (by decide)
theorem k_A5_fault (h5 : k_A5 σ) (m a b c : Int) : k_A5 (u_fault σ m a b c) := by
  have : ∀ i, i = 18 → u_fault σ m a b c i = σ i := fun i hi => u_fault_ne m a b c (by omega)
  exact k_A5_of h5 (this 18 rfl)
/-- refs that stand in cells -/
def p_ST (σ : Nat → Nat → Int) : Prop := σ 117 0 = 118 ∧ σ 121 0 = 122 ∧ ∀ j, 8 ≤ j → σ 25 j = 0
/-- what holds between two calls -/
def p_J (σ : Nat → Nat → Int) : Prop := (k_OK σ ∧ k_Fc σ ∧ k_A5 σ ∧ p_ST σ) ∧ (∃ r, k_P1 r σ) ∧ p_SZ σ
theorem p_J_of (h : p_J σ) (e : ∀ i, i < 10 ∨ 18 ≤ i → i < 123 → τ i = σ i) (hS : k_Sc τ) (hC : k_Ch τ) : p_J τ := by
  obtain ⟨⟨⟨o1, -, -, o4, o5⟩, hF, h5, s1, s2, s3⟩, ⟨r, hr⟩, hZ⟩ := h
  have hp : k_PlEq τ σ := fun i hi => e i (Or.inl hi) (by omega)
  refine ⟨⟨⟨hp.ty o1, hS, hC, k_Ar_of o4 (e 19 (by omega) (by omega)) (e 20 (by omega) (by omega)) (e 21 (by omega) (by omega)) (e 22 (by omega) (by omega)), k_Hi_of o5 (e 24 (by omega) (by omega)) (e 25 (by omega) (by omega))⟩, ?_, k_A5_of h5 (e 18 (by omega) (by omega)), ?_, ?_, fun j hj => ?_⟩, ⟨r, k_P1_pl hp hr⟩, p_SZ_pl hp hZ⟩
  · unfold k_Fc at hF ⊢
    rw [e 0 (by omega) (by omega), e 23 (by omega) (by omega)]
    exact hF
  · rw [e 117 (by omega) (by omega)]
    exact s1
  · rw [e 121 (by omega) (by omega)]
    exact s2
  · rw [e 25 (by omega) (by omega)]
    exact s3 j hj
theorem p_J_cong (h : p_J σ) (e : ∀ i, i < 123 → τ i = σ i) : p_J τ := p_J_of h (fun i _ hi => e i hi) (k_Sc_of h.1.1.2.1 (e 11 (by omega)) (e 12 (by omega)) (e 13 (by omega))) (k_Ch_of h.1.1.2.2.1 (e 15 (by omega)) (e 16 (by omega)) (e 17 (by omega)))
/-- the searches' own cells alone have changed -/
def p_Q (τ σ : Nat → Nat → Int) : Prop := (∀ i, i < 10 ∨ 18 ≤ i → τ i = σ i) ∧ p_J τ
theorem p_Q_rf (h : p_J σ) : p_Q σ σ := ⟨fun _ _ => rfl, h⟩
theorem p_Q_tr (h1 : p_Q υ τ) (h2 : p_Q τ σ) : p_Q υ σ := ⟨fun i hi => (h1.1 i hi).trans (h2.1 i hi), h1.2⟩
theorem p_Q.pl (h : p_Q τ σ) : k_PlEq τ σ := fun i hi => h.1 i (Or.inl hi)
theorem p_Q_of (h : p_J σ) (e : ∀ i, i < 10 ∨ 18 ≤ i → τ i = σ i) (hS : k_Sc τ) (hC : k_Ch τ) : p_Q τ σ := ⟨e, p_J_of h (fun i hi _ => e i hi) hS hC⟩
theorem p_Q_best (h : p_J σ) (p : Int) : p_Q (u_best (u_roomy σ p)) σ := by
  obtain ⟨⟨⟨o1, o2, o3, o4, o5⟩, -⟩, -⟩ := id h
  have e : ∀ i, i < 10 ∨ 14 ≤ i → u_best (u_roomy σ p) i = σ i := fun i hi => by
    unfold u_best g_put u_roomy
    rw [k_up_ne (by omega), k_up_ne (by omega), k_up_ne (by omega), k_up_ne (by omega), k_up_ne (by omega)]
  exact p_Q_of h (fun i hi => e i (by omega)) (u_best_sc (u_roomy_sc o1 o2 p)) (k_Ch_of o3 (e 15 (by omega)) (e 16 (by omega)) (e 17 (by omega)))
theorem p_Q_roomy (h : p_J σ) (p : Int) : p_Q (u_roomy σ p) σ := by
  obtain ⟨⟨⟨o1, o2, o3, o4, o5⟩, -⟩, -⟩ := id h
  have e : ∀ i, i < 10 ∨ 14 ≤ i → u_roomy σ p i = σ i := fun i hi => by
    unfold u_roomy
    rw [k_up_ne (by omega), k_up_ne (by omega)]
  exact p_Q_of h (fun i hi => e i (by omega)) (u_roomy_sc o1 o2 p) (k_Ch_of o3 (e 15 (by omega)) (e 16 (by omega)) (e 17 (by omega)))
theorem p_Q_open (h : p_J σ) (p : Int) (n : Nat) : p_Q (u_open σ p n) σ := by
  obtain ⟨⟨⟨o1, o2, o3, o4, o5⟩, -⟩, -⟩ := id h
  have e : ∀ i, i < 10 ∨ 14 ≤ i → u_open σ p n i = σ i := fun i hi => by
    unfold u_open
    rw [k_up_ne (by omega)]
  exact p_Q_of h (fun i hi => e i (by omega)) (u_open_sc o1 o2 p n) (k_Ch_of o3 (e 15 (by omega)) (e 16 (by omega)) (e 17 (by omega)))
theorem p_Q_few (h : p_J σ) (s : Int) : p_Q (u_few σ s) σ := by
  obtain ⟨⟨⟨o1, o2, o3, o4, o5⟩, -⟩, -⟩ := id h
  exact p_Q_of h (fun i hi => u_few_far (by omega)) (k_Sc_of o2 (u_few_far (by omega)) (u_few_far (by omega)) (u_few_far (by omega))) (u_fewN_ch o1 o3 s 3 (by decide))
/-! the twelve changes -/
theorem p_row (hOK : k_OK σ) (hR : k_P1 r σ) {m a b c : Int} (hm : 0 ≤ m ∧ m < 12) : (e_fault σ m a b c = 0 → k_chg σ m a b c) ∧ ∃ r', k_P1 r' (u_make σ m a b c) := by
  obtain ⟨-, h⟩ := q_make (ρ := fun i => if i = 124 then r else fun _ => 0) (σ := σ) hR hOK rfl (a := a) (b := b) (c := c) hm
  rcases h with ⟨h1, -, -⟩ | ⟨h1, -, h3, h4⟩
  · refine ⟨fun h => absurd h h1, r, ?_⟩
    have e : u_make σ m a b c = u_fault σ m a b c := if_neg h1
    rw [e]
    exact k_P1_pl (u_fault_pl m a b c) hR
  · exact ⟨fun _ => h3, _, h4⟩
theorem f_taken_leave {q s b p c : Int} (hI : k_Ty τ) (hne : c ≠ s) : f_taken (u_leave τ q s b) p c = f_taken τ p c := by
  have hS := hI.1
  have hB := hI.2.1
  unfold f_taken
  rw [u_leave_ne (i := 1) (by decide)]
  refine z_first_cong _ fun j hj => ?_
  by_cases w : (0 ≤ s ∧ s < τ 1 0) ∧ (0 ≤ b ∧ b < τ 1 1)
  · by_cases v : (0 ≤ c ∧ c < 7) ∧ (0 ≤ (j : Int) ∧ (j : Int) < 4)
    · rw [r_leave w.1 (by omega) w.2 (by omega) v.1 v.2, if_neg (fun y => hne y.1)]
    · have f0 : ∀ τ' : Nat → Nat → Int, f_roster τ' c (j : Int) = 0 := fun τ' => if_neg v
      rw [f0, f0]
  · have e0 : u_leave τ q s b = τ := if_neg w
    rw [e0]
theorem p_SZ_new (hR : k_P1 r σ) (hI : k_Ty σ) {z : Int} (hz : 0 ≤ z) (hZ : p_SZ σ) : p_SZ (u_newSubject σ z) := fun s b h0 h1 b0 b1 => by
  have hS := hI.1
  have e1 : u_newSubject σ z 1 0 = σ 1 0 + 1 := rfl
  rw [e1] at h1
  have e2 : u_newSubject σ z 2 s.toNat = if s.toNat = (σ 1 0).toNat then z else σ 2 s.toNat := rfl
  have e4 : f_roster (u_newSubject σ z) s b = f_roster σ s b := rfl
  rw [e2, e4]
  by_cases q : s = σ 1 0
  · rw [if_pos (by rw [q])]
    have : z_cnt (f_roster σ s b) = 0 := z_cntn_0 16 fun j hj => by
      cases hb : z_bit (f_roster σ s b) (j : Int) with
      | false => rfl
      | true =>
        have := (q_bitS hR (p := (j : Int)) (by omega) hb).1.1
        omega
    omega
  · rw [if_neg (by omega)]
    exact hZ s b h0 (by omega) b0 b1
theorem p_SZ_same (hZ : p_SZ σ) (h4 : τ 4 = σ 4) (h2 : τ 2 = σ 2) (h1 : τ 1 0 = σ 1 0) : p_SZ τ := fun s b s0 s1 b0 b1 => by
  rw [h1] at s1
  have e : f_roster τ s b = f_roster σ s b := by
    unfold f_roster
    rw [h4]
  rw [e, h2]
  exact hZ s b s0 s1 b0 b1
theorem p_SZ_join (hR : k_P1 r σ) (hI : k_Ty σ) (hC : k_Ch σ) (hZ : p_SZ σ) {p s : Int} (hp : 0 ≤ p ∧ p < σ 1 2) (hs : 0 ≤ s ∧ s < σ 1 0) (hno : f_taken σ p s = -1) (hne : f_few σ s (f_free σ p) ≠ -1) : p_SZ (u_car σ p s) := by
  obtain ⟨m, e, x0, h⟩ := q_carX (ρ := fun i => if i = 124 then r else fun _ => 0) (σ := σ) hR hI hC hp hs hno hne
  exact p_SZ_car (r := r) hR hI hp hs h hZ
theorem p_SZ_perf (hR : k_P1 r σ) (hOK : k_OK σ) (hZ : p_SZ σ) {m a b c : Int} (hm : 0 ≤ m ∧ m < 11) (h0 : e_fault σ m a b c = 0) (hch : m = 10 → f_few (u_quit σ a b) c (f_free (u_quit σ a b) a) ≠ -1) : p_SZ (u_perf σ m a b c) := by
  obtain ⟨hI, hS, hC, hA, hH⟩ := id hOK
  have hPu := hI.2.2.1
  have : m = 0 ∨ m = 1 ∨ m = 2 ∨ m = 3 ∨ m = 4 ∨ m = 5 ∨ m = 6 ∨ m = 7 ∨ m = 8 ∨ m = 9 ∨ m = 10 := by omega
  rcases this with rfl | rfl | rfl | rfl | rfl | rfl | rfl | rfl | rfl | rfl | rfl
  · exact p_SZ_new hR hI (by have := (e_subject_0 (show e_subject σ a = 0 from h0)).1; omega) hZ
  · exact p_SZ_same hZ rfl rfl rfl
  · exact p_SZ_same hZ rfl rfl rfl
  · exact p_SZ_same hZ rfl rfl rfl
  · exact p_SZ_same hZ rfl rfl rfl
  · exact p_SZ_same hZ rfl rfl rfl
  · exact p_SZ_same hZ rfl rfl rfl
  · exact p_SZ_give hR hI (e_enrol_0 (show e_enrol σ a = 0 from h0)).1 hZ
  · obtain ⟨j1, j2⟩ := e_join_0 (show e_join σ a b = 0 from h0)
    have j3 := e_joiner_0 j1
    have j4 : f_taken σ a b = -1 := by
      unfold e_joiner at j1
      rw [if_pos j3] at j1
      by_cases q : f_taken σ a b = -1
      · exact q
      · rw [if_neg q] at j1
        exact absurd j1 (by decide)
    exact p_SZ_join hR hI hC hZ j3.1 j3.2 j4 j2
  · have := (e_quit_0 (show e_quit σ a b = 0 from h0)).1.1
    exact p_SZ_leave hI ⟨this.1, by omega⟩ hZ
  · obtain ⟨j1, j2⟩ := e_change_0 (show e_change σ a b c = 0 from h0)
    obtain ⟨⟨⟨j3, j4⟩, j5⟩, j6, j7⟩ := e_chg_0 j1
    have hne : c ≠ b := fun z => by rw [z] at j7; exact j6 j7
    have hq := (q_o_quit (ρ := fun i => if i = 124 then r else fun _ => 0) (σ := σ) hR hI a b).1
    have hq0 : e_quit σ a b = 0 := by
      unfold e_quit
      rw [if_pos ⟨j3, j4⟩, if_neg j6]
    rcases hq with ⟨hq, -⟩ | ⟨-, -, -, hq⟩
    · exact absurd hq0 hq
    · have hI2 : k_Ty (u_quit σ a b) := u_leave_ty hI
      have u1 : u_quit σ a b 1 = σ 1 := u_leave_ne (by decide)
      refine p_SZ_join hq hI2 (u_leave_ch hC) (p_SZ_leave hI ⟨j3.1, by omega⟩ hZ) (by rw [u1]; exact j3) (by rw [u1]; exact j5) ?_ (hch rfl)
      exact (f_taken_leave hI hne).trans j7
/-- a change keeps what holds, and leaves these cells -/
theorem p_make (hJ : p_J σ) {m a b c : Int} (hm : 0 ≤ m ∧ m < 11) : p_J (u_make σ m a b c) ∧ ∀ i, i = 0 ∨ i = 25 ∨ 98 ≤ i → u_make σ m a b c i = σ i := by
  obtain ⟨⟨hOK, hF, h5, s1, s2, s3⟩, ⟨r, hR⟩, hZ⟩ := id hJ
  obtain ⟨hch, r', hR'⟩ := p_row hOK hR (a := a) (b := b) (c := c) (m := m) (by omega)
  have hn := hOK.2.2.2.2.2.1
  have hfr : ∀ i, i = 0 ∨ i = 25 ∨ 98 ≤ i → u_make σ m a b c i = σ i := fun i hi => by
    unfold u_make
    split
    · rw [u_perf_far a b c (by omega) (by omega)]
      unfold u_kept
      have h23 : u_fault σ m a b c 24 = σ 24 := u_fault_ne m a b c (by decide)
      by_cases q : i = 25
      · subst q
        unfold u_keepB
        rw [h23, k_up_ne (by decide), u_copy_ne (by omega)]
        exact u_fault_ne m a b c (by decide)
      · rw [u_keepB_ne (by rw [h23]; exact hn) (by omega)]
        exact u_fault_ne m a b c (by omega)
    · exact u_fault_ne m a b c (by omega)
  have hf23 : 0 ≤ u_fault σ m a b c 23 4 ∧ u_fault σ m a b c 23 4 ≤ 4 := by
    have hs : ∀ s f : Int, 0 ≤ u_seek σ s f 23 4 ∧ u_seek σ s f 23 4 ≤ 4 := fun s f => by
      unfold u_seek
      split
      · have := f_reason_r σ s f
        rw [k_up_same]
        have e : k_u1 (σ 23) 4 (f_reason σ s f) 4 = f_reason σ s f := if_pos rfl
        rw [e]
        omega
      · rw [u_few_far (by decide)]
        exact hF.2.2.2.1
    refine u_fault_cases (P := fun τ => 0 ≤ τ 23 4 ∧ τ 23 4 ≤ 4) hF.2.2.2.1 ?_ ?_
    · unfold u_joinE
      split
      · exact hs _ _
      · exact hF.2.2.2.1
    · unfold u_changeE
      split
      · exact hs _ _
      · exact hF.2.2.2.1
  refine ⟨⟨⟨k_OK_make hOK (by omega) hch, ?_, ?_, ?_, ?_, fun j hj => ?_⟩, ⟨r', hR'⟩, ?_⟩, hfr⟩
  · have e23 : u_make σ m a b c 23 = u_fault σ m a b c 23 := by
      unfold u_make
      split
      · rw [u_perf_far a b c (by omega) (by omega)]
        unfold u_kept
        exact u_keepB_ne (by rw [u_fault_ne m a b c (i := 24) (by decide)]; exact hn) (by omega)
      · rfl
    unfold k_Fc
    rw [hfr 0 (by omega), e23]
    exact ⟨hF.1, hF.2.1, hF.2.2.1, hf23, hF.2.2.2.2⟩
  · unfold u_make
    split
    · rename_i h0
      have hk := k_OK_keep (B := 1) (k_OK_fault hOK m a b c)
      refine k_A5_perf hk.1 hk.2.2.2.1 ?_ (by omega)
      refine k_A5_of (k_A5_fault h5 m a b c) ?_
      exact u_keepB_ne (by rw [u_fault_ne m a b c (i := 24) (by decide)]; exact hn) (by omega)
    · exact k_A5_fault h5 m a b c
  · rw [hfr 117 (by omega)]
    exact s1
  · rw [hfr 121 (by omega)]
    exact s2
  · rw [hfr 25 (by omega)]
    exact s3 j hj
  · unfold u_make
    split
    · rename_i h0
      have hk := k_OK_keep (B := 1) (k_OK_fault hOK m a b c)
      have hpl : k_PlEq (u_kept σ m a b c) σ := (u_keepB_pl (by rw [u_fault_ne m a b c (i := 24) (by decide)]; exact hn)).trans (u_fault_pl m a b c)
      exact p_SZ_perf (k_P1_pl hpl hR) hk (p_SZ_pl hpl hZ) hm (by rw [hpl.fault]; exact h0) (hch h0)
    · exact p_SZ_pl (u_fault_pl m a b c) hZ
theorem u_drop_ne (p : Int) {i : Nat} (hi : i ≠ 4) : u_drop σ p i = σ i := u_dropN_ne p _ hi
/-- withdrawing -/
theorem p_withdraw (hJ : p_J σ) {p : Int} : p_J (if e_withdraw σ p = 0 then u_drop (u_kep σ) p else σ) ∧ ∀ i, i = 0 ∨ i = 25 ∨ 98 ≤ i → (if e_withdraw σ p = 0 then u_drop (u_kep σ) p else σ) i = σ i := by
  obtain ⟨⟨hOK, hF, h5, s1, s2, s3⟩, ⟨r, hR⟩, hZ⟩ := id hJ
  have hn := hOK.2.2.2.2.2.1
  have hPu := hOK.1.2.2.1
  have hok := k_OK_withdraw hOK (p := p)
  by_cases q : e_withdraw σ p = 0
  · rw [if_pos q] at hok ⊢
    obtain ⟨hp, -⟩ := e_withdraw_0 q
    have hpl : k_PlEq (u_kep σ) σ := k_kep_pl hOK.2.2.2.2
    have hI2 := hpl.ty hOK.1
    have hfr : ∀ i, i = 0 ∨ i = 25 ∨ 98 ≤ i → u_drop (u_kep σ) p i = σ i := fun i hi => by
      rw [u_drop_ne p (by omega)]
      by_cases w : i = 25
      · subst w
        unfold u_kep u_keepB
        rw [k_up_ne (by decide), u_copy_ne (by omega)]
      · exact u_keepB_ne hn (by omega)
    have e18 : u_drop (u_kep σ) p 18 = σ 18 := (u_drop_ne p (by decide)).trans (u_keepB_ne hn (by omega))
    have e23 : u_drop (u_kep σ) p 23 = σ 23 := (u_drop_ne p (by decide)).trans (u_keepB_ne hn (by omega))
    refine ⟨⟨⟨hok, ?_, k_A5_of h5 e18, ?_, ?_, fun j hj => ?_⟩, ?_, ?_⟩, hfr⟩
    · unfold k_Fc
      rw [hfr 0 (by omega), e23]
      exact hF
    · rw [hfr 117 (by omega)]
      exact s1
    · rw [hfr 121 (by omega)]
      exact s2
    · rw [hfr 25 (by omega)]
      exact s3 j hj
    · exact ⟨_, q_drop (k_P1_pl hpl hR) hI2 (by rw [hpl.c1]; exact hp)⟩
    · exact p_SZ_drop hI2 ⟨hp.1, by omega⟩ (p_SZ_pl hpl hZ)
  · rw [if_neg q]
    exact ⟨hJ, fun _ _ => rfl⟩
/-- what was made is undone -/
theorem p_undo (hJ : p_J σ) {m a b c : Int} (hm : 0 ≤ m ∧ m < 11) (h0 : e_fault σ m a b c = 0) (hτ : ∀ i, i < 98 → τ i = u_make σ m a b c i) (h1 : ∀ j, j ≠ 0 → j ≠ 1 → j ≠ 2 → j ≠ 9 → u_make σ m a b c 1 j = σ 1 j) (hJτ : p_J τ) : 0 < τ 24 2 ∧ k_PlEq (u_back τ) σ ∧ p_J (u_back τ) ∧ 0 ≤ u_back τ 24 2 ∧ u_back τ 24 2 ≤ 8 ∧ ∀ i, 98 ≤ i → u_back τ i = τ i := by
  obtain ⟨⟨hOK, hF, h5, s1, s2, s3⟩, ⟨r, hR⟩, hZ⟩ := id hJ
  obtain ⟨⟨hOKτ, hFτ, h5τ, t1, t2, t3⟩, -, -⟩ := hJτ
  have hn := hOK.2.2.2.2.2.1
  have hc := hOK.2.2.2.2.2.2
  have hpl : k_PlEq (u_fault σ m a b c) σ := u_fault_pl m a b c
  have f24 : u_fault σ m a b c 24 = σ 24 := u_fault_ne m a b c (by decide)
  have em : u_make σ m a b c = u_perf (u_kept σ m a b c) m a b c := if_pos h0
  have e24 : τ 24 = k_u1 (k_u1 (σ 24) 1 (if σ 24 1 + 1 < 8 then σ 24 1 + 1 else 0)) 2 (z_min (σ 24 2 + 1) 8) := by
    rw [hτ 24 (by decide), em, u_perf_far a b c (by omega) (by omega)]
    unfold u_kept u_keepB
    rw [f24, k_up_same]
  have e241 : τ 24 1 = if σ 24 1 + 1 < 8 then σ 24 1 + 1 else 0 := by
    rw [e24]
    rfl
  have e242 : τ 24 2 = z_min (σ 24 2 + 1) 8 := by
    rw [e24]
    rfl
  have hlast : u_last τ = σ 24 1 := by
    unfold u_last
    rw [e241]
    (repeat' split) <;> omega
  have hpos : 0 < τ 24 2 ∧ τ 24 2 ≤ 8 := by
    rw [e242]
    unfold z_min
    split <;> omega
  have hslot : ∀ i, 26 + 9 * (σ 24 1).toNat ≤ i → i < 26 + 9 * (σ 24 1).toNat + 9 → τ i = u_copy (u_fault σ m a b c) (26 + 9 * (σ 24 1).toNat) 1 i := fun i i0 i1 => by
    rw [hτ i (by omega), em, u_perf_far a b c (by omega) (by omega)]
    unfold u_kept u_keepB
    rw [f24, k_up_ne (by omega)]
  have hback : ∀ i, i < 10 → u_back τ i = σ i := fun i hi => by
    unfold u_back
    rw [k_up_ne (by omega), hlast]
    unfold u_copy
    by_cases q1 : i = 1
    · subst q1
      rw [if_pos rfl]
      funext j
      have hs := hslot (26 + 9 * (σ 24 1).toNat) (Nat.le_refl _) (by omega)
      have hv : u_copy (u_fault σ m a b c) (26 + 9 * (σ 24 1).toNat) 1 (26 + 9 * (σ 24 1).toNat) = fun j => if j = 0 ∨ j = 1 ∨ j = 2 ∨ j = 9 then u_fault σ m a b c 1 j else u_fault σ m a b c (26 + 9 * (σ 24 1).toNat) j := by
        unfold u_copy
        rw [if_pos rfl]
      by_cases q : j = 0 ∨ j = 1 ∨ j = 2 ∨ j = 9
      · rw [if_pos q, hs, hv]
        show (if j = 0 ∨ j = 1 ∨ j = 2 ∨ j = 9 then u_fault σ m a b c 1 j else _) = _
        rw [if_pos q, hpl 1 (by decide)]
      · rw [if_neg q, hτ 1 (by decide)]
        exact h1 j (by omega) (by omega) (by omega) (by omega)
    · rw [if_neg q1]
      by_cases q2 : 1 < i ∧ i < 1 + 9
      · rw [if_pos q2, hslot _ (by omega) (by omega)]
        unfold u_copy
        rw [if_neg (by omega), if_pos (by omega), show i - 1 + (26 + 9 * (σ 24 1).toNat) - (26 + 9 * (σ 24 1).toNat) + 1 = i by omega]
        exact hpl i hi
      · rw [if_neg q2]
        have : i = 0 := by omega
        subst this
        have := (p_make hJ hm (a := a) (b := b) (c := c)).2 0 (Or.inl rfl)
        rw [hτ 0 (by decide)]
        exact this
  have hfar : ∀ i, 10 ≤ i → i ≠ 24 → u_back τ i = τ i := fun i hi h => u_back_ne (Or.inr hi) h
  have e2 : u_back τ 24 2 = τ 24 2 - 1 := by
    rw [u_back_24]
    rfl
  have e1 : u_back τ 24 1 = u_last τ := by
    rw [u_back_24]
    rfl
  refine ⟨hpos.1, hback, ⟨⟨⟨k_PlEq.ty hback hOK.1, k_Sc_of hOKτ.2.1 (hfar 11 (by decide) (by decide)) (hfar 12 (by decide) (by decide)) (hfar 13 (by decide) (by decide)), k_Ch_of hOKτ.2.2.1 (hfar 15 (by decide) (by decide)) (hfar 16 (by decide) (by decide)) (hfar 17 (by decide) (by decide)), k_Ar_of hOKτ.2.2.2.1 (hfar 19 (by decide) (by decide)) (hfar 20 (by decide) (by decide)) (hfar 21 (by decide) (by decide)) (hfar 22 (by decide) (by decide)), fun j hj => ?_, ?_, ?_⟩, ?_, k_A5_of h5τ (hfar 18 (by decide) (by decide)), ?_, ?_, fun j hj => ?_⟩, ⟨r, k_P1_pl hback hR⟩, p_SZ_pl hback hZ⟩, ?_, ?_, fun i hi => hfar i (by omega) (by omega)⟩
  · rw [hfar 25 (by decide) (by decide)]
    exact hOKτ.2.2.2.2.1 j hj
  · rw [e1, hlast]
    exact hn
  · rw [e2]
    omega
  · unfold k_Fc at hF hFτ ⊢
    rw [hback 0 (by decide), hfar 23 (by decide) (by decide)]
    exact ⟨hF.1, hF.2.1, hF.2.2.1, hFτ.2.2.2.1, hF.2.2.2.2⟩
  · rw [hfar 117 (by decide) (by decide)]
    exact t1
  · rw [hfar 121 (by decide) (by decide)]
    exact t2
  · rw [hfar 25 (by decide) (by decide)]
    exact t3 j hj
  · rw [e2]
    omega
  · rw [e2]
    omega
/-- the least clashes by both ways -/
theorem p_J_abest (hJ : p_J σ) : p_J (u_abest σ) := by
  obtain ⟨⟨hOK, hF, h5, s1, s2, s3⟩, ⟨r, hR⟩, hZ⟩ := id hJ
  have e : ∀ i, i < 18 ∨ 23 ≤ i → u_abest σ i = σ i := fun i hi => by
    unfold u_abest g_putA u_comm
    rw [k_up_ne (by omega), k_up_ne (by omega), k_up_ne (by omega), k_up_ne (by omega), k_up_ne (by omega)]
  have hp : k_PlEq (u_abest σ) σ := fun i hi => e i (by omega)
  refine ⟨⟨⟨hp.ty hOK.1, k_Sc_of hOK.2.1 (e 11 (by omega)) (e 12 (by omega)) (e 13 (by omega)), k_Ch_of hOK.2.2.1 (e 15 (by omega)) (e 16 (by omega)) (e 17 (by omega)), ?_, k_Hi_of hOK.2.2.2.2 (e 24 (by omega)) (e 25 (by omega))⟩, ?_, k_A5_abest hOK.1 hOK.2.2.2.1, ?_, ?_, fun j hj => ?_⟩, ⟨r, k_P1_pl hp hR⟩, p_SZ_pl hp hZ⟩
  · exact u_abest_ar hOK.1 hOK.2.2.2.1
  · unfold k_Fc
    rw [e 0 (by omega), e 23 (by omega)]
    exact hF
  · rw [e 117 (by omega)]
    exact s1
  · rw [e 121 (by omega)]
    exact s2
  · rw [e 25 (by omega)]
    exact s3 j hj
end P_E
