/-! ===== writeTimetable, type, execute: a step each ===== -/
section K_SE5
variable {E : k_E} {M7 ML M8 : k_M} {sh sh' : List k_Sh} {σ ρ τ υ : Nat → Nat → Int} {v w : Nat} {as : List Value}
theorem stp_gen2 {v' w' D d8 k1 n1 : Nat} {tbl : List String} {r : Option Value ⊕ String} {m : (Nat → Nat → Int) → Int × (Nat → Nat → Int)} (hIm : k_Im σ) (hG' : k_Gr sh' v' w') (hτ : ∀ i, 123 ≤ i → i ≤ 140 → τ i = σ i) (hsp : k_Sp tbl r) (hl : tbl.length ≤ 3) (hC : k_Sp tbl r → k_C E ML D (.ref 0 :: (as ++ [.ref 141])) sh σ k1 n1 (k_ret (some (.int (iI (w_code tbl r)))) sh' (w_out r τ))) (hb : D ≤ 20 ∧ d8 ≤ 20 ∧ k1 ≤ 1 ∧ n1 ≤ 142)
    (h8 : k_MA (w_out r τ) → k_C E M8 d8 (.ref 123 :: as) sh' (w_out r τ) 0 0 (k_pP sh' k_RV (m (w_out r τ)))) (hfin : ∀ ρ : Nat → Nat → Int, (∀ i, i ≠ 141 → ρ i = τ i) → k_RV (m ρ) → k_ag tbl r (m ρ).1 ((m ρ).2 123 7) ∧ k_Ic sh' v' w' τ ∧ k_Ir v' τ (m ρ).2) (hfr : ∀ ρ : Nat → Nat → Int, (∀ i, i ≠ 141 → ρ i = τ i) → ∀ i : Nat, i < 123 ∨ i = 137 ∨ 140 < i → (m ρ).2 i = ρ i) : k_Stp E k_Inv ML M8 as k_r sh σ := by
  have hne : ∀ i, i ≠ 141 → w_out r τ i = τ i := fun i hi => w_out_ne hi
  have hM : k_MA (w_out r τ) := k_MA_cong hIm.1 fun i h1 h2 => (hne i (by omega)).trans (hτ i h1 h2)
  refine ⟨D, d8, k1, n1, sh', w_out r τ, w_code tbl r, (m (w_out r τ)).1, (m (w_out r τ)).2, k_RV (m (w_out r τ)), hb, k_Gr_main hG', hC hsp, h8 hM, fun hR => ?_⟩
  obtain ⟨f1, f2, f3⟩ := hfin (w_out r τ) hne hR
  have hv := k_Gr_v hG'
  have f4 : k_Inv sh' (m (w_out r τ)).2 := k_Inv_of hIm f2 f3 hR.2 ((hfr _ hne 137 (by omega)).trans ((hne 137 (by omega)).trans (hτ 137 (by omega) (by omega)))) (fun i hi => (hfr _ hne i (by omega)).trans (hne i (by omega)))
  have hr1 := hR.1
  have e141 : (m (w_out r τ)).2 141 0 = w_out r τ 141 0 := by rw [hfr _ hne 141 (by omega)]
  rcases f1 with ⟨x, rfl, y1, y2⟩ | ⟨X, y0, rfl, y1⟩
  · refine ⟨by rw [y2, w_code_l], by rw [w_code_l]; decide, fun _ => ?_, by show k_r _; omega, f4⟩
    rw [e141, ← y1]
    show k_up τ 141 (k_u1 (τ 141) 0 x.toInt) 141 0 = x.toInt
    rw [k_up_same]
    exact if_pos rfl
  · have hw := w_code_r tbl X
    have hw2 := hw.2 y0
    exact ⟨y1, by omega, fun y => by omega, by show k_r _; omega, f4⟩
theorem k_In3.pj (h : k_In3 sh v w σ) : k_PJ sh σ v w := h.ic.2.2.2.1
theorem k_In3.sb (h : k_In3 sh v w σ) : k_SB sh σ 117 v w := (k_PJ_un h.pj).1
theorem k_In3.vv (h : k_In3 sh v w σ) : (118 ≤ v ∧ v ≠ 119 ∧ v ≠ 120 ∧ v ≠ 121 ∧ v ≠ 122 ∧ (v < 123 ∨ 142 < v)) ∧ (v < sh.length ∧ 143 ≤ sh.length ∧ sh.length < 900000) ∧ (w ≤ 99 ∧ 16 ≤ w) := k_Gr_v h.ic.1
theorem m_wt_far (ρ : Nat → Nat → Int) (p : Int) {i : Nat} (h1 : i ≠ 123) (h2 : i ≠ 129) : (m_writeTimetable ρ p).2 i = ρ i := by
  unfold m_writeTimetable r_writeTimetable_57 r_writeTimetable_57_2
  split
  · split
    · dsimp only
      rw [k_up_ne h2, k_up_ne h1]
    · dsimp only
      rw [k_up_ne h2, k_up_ne h1]
  · exact k_up_ne h1
theorem st_writeTimetable (hI : k_In3 sh v w σ) {p : Int} (hp : -2147483648 ≤ p ∧ p < 2147483648) : k_Stp E k_Inv mL_writeTimetable mX8_writeTimetable [.int (iI p)] k_r sh σ := by
  have hv := hI.vv.1
  have hB := hI.ty.2.1
  have hsb := hI.lb.1
  have h12 := hI.ty.2.2.1
  have hfar : (∀ i, i ≠ 121 → i ≠ 122 → (if 0 ≤ p ∧ p < σ 1 2 then g_tt σ p (σ 1 1).toNat else σ) i = σ i) ∧ k_LB sh (if 0 ≤ p ∧ p < σ 1 2 then g_tt σ p (σ 1 1).toNat else σ) 16 := by
    split
    · have h := g_tt_ok (p := p) hsb (by omega) (fun b => by have h1 := f_lesson_r hI.ty p b; have h2 := hI.ty.1; omega) (σ 1 1).toNat (by omega)
      exact ⟨fun i a b => h.2 i ⟨a, b⟩, k_LB_le h.1 (by omega)⟩
    · exact ⟨fun _ _ _ => rfl, hI.lb⟩
  generalize hτ : (if 0 ≤ p ∧ p < σ 1 2 then g_tt σ p (σ 1 1).toNat else σ) = τ at hfar
  obtain ⟨hfar, hLB⟩ := hfar
  refine stp_gen2 (τ := τ) (v' := v) (w' := w) (tbl := [x_io]) (m := fun ρ => m_writeTimetable ρ p) hI.im hI.ic.1 (fun i h1 _ => hfar i (by omega) (by omega)) ?_ (by decide) (fun hsp => cw_writeTimetable hI.main hI.main (hτ ▸ c7_writeTimetable hI.main hI.ty hsb hp) (sp1 hsp)) ⟨by decide, by decide, by decide, by decide⟩ (fun hM => c8_writeTimetable hI.main hM hp) (fun ρ hρ hR => ?_) (fun ρ _ i hi => m_wt_far ρ p (by omega) (by omega))
  · split
    · exact Or.inl ⟨_, rfl⟩
    · exact Or.inr ⟨_, List.mem_cons_self, rfl⟩
  · have hir := hI.ir2 (ρ := ρ) fun i h1 _ => (hρ i (by omega)).trans (hfar i (by omega) (by omega))
    obtain ⟨q1, q2, q3, q4⟩ := q_a_writeTimetable hir.1.1 hI.ty hir.2.1 (p := p) hR.1
    rw [hτ] at q2
    refine ⟨q1, ⟨hI.ic.1, k_OK_107 hI.ok fun i hi => hfar i (by omega) (by omega), k_A5_of hI.a5 (hfar 18 (by decide) (by decide)), ?_, hLB, fun j hj => by rw [hfar 25 (by decide) (by decide)]; exact hI.ic.2.2.2.2.2 j hj⟩, ?_, q2, ?_, ?_⟩
    · obtain ⟨b0, b1, b2, b3⟩ := k_PJ_un hI.pj
      exact k_PJ_mk (k_SB_of b0 (hfar 117 (by decide) (by decide)) (hfar v (by omega) (by omega))) (by rw [hfar 120 (by decide) (by decide)]; exact b1) (by rw [hfar 119 (by decide) (by decide)]; exact b2) b3
    · exact k_Rel_cong hir.1 hI.ok.2.2.2.2 (fun i _ _ => hfar i (by omega) (by omega)) (fun i _ _ => hfar i (by omega) (by omega)) (by rw [hfar 0 (by decide) (by decide)]) (q3 5 (by decide) (by decide)) (q3 6 (by decide) (by decide)) (q3 9 (by decide) (by decide)) (q4 124 (by decide) (by decide)) (q4 126 (by decide) (by decide)) (q4 128 (by decide) (by decide))
    · exact k_Bf_cong hir.2.2.1 (hfar 117 (by decide) (by decide)) (hfar v (by omega) (by omega)) (q3 16 (by decide) (by decide)) (q4 130 (by decide) (by decide))
    · exact k_Nm_cong hir.2.2.2 (by rw [hfar 0 (by decide) (by decide)]) (by rw [hfar 0 (by decide) (by decide)]) (by rw [hfar 0 (by decide) (by decide)]) (q3 10 (by decide) (by decide)) (q3 11 (by decide) (by decide)) (q3 12 (by decide) (by decide))
theorem st_execute (hI : k_In3 sh v w σ) : k_Stp E k_Inv mL_execute mX8_execute [] k_r sh σ := by
  have hv := hI.vv.1
  obtain ⟨hX, hag, -, -, -, -, -, ⟨f1, f2, f3, f4, f5⟩, -⟩ := q_execute hI.ok hI.a5 hI.pj hv.1 hI.ir.2.2.1 hI.ir.1 hI.ir.2.2.2
  refine stp_gen2 (τ := (g_exe σ v).2) (v' := v) (w' := w) (tbl := [x_ia, x_is]) (m := fun ρ => m_execute ρ) hI.im hI.ic.1 (fun i h1 _ => f1 i (by omega) (by omega) (by omega)) (sp_ag hag) (by decide) (fun hsp => cw_execute hI.main hI.main (c7_execute2 hI.main hI.pj hX) (sp2 hsp)) ⟨by decide, by decide, by decide, by decide⟩ (fun hM => c8_execute hI.main hM fun f hf => ?_) (fun ρ hρ hR => ?_) (fun ρ hρ i hi => ?_)
  · rw [w_out_ne (by decide), f1 137 (by decide) (by decide) (by decide)]
    exact hI.im.2.1 f hf
  · have hir := hI.ir2 (ρ := ρ) fun i h1 _ => (hρ i (by omega)).trans (f1 i (by omega) (by omega) (by omega))
    obtain ⟨-, q1, q2, q3, q4, q5, q6, -, q7⟩ := q_execute hI.ok hI.a5 hI.pj hv.1 hir.2.2.1 hir.1 hir.2.2.2
    refine ⟨q1, ⟨hI.ic.1, q3, q4, q5, ⟨k_SB_of hI.lb.1 (f1 121 (by decide) (by decide) (by decide)) (f1 122 (by decide) (by decide) (by decide)), by rw [f1 121 (by decide) (by decide) (by decide)]; exact hI.lb.2⟩, fun j hj => by rw [f3]; exact hI.ic.2.2.2.2.2 j hj⟩, q2, ?_, ?_, q6⟩
    · exact k_Lr_cong hir.2.1 (f1 121 (by decide) (by decide) (by decide)) (f1 122 (by decide) (by decide) (by decide)) q7.2.2 (q7.1 129 (by omega))
    · refine ⟨⟨by rw [f5]; exact q7.2.1, by rw [f5]; decide⟩, fun j hj => ?_⟩
      rw [f5] at hj
      omega
  · have hir := hI.ir2 (ρ := ρ) fun i h1 _ => (hρ i (by omega)).trans (f1 i (by omega) (by omega) (by omega))
    obtain ⟨-, -, -, -, -, -, -, -, q7⟩ := q_execute hI.ok hI.a5 hI.pj hv.1 hir.2.2.1 hir.1 hir.2.2.2
    exact q7.1 i (by omega)
theorem m_type_far (ρ : Nat → Nat → Int) (c : Int) {i : Nat} (h1 : i ≠ 123) (h2 : i ≠ 130) : (m_type ρ c).2 i = ρ i := by
  unfold m_type
  (repeat' split)
  · exact k_up_ne h1
  · exact (k_up_ne h2).trans (k_up_ne h1)
  · exact k_up_ne h1
theorem k_SB_push {a v w : Nat} (h : k_SB sh σ a v w) (x : k_Sh) : k_SB (sh ++ [x]) σ a v w := by
  obtain ⟨h0, h1, h2⟩ := h
  have e : ∀ (i : Nat) (y : k_Sh), sh[i]? = some y → (sh ++ [x])[i]? = some y := fun i y hy => by
    rw [List.getElem?_append_left (List.getElem?_eq_some_iff.mp hy).1]
    exact hy
  exact ⟨e _ _ h0, e _ _ h1, h2⟩
theorem st_type (hI : k_In3 sh v w σ) {c : Int} (hc : 0 ≤ c ∧ c < 65536) : k_Stp E k_Inv mL_type mX8_type [.int (iI c)] k_r sh σ := by
  have hv := hI.vv.1
  have hr : -2147483648 ≤ c ∧ c < 2147483648 := by omega
  have hsb := hI.sb
  have hbf := hI.ir.2.2.1
  by_cases hin : 32 ≤ c ∧ c ≤ 126
  · by_cases hf : 60 ≤ σ 117 3
    · refine stp_gen2 (τ := σ) (v' := v) (w' := w) (tbl := [x_ia, x_is]) (r := .inr x_is) (m := fun ρ => m_type ρ c) hI.im hI.ic.1 (fun i _ _ => rfl) (Or.inr ⟨_, x_m2, rfl⟩) (by decide) (fun hsp => cw_type hI.main hI.main (c_typeFull hI.main hsb hr hin hf) (sp2 hsp)) ⟨by decide, by decide, by decide, by decide⟩ (fun hM => c8_type hI.main hM hc) (fun ρ hρ hR => ?_) (fun ρ _ i hi => m_type_far ρ c (by omega) (by omega))
      have hir := hI.ir2 (ρ := ρ) fun i h1 _ => hρ i (by omega)
      rw [q_type_full hir.2.2.1 hin hf]
      refine ⟨k_ag_x x_m2 ?_, stp_ir hI hI.ta hir fa_7⟩
      dsimp only
      rw [k_up_same, n_u1_eq]
      decide
    · have hb := hsb.2.2.2.1
      by_cases hw : σ 117 3 < w
      · have t117 : u_appC σ 117 v c 117 = k_u1 (σ 117) 3 (σ 117 3 + 1) := by
          unfold u_appC
          rw [k_up_ne (by omega), k_up_same]
        have tv : u_appC σ 117 v c v = k_u1 (σ v) (σ 117 3).toNat c := k_up_same
        have tne : ∀ i, i ≠ 117 → i ≠ v → u_appC σ 117 v c i = σ i := fun i a b => (k_up_ne b).trans (k_up_ne a)
        have hsb2 := k_SB_app hsb (c := c) (by omega) hw
        have h7 := c_typeIn (E := E) hI.main hsb hr hin (by omega) hw
        generalize u_appC σ 117 v c = τ at t117 tv tne hsb2 h7
        refine stp_gen2 (τ := τ) (v' := v) (w' := w) (tbl := [x_ia, x_is]) (r := .inl (some (.int (iI (σ 117 3 + 1))))) (m := fun ρ => m_type ρ c) hI.im hI.ic.1 (fun i h1 _ => tne i (by omega) (by omega)) (Or.inl ⟨_, rfl⟩) (by decide) (fun hsp => cw_type hI.main hI.main h7 (sp2 hsp)) ⟨by decide, by decide, by decide, by decide⟩ (fun hM => c8_type hI.main hM hc) (fun ρ hρ hR => ?_) (fun ρ _ i hi => m_type_far ρ c (by omega) (by omega))
        have hir := hI.ir2 (ρ := ρ) fun i h1 _ => (hρ i (by omega)).trans (tne i (by omega) (by omega))
        obtain ⟨q1, q2, q3, q4, q5⟩ := q_type_in (τ := τ) (v' := v) hir.2.2.1 hin (by omega) (by rw [t117]; exact n_u1_eq) (fun j hj => by rw [tv]; exact n_u1_ne (by omega)) (by rw [tv]; exact n_u1_eq)
        obtain ⟨b0, b1, b2, b3⟩ := k_PJ_un hI.pj
        refine ⟨?_, ⟨hI.ic.1, k_OK_107 hI.ok fun i hi => tne i (by omega) (by omega), k_A5_of hI.a5 (tne 18 (by decide) (by omega)), k_PJ_mk hsb2 (by rw [tne 120 (by decide) (by omega)]; exact b1) (by rw [tne 119 (by decide) (by omega)]; exact b2) b3, ⟨k_SB_of hI.lb.1 (tne 121 (by decide) (by omega)) (tne 122 (by decide) (by omega)), by rw [tne 121 (by decide) (by omega)]; exact hI.lb.2⟩, fun j hj => by rw [tne 25 (by decide) (by omega)]; exact hI.ic.2.2.2.2.2 j hj⟩, ?_, ?_, q3, ?_⟩
        · rw [q1, q2]
          exact k_ag_v (by omega) rfl
        · exact k_Rel_cong hir.1 hI.ok.2.2.2.2 (fun i _ _ => tne i (by omega) (by omega)) (fun i _ _ => tne i (by omega) (by omega)) (by rw [tne 0 (by decide) (by omega)]) (q4 5 (by decide) (by decide)) (q4 6 (by decide) (by decide)) (q4 9 (by decide) (by decide)) (q5 124 (by decide) (by decide)) (q5 126 (by decide) (by decide)) (q5 128 (by decide) (by decide))
        · exact k_Lr_cong hir.2.1 (tne 121 (by decide) (by omega)) (tne 122 (by decide) (by omega)) (q4 15 (by decide) (by decide)) (q5 129 (by decide) (by decide))
        · exact k_Nm_cong hir.2.2.2 (by rw [tne 0 (by decide) (by omega)]) (by rw [tne 0 (by decide) (by omega)]) (by rw [tne 0 (by decide) (by omega)]) (q4 10 (by decide) (by decide)) (q4 11 (by decide) (by decide)) (q4 12 (by decide) (by decide))
      · have ew : σ 117 3 = w := by omega
        have hN := hI.vv.2.1
        have hvl : v < sh.length ∧ 117 < sh.length := ⟨hN.1, by omega⟩
        have hsb1 := k_SB_gr hsb hN.2.2 hvl hI.vv.2.2.1 (sh ++ [.inl (2, 2 * w + 2)]) rfl
        have g3 : u_gr σ 117 sh.length v w 117 3 = σ 117 3 := u_gr_3 σ 117 sh.length v w
        have gN : u_gr σ 117 sh.length v w sh.length = fun j => if j < w then σ v j else 0 := by
          unfold u_gr u_grow
          rw [k_up_ne (by omega), k_up_same]
        have gne : ∀ i, i ≠ 117 → i ≠ sh.length → u_gr σ 117 sh.length v w i = σ i := fun i a b => (k_up_ne a).trans (k_up_ne b)
        have hsb2 := k_SB_app hsb1 (c := c) (by omega) (by rw [g3]; omega)
        have h7 := c_typeGrow (E := E) hI.main hsb hN.2.2 (k_Ic_ok hI.ic hI.im) hvl hI.vv.2.2.1 hr hin (by omega) ew
        have t117 : u_appC (u_gr σ 117 sh.length v w) 117 sh.length c 117 3 = σ 117 3 + 1 := by
          unfold u_appC
          rw [k_up_ne (by omega), k_up_same, n_u1_eq, g3]
        have tv : u_appC (u_gr σ 117 sh.length v w) 117 sh.length c sh.length = k_u1 (fun j => if j < w then σ v j else 0) (σ 117 3).toNat c := by
          unfold u_appC
          rw [k_up_same, gN, g3]
        have tne : ∀ i, i ≠ 117 → i ≠ sh.length → u_appC (u_gr σ 117 sh.length v w) 117 sh.length c i = σ i := fun i a b => ((k_up_ne b).trans (k_up_ne a)).trans (gne i a b)
        have hG' : k_Gr (sh ++ [.inl (2, 2 * w + 2)]) sh.length (2 * w + 2) := by
          rcases hI.ic.1 with ⟨rfl, -, rfl⟩ | ⟨rfl, -, rfl⟩ | ⟨-, -, rfl⟩
          · exact Or.inr (Or.inl ⟨rfl, k_shape_len, rfl⟩)
          · exact Or.inr (Or.inr ⟨rfl, by rw [List.length_append, k_shape_len]; rfl, rfl⟩)
          · omega
        generalize u_appC (u_gr σ 117 sh.length v w) 117 sh.length c = τ at t117 tv tne hsb2 h7
        have hw99 := hI.vv.2.2
        refine stp_gen2 (τ := τ) (v' := sh.length) (w' := 2 * w + 2) (tbl := [x_ia, x_is]) (r := .inl (some (.int (iI (σ 117 3 + 1))))) (m := fun ρ => m_type ρ c) hI.im hG' (fun i h1 _ => tne i (by omega) (by omega)) (Or.inl ⟨_, rfl⟩) (by decide) (fun hsp => cw_type hI.main (k_Gr_main hG') h7 (sp2 hsp)) ⟨by decide, by decide, by decide, by omega⟩ (fun hM => c8_type (k_Gr_main hG') hM hc) (fun ρ hρ hR => ?_) (fun ρ _ i hi => m_type_far ρ c (by omega) (by omega))
        have hir := hI.ir2 (ρ := ρ) fun i h1 _ => (hρ i (by omega)).trans (tne i (by omega) (by omega))
        obtain ⟨q1, q2, q3, q4, q5⟩ := q_type_in (τ := τ) (v' := sh.length) hir.2.2.1 hin (by omega) t117 (fun j hj => by rw [tv, n_u1_ne (by omega)]; exact if_pos (by omega)) (by rw [tv]; exact n_u1_eq)
        obtain ⟨b0, b1, b2, b3⟩ := k_PJ_un hI.pj
        have hlb := k_SB_push (σ := τ) (k_SB_of hI.lb.1 (tne 121 (by decide) (by omega)) (tne 122 (by decide) (by omega))) (.inl (2, 2 * w + 2))
        refine ⟨?_, ⟨hG', k_OK_107 hI.ok fun i hi => tne i (by omega) (by omega), k_A5_of hI.a5 (tne 18 (by decide) (by omega)), k_PJ_mk hsb2 (by rw [tne 120 (by decide) (by omega)]; exact b1) (by rw [tne 119 (by decide) (by omega)]; exact b2) ⟨by omega, by omega, by omega, by omega⟩, ⟨hlb, by rw [tne 121 (by decide) (by omega)]; exact hI.lb.2⟩, fun j hj => by rw [tne 25 (by decide) (by omega)]; exact hI.ic.2.2.2.2.2 j hj⟩, ?_, ?_, q3, ?_⟩
        · rw [q1, q2]
          exact k_ag_v (by omega) rfl
        · exact k_Rel_cong hir.1 hI.ok.2.2.2.2 (fun i _ _ => tne i (by omega) (by omega)) (fun i _ _ => tne i (by omega) (by omega)) (by rw [tne 0 (by decide) (by omega)]) (q4 5 (by decide) (by decide)) (q4 6 (by decide) (by decide)) (q4 9 (by decide) (by decide)) (q5 124 (by decide) (by decide)) (q5 126 (by decide) (by decide)) (q5 128 (by decide) (by decide))
        · exact k_Lr_cong hir.2.1 (tne 121 (by decide) (by omega)) (tne 122 (by decide) (by omega)) (q4 15 (by decide) (by decide)) (q5 129 (by decide) (by decide))
        · exact k_Nm_cong hir.2.2.2 (by rw [tne 0 (by decide) (by omega)]) (by rw [tne 0 (by decide) (by omega)]) (by rw [tne 0 (by decide) (by omega)]) (q4 10 (by decide) (by decide)) (q4 11 (by decide) (by decide)) (q4 12 (by decide) (by decide))
  · refine stp_ask (tbl := [x_ia, x_is]) (r := .inr x_ia) (m := fun ρ => m_type ρ c) hI hI.ta (by decide) ⟨by decide, by decide, by decide, by decide⟩ (fun ρ hr' hF => ?_) (fun hsp => cw_type hI.main hI.main (c_typeBad hI.main hsb hr hc (by omega)) (sp2 hsp)) (fun ρ hM => c8_type hI.main hM hc) (fun ρ => ?_)
    · rw [q_type_no hr'.2.2.1 hin]
      refine k_ag_x x_m1 ?_
      dsimp only
      rw [k_up_same, n_u1_eq]
      decide
    · have e : m_type ρ c = (0, k_up ρ 123 (k_u1 (ρ 123) 7 1)) := if_neg hin
      rw [e]
      exact fa_7
end K_SE5
