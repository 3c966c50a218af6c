/-! ===== THE ASKINGS with work of their own ===== -/
section K_SB2
variable {E : k_E} {M7 ML M8 : k_M} {sh sh' : List k_Sh} {σ ρ τ υ : Nat → Nat → Int} {v w : Nat} {as : List Value}
theorem ta_of (h : k_In3 sh v w σ) (hS : k_Sc τ) (hC : k_Ch τ) (hA : k_Ar τ) (h5 : k_A5 τ) (e : ∀ i, i < 10 ∨ 23 ≤ i → τ i = σ i) : k_Ta τ σ := ⟨⟨k_Ty_19 (fun i _ _ => e i (by omega)) h.ty, hS, hC, hA, k_Hi_of h.ok.2.2.2.2 (e _ (by decide)) (e _ (by decide))⟩, h5, e⟩
theorem ta_pl (h : k_In3 sh v w σ) (hS : k_Sc τ) (e : ∀ i, i < 10 ∨ 14 ≤ i → τ i = σ i) : k_Ta τ σ := ta_of h hS (k_Ch_of h.ok.2.2.1 (e _ (by decide)) (e _ (by decide)) (e _ (by decide))) (k_Ar_of h.ok.2.2.2.1 (e _ (by decide)) (e _ (by decide)) (e _ (by decide)) (e _ (by decide))) (k_A5_of h.a5 (e _ (by decide))) fun i hi => e i (by omega)
theorem ta_best (h : k_In3 sh v w σ) (p : Int) : k_Ta (u_best (u_roomy σ p)) σ := ta_pl h (u_best_sc (u_roomy_sc h.ty h.ok.2.1 p)) fun i hi => by
  have h1 : i ≠ 10 ∧ i ≠ 11 ∧ i ≠ 12 ∧ i ≠ 13 := by omega
  unfold u_best g_put u_roomy
  simp [k_up, h1]
theorem ta_roomy (h : k_In3 sh v w σ) (p : Int) : k_Ta (u_roomy σ p) σ := ta_pl h (u_roomy_sc h.ty h.ok.2.1 p) fun i hi => by
  unfold u_roomy
  rw [k_up_ne (by omega), k_up_ne (by omega)]
theorem ta_open (h : k_In3 sh v w σ) (p : Int) (n : Nat) : k_Ta (u_open σ p n) σ := ta_pl h (u_open_sc h.ty h.ok.2.1 p n) fun i hi => by
  unfold u_open
  rw [k_up_ne (by omega)]
theorem ta_few (h : k_In3 sh v w σ) (s : Int) : k_Ta (u_few σ s) σ := by
  have e : ∀ i, i < 15 ∨ 18 ≤ i → u_few σ s i = σ i := fun i hi => u_few_far hi
  exact ta_of h (k_Sc_of h.ok.2.1 (e _ (by decide)) (e _ (by decide)) (e _ (by decide))) (u_fewN_ch h.ty h.ok.2.2.1 s 3 (by decide)) (k_Ar_of h.ok.2.2.2.1 (e _ (by decide)) (e _ (by decide)) (e _ (by decide)) (e _ (by decide))) (k_A5_of h.a5 (e _ (by decide))) fun i hi => e i (by omega)
theorem g_putA_far {S : g_B} {i : Nat} (h : i < 18 ∨ 23 ≤ i) : g_putA (u_comm σ) S i = σ i := by
  unfold g_putA u_comm
  rw [k_up_ne (by omega), k_up_ne (by omega), k_up_ne (by omega), k_up_ne (by omega), k_up_ne (by omega)]
theorem g_putA_ar (hI : k_Ty σ) (hA : k_Ar σ) {S : g_B} (h : g_bOk S) : k_Ar (g_putA (u_comm σ) S) ∧ k_A5 (g_putA (u_comm σ) S) := by
  obtain ⟨h1, h2, h3, h4⟩ := h
  have e19 : g_putA (u_comm σ) S 19 = g_comm σ (σ 1 2).toNat := by
    unfold g_putA u_comm
    rw [k_up_ne (by decide), k_up_ne (by decide), k_up_ne (by decide), k_up_ne (by decide), k_up_same]
  have e20 : g_putA (u_comm σ) S 20 = S.1 := by
    unfold g_putA
    rw [k_up_ne (by decide), k_up_ne (by decide), k_up_ne (by decide), k_up_same]
  have e21 : g_putA (u_comm σ) S 21 = S.2.1 := by
    unfold g_putA
    rw [k_up_ne (by decide), k_up_ne (by decide), k_up_same]
  have e22 : g_putA (u_comm σ) S 22 = S.2.2.1 := by
    unfold g_putA
    rw [k_up_ne (by decide), k_up_same]
  have e18 : g_putA (u_comm σ) S 18 5 = S.2.2.2 := by
    unfold g_putA
    rw [k_up_same]
    exact if_pos rfl
  refine ⟨⟨by rw [e19]; exact g_comm_r hI hA.1, by rw [e20]; exact h1, by rw [e21]; exact h2, by rw [e22]; exact h3⟩, ?_⟩
  unfold k_A5
  rw [e18]
  exact h4
theorem ta_putA (h : k_In3 sh v w σ) {S : g_B} (hS : g_bOk S) : k_Ta (g_putA (u_comm σ) S) σ := by
  have e : ∀ i, i < 18 ∨ 23 ≤ i → g_putA (u_comm σ) S i = σ i := fun i hi => g_putA_far hi
  obtain ⟨h1, h2⟩ := g_putA_ar h.ty h.ok.2.2.2.1 hS
  exact ta_of h (k_Sc_of h.ok.2.1 (e _ (by decide)) (e _ (by decide)) (e _ (by decide))) (k_Ch_of h.ok.2.2.1 (e _ (by decide)) (e _ (by decide)) (e _ (by decide))) h1 h2 fun i hi => e i (by omega)
theorem ta_abest (h : k_In3 sh v w σ) : k_Ta (u_abest σ) σ := ta_putA h (f_abest_ok h.ty h.ok.2.2.2.1)
theorem ta_atry (h : k_In3 sh v w σ) : k_Ta (u_atry σ) σ := ta_putA h (f_atry_ok h.ty h.ok.2.2.2.1 h.a5).2
theorem ta_if (h : k_In3 sh v w σ) {c : Prop} [Decidable c] (h1 : k_Ta τ σ) : k_Ta (if c then τ else σ) σ := by
  split
  · exact h1
  · exact h.ta
theorem st_bestValue (hI : k_In3 sh v w σ) {p : Int} (hp : -2147483648 ≤ p ∧ p < 2147483648) : k_Stp E k_Inv mL_bestValue mX8_bestValue [.int (iI p)] k_r sh σ :=
  stp_ask (tbl := [x_io]) (m := fun ρ => m_bestValue ρ p) hI (ta_if hI (ta_best hI p)) (by decide) ⟨by decide, by decide, by decide, by decide⟩ (fun ρ hr hF => q_a_bestValue hr.1.1 hI.ty) (fun hsp => cw_bestValue hI.main hI.main (c7_bestValue hI.main hI.ty hI.ok.2.1 hp) (sp1 hsp)) (fun ρ hM => c8_bestValue hI.main hM hp) (fun ρ => fa_bestValue p)
theorem st_bestValueBySets (hI : k_In3 sh v w σ) {p : Int} (hp : -2147483648 ≤ p ∧ p < 2147483648) : k_Stp E k_Inv mL_bestValueBySets mX8_bestValueBySets [.int (iI p)] k_r sh σ :=
  stp_ask (tbl := [x_io]) (m := fun ρ => m_bestValueBySets ρ p) hI (ta_if hI (ta_roomy hI p)) (by decide) ⟨by decide, by decide, by decide, by decide⟩ (fun ρ hr hF => q_a_bestValueBySets hr.1.1 hI.ty) (fun hsp => cw_bestValueBySets hI.main hI.main (c7_bestValueBySets hI.main hI.ty hI.ok.2.1 hp) (sp1 hsp)) (fun ρ hM => c8_bestValueBySets hI.main hM hp) (fun ρ => fa_bestValueBySets p)
theorem st_canServe (hI : k_In3 sh v w σ) {p : Int} (hp : -2147483648 ≤ p ∧ p < 2147483648) : k_Stp E k_Inv mL_canServe mX8_canServe [.int (iI p)] (fun b => b = 0 ∨ b = 1) sh σ :=
  stp_askB (tbl := [x_io]) (m := fun ρ => m_canServe ρ p) hI (ta_if hI (ta_open hI p 3)) (by decide) ⟨by decide, by decide, by decide, by decide⟩ (fun ρ hr hF => q_a_canServe hr.1.1 hI.ty hI.ok.2.1) (fun hsp => cw_canServe hI.main hI.main (c7_canServe hI.main hI.ty hI.ok.2.1 hp) (sp1 hsp)) (fun ρ hM => c8_canServe hI.main hM hp) (fun ρ => fa_canServe p)
theorem st_canServeByCounting (hI : k_In3 sh v w σ) {p : Int} (hp : -2147483648 ≤ p ∧ p < 2147483648) : k_Stp E k_Inv mL_canServeByCounting mX8_canServeByCounting [.int (iI p)] (fun b => b = 0 ∨ b = 1) sh σ :=
  stp_askB (tbl := [x_io]) (m := fun ρ => m_canServeByCounting ρ p) hI (ta_if hI (ta_open hI p 3)) (by decide) ⟨by decide, by decide, by decide, by decide⟩ (fun ρ hr hF => q_a_canServeByCounting hr.1.1 hI.ty hI.ok.2.1) (fun hsp => cw_canServeByCounting hI.main hI.main (c7_canServeByCounting hI.main hI.ty hI.ok.2.1 hp) (sp1 hsp)) (fun ρ hM => c8_canServeByCounting hI.main hM hp) (fun ρ => fa_canServeByCounting p)
theorem st_movesFor (hI : k_In3 sh v w σ) {p : Int} (hp : -2147483648 ≤ p ∧ p < 2147483648) {s : Int} (hs : -2147483648 ≤ s ∧ s < 2147483648) : k_Stp E k_Inv mL_movesFor mX8_movesFor [.int (iI p), .int (iI s)] k_r sh σ :=
  stp_ask (tbl := [x_io, x_is, x_ns]) (m := fun ρ => m_movesFor ρ p s) hI (ta_if hI (ta_few hI s)) (by decide) ⟨by decide, by decide, by decide, by decide⟩ (fun ρ hr hF => q_a_movesFor hr.1.1 hI.ty) (fun hsp => cw_movesFor hI.main hI.main (c7_movesFor hI.main hI.ty hI.ok.2.2.1 hp hs) (sp3 hsp)) (fun ρ hM => c8_movesFor hI.main hM hp hs) (fun ρ => fa_movesFor p s)
theorem st_movesByTrial (hI : k_In3 sh v w σ) {p : Int} (hp : -2147483648 ≤ p ∧ p < 2147483648) {s : Int} (hs : -2147483648 ≤ s ∧ s < 2147483648) : k_Stp E k_Inv mL_movesByTrial mX8_movesByTrial [.int (iI p), .int (iI s)] k_r sh σ :=
  stp_ask (tbl := [x_io, x_is, x_ns]) (m := fun ρ => m_movesByTrial ρ p s) hI hI.ta (by decide) ⟨by decide, by decide, by decide, by decide⟩ (fun ρ hr hF => q_a_movesByTrial hr.1.1 hI.ty) (fun hsp => cw_movesByTrial hI.main hI.main (c7_movesByTrial hI.main hI.ty hI.ok.2.2.1 hp hs) (sp3 hsp)) (fun ρ hM => c8_movesByTrial hI.main hM hp hs) (fun ρ => fa_movesByTrial p s)
theorem st_subjectCount (hI : k_In3 sh v w σ) : k_StpD E k_Inv mX7_subjectCount mX8_subjectCount sh σ := stp_dir (m := fun ρ => m_subjectCount ρ) hI hI.ta ⟨by decide, by decide, by decide, by decide⟩ (c7_subjectCount hI.main hI.ty) (fun ρ hM => c8_subjectCount hI.main hM) (fun ρ hr => q_a_subjectCount hr.1.1 hI.ty) (fun ρ => fa_subjectCount)
theorem st_blockCount (hI : k_In3 sh v w σ) : k_StpD E k_Inv mX7_blockCount mX8_blockCount sh σ := stp_dir (m := fun ρ => m_blockCount ρ) hI hI.ta ⟨by decide, by decide, by decide, by decide⟩ (c7_blockCount hI.main hI.ty) (fun ρ hM => c8_blockCount hI.main hM) (fun ρ hr => q_a_blockCount hr.1.1 hI.ty) (fun ρ => fa_blockCount)
theorem st_pupilCount (hI : k_In3 sh v w σ) : k_StpD E k_Inv mX7_pupilCount mX8_pupilCount sh σ := stp_dir (m := fun ρ => m_pupilCount ρ) hI hI.ta ⟨by decide, by decide, by decide, by decide⟩ (c7_pupilCount hI.main hI.ty) (fun ρ hM => c8_pupilCount hI.main hM) (fun ρ hr => q_a_pupilCount hr.1.1 hI.ty) (fun ρ => fa_pupilCount)
theorem st_servedCount (hI : k_In3 sh v w σ) : k_StpD E k_Inv mX7_servedCount mX8_servedCount sh σ := stp_dir (m := fun ρ => m_servedCount ρ) hI hI.ta ⟨by decide, by decide, by decide, by decide⟩ (c7_servedCount hI.main hI.ty) (fun ρ hM => c8_servedCount hI.main hM) (fun ρ hr => q_a_servedCount hr.1.1 hI.ty) (fun ρ => fa_servedCount)
theorem st_clashCount (hI : k_In3 sh v w σ) : k_StpD E k_Inv mX7_clashCount mX8_clashCount sh σ := stp_dir (m := fun ρ => m_clashCount ρ) hI hI.ta ⟨by decide, by decide, by decide, by decide⟩ (c7_clashCount hI.main hI.ty) (fun ρ hM => c8_clashCount hI.main hM) (fun ρ hr => q_a_clashCount hr.1.1 hI.ty) (fun ρ => fa_clashCount)
theorem st_leastClashes (hI : k_In3 sh v w σ) : k_StpD E k_Inv mX7_leastClashes mX8_leastClashes sh σ := stp_dir (m := fun ρ => m_leastClashes ρ) hI (ta_abest hI) ⟨by decide, by decide, by decide, by decide⟩ (c7_leastClashes hI.main hI.ty hI.ok.2.2.2.1) (fun ρ hM => c8_leastClashes hI.main hM) (fun ρ hr => (q_a_leastClashes hr.1.1 hI.ty hI.ok.2.2.2.1).1) (fun ρ => fa_leastClashes)
theorem st_leastClashesByTrial (hI : k_In3 sh v w σ) : k_StpD E k_Inv mX7_leastClashesByTrial mX8_leastClashesByTrial sh σ := stp_dir (m := fun ρ => m_leastClashesByTrial ρ) hI (ta_atry hI) ⟨by decide, by decide, by decide, by decide⟩ (c7_leastClashesByTrial hI.main hI.ty hI.ok.2.2.2.1 hI.a5) (fun ρ hM => c8_leastClashesByTrial hI.main hM) (fun ρ hr => (q_a_leastClashes hr.1.1 hI.ty hI.ok.2.2.2.1).2) (fun ρ => fa_leastClashesByTrial)
theorem st_meanClassSize (hI : k_In3 sh v w σ) : k_StpM E k_Inv sh σ := by
  have hh : (∃ x : UInt64, (if f_openCl σ ≤ 0 then .inr x_ar else .inl (some (.double (f_mean (f_lessAll σ) (f_openCl σ)))) : Option Value ⊕ String) = .inl (some (.double x))) ∨ (if f_openCl σ ≤ 0 then .inr x_ar else .inl (some (.double (f_mean (f_lessAll σ) (f_openCl σ)))) : Option Value ⊕ String) = .inr x_ar := by
    split
    · exact Or.inr rfl
    · exact Or.inl ⟨_, rfl⟩
  have hC := cw_meanClassSize (E := E) hI.main hI.main (c7_meanClassSize hI.main hI.ty) hh
  have h1 := hI.ir.1.1
  generalize hr : (if f_openCl σ ≤ 0 then .inr x_ar else .inl (some (.double (f_mean (f_lessAll σ) (f_openCl σ)))) : Option Value ⊕ String) = r at hC
  have hne : ∀ i, i ≠ 142 → w_outD r σ i = σ i := fun i hi => w_outD_ne hi
  have e : ∀ i, 123 ≤ i → i ≤ 140 → w_outD r σ i = σ i := fun i _ _ => hne i (by omega)
  have hM : k_MA (w_outD r σ) := k_MA_cong hI.im.1 e
  have hir := hI.ir2 e
  have hq := q_a_mean hir.1.1 hI.ty
  refine ⟨_, _, _, _, w_outD r σ, w_code [x_ar] r, (m_meanClassSize (w_outD r σ)).1, (m_meanClassSize (w_outD r σ)).2, k_MA (m_meanClassSize (w_outD r σ)).2, ⟨by decide, by decide, by decide, by decide⟩, hC, c8_meanClassSize hI.main hM, fun hR => ?_⟩
  have hfa := fa_meanClassSize (ρ := w_outD r σ)
  obtain ⟨f1, f2⟩ := stp_ir hI hI.ta hir hfa
  have hv := (k_Gr_v hI.ic.1).1
  have hinv : k_Inv sh (m_meanClassSize (w_outD r σ)).2 := k_Inv_of hI.im f1 f2 hR ((hfa.1 137 (by omega)).trans (e 137 (by omega) (by omega))) (fun i hi => (hfa.1 i (by omega)).trans (hne i (by omega)))
  have e142 : (m_meanClassSize (w_outD r σ)).2 142 0 = w_outD r σ 142 0 := by rw [hfa.1 142 (by omega)]
  rcases hq with ⟨q1, q2⟩ | ⟨q1, q2, q3⟩
  · rw [if_pos q1] at hr
    subst hr
    have ew : w_code [x_ar] (.inr x_ar) = 1 := if_pos rfl
    rw [ew]
    exact ⟨q2, by decide, fun y => absurd y (by decide), hinv⟩
  · rw [if_neg q1] at hr
    subst hr
    have ew : w_code [x_ar] (.inl (some (.double (f_mean (f_lessAll σ) (f_openCl σ))))) = 0 := w_code_l
    rw [ew]
    refine ⟨q2, by decide, fun _ => ?_, hinv⟩
    rw [e142, q3]
    show UInt64.ofNat (k_up σ 142 (k_u1 (σ 142) 0 ((f_mean (f_lessAll σ) (f_openCl σ)).toNat : Int)) 142 0).toNat = _
    rw [k_up_same, n_u1_eq, k_u64]
end K_SB2
