/-! ===== THE ASKINGS, a step each ===== -/
section K_SA
variable {E : k_E} {M7 ML M8 : k_M} {sh sh' : List k_Sh} {σ ρ τ υ : Nat → Nat → Int} {v w : Nat} {as : List Value}
def k_Fa (υ ρ : Nat → Nat → Int) : Prop := (∀ i, i < 123 ∨ 124 ≤ i ∧ i ≤ 130 ∨ 137 ≤ i → υ i = ρ i) ∧ ∀ j, j ≠ 7 → j ≠ 8 → j ≠ 19 → υ 123 j = ρ 123 j
theorem fa_rf : k_Fa ρ ρ := ⟨fun _ _ => rfl, fun _ _ _ _ => rfl⟩
theorem fa_7 {z : Int} : k_Fa (k_up ρ 123 (k_u1 (ρ 123) 7 z)) ρ := ⟨fun i hi => k_up_ne (by omega), fun j h _ _ => by
  rw [k_up_same]
  exact if_neg h⟩
theorem fa_tr {a b c : Nat → Nat → Int} (h : k_Fa a b) (h2 : k_Fa b c) : k_Fa a c := ⟨fun i hi => (h.1 i hi).trans (h2.1 i hi), fun j a b c => (h.2 j a b c).trans (h2.2 j a b c)⟩
theorem fa_pl (p : Int) : k_Fa (m_findsPlacement ρ p) ρ := ⟨fun i hi => (m_findsPlacement_out ρ p).1 i (by omega) (by omega) (by omega), fun j _ _ h => (m_findsPlacement_out ρ p).2 j h⟩
theorem fa_ch (p s : Int) : k_Fa (m_findsChain ρ p s).2 ρ := ⟨fun i hi => m_findsChain_out ρ p s i (by omega), fun j _ _ _ => congrFun (m_findsChain_out ρ p s 123 (by decide)) j⟩
theorem fa_ar : k_Fa (m_findsArrangement ρ).2 ρ := ⟨fun i hi => m_findsArrangement_out ρ i (by omega) (by omega) (by omega), fun j _ _ _ => congrFun (m_findsArrangement_out ρ 123 (by decide) (by decide) (by decide)) j⟩
/-- what stands in order before a command -/
def k_In3 (sh : List k_Sh) (v w : Nat) (σ : Nat → Nat → Int) : Prop := k_Ic sh v w σ ∧ k_Im σ ∧ k_Ir v σ σ
theorem k_In3.ic (h : k_In3 sh v w σ) : k_Ic sh v w σ := h.1
theorem k_In3.im (h : k_In3 sh v w σ) : k_Im σ := h.2.1
theorem k_In3.ir (h : k_In3 sh v w σ) : k_Ir v σ σ := h.2.2
theorem k_In3.main (h : k_In3 sh v w σ) : k_Main sh := k_Gr_main h.ic.1
theorem k_In3.ok (h : k_In3 sh v w σ) : k_OK σ := h.ic.2.1
theorem k_In3.ty (h : k_In3 sh v w σ) : k_Ty σ := h.ic.2.1.1
theorem k_In3.a5 (h : k_In3 sh v w σ) : k_A5 σ := h.ic.2.2.1
theorem k_In3.lb (h : k_In3 sh v w σ) : k_LB sh σ 16 := h.ic.2.2.2.2.1
theorem k_In3.fc (h : k_In3 sh v w σ) : k_Fc σ := k_Fc_of h.im.1.1 h.ir.1 h.ir.2.2.2
theorem k_In3.ir2 (h : k_In3 sh v w σ) (m : ∀ i, 123 ≤ i → i ≤ 140 → ρ i = σ i) : k_Ir v σ ρ := k_Ir_same h.ir h.ok.2.2.2.2 (fun _ _ => rfl) m
def k_Ta (τ σ : Nat → Nat → Int) : Prop := k_OK τ ∧ k_A5 τ ∧ ∀ i, i < 10 ∨ 23 ≤ i → τ i = σ i
theorem k_In3.ta (h : k_In3 sh v w σ) : k_Ta σ σ := ⟨h.ok, h.a5, fun _ _ => rfl⟩
theorem stp_ir (hI : k_In3 sh v w σ) (hτ : k_Ta τ σ) (hρ : k_Ir v σ ρ) (hf : k_Fa υ ρ) : k_Ic sh v w τ ∧ k_Ir v τ υ := by
  have hv := (k_Gr_v hI.ic.1).1
  have hH := hI.ok.2.2.2.2
  have hn : ∀ j, j ≠ 7 → j ≠ 8 → j ≠ 19 → υ 123 j = ρ 123 j := hf.2
  refine ⟨k_Ic_ch hI.ic hτ.1 hτ.2.1 (fun i hi => hτ.2.2 i (by omega)), k_Ir_rel hρ (k_Rel_cong hρ.1 hH (fun i _ _ => hτ.2.2 i (by omega)) (fun i _ _ => hτ.2.2 i (by omega)) (by rw [hτ.2.2 0 (by omega)]) (hn 5 (by decide) (by decide) (by decide)) (hn 6 (by decide) (by decide) (by decide)) (hn 9 (by decide) (by decide) (by decide)) (hf.1 124 (by omega)) (hf.1 126 (by omega)) (hf.1 128 (by omega))) (fun i hi => hτ.2.2 i (by omega)) (fun j _ _ => by rw [hτ.2.2 0 (by omega)]) (fun j hj => hn j (by omega) (by omega) (by omega)) (hf.1 129 (by omega)) (hf.1 130 (by omega))⟩
theorem stp_ask {D d8 k1 n1 : Nat} {tbl : List String} {r : Option Value ⊕ String} {m : (Nat → Nat → Int) → Int × (Nat → Nat → Int)} (hI : k_In3 sh v w σ) (hτ : k_Ta τ σ) (hl : tbl.length ≤ 3) (hb : D ≤ 20 ∧ d8 ≤ 20 ∧ k1 ≤ 1 ∧ n1 ≤ 142) (hag : ∀ ρ, k_Ir v σ ρ → k_F0 (ρ 123) → k_ag tbl r (m ρ).1 ((m ρ).2 123 7)) (hC : k_Sp tbl r → k_C E ML D (.ref 0 :: (as ++ [.ref 141])) sh σ k1 n1 (k_ret (some (.int (iI (w_code tbl r)))) sh (w_out r τ)))
    (h8 : ∀ ρ, k_MA ρ → k_C E M8 d8 (.ref 123 :: as) sh ρ 0 0 (k_pP sh k_RV (m ρ))) (hfa : ∀ ρ, k_Fa (m ρ).2 ρ) : k_Stp E k_Inv ML M8 as k_r sh σ := by
  refine stp_gen hI.im hI.ic.1 (fun i h1 _ => hτ.2.2 i (by omega)) (sp_ag (hag σ hI.ir hI.im.1.1)) hl hC hb (fun hM => h8 _ hM) (fun ρ hρ hR => ?_) (fun ρ i hi => (hfa ρ).1 i (by omega))
  have e : ∀ i, 123 ≤ i → i ≤ 140 → ρ i = σ i := fun i h1 _ => (hρ i (by omega)).trans (hτ.2.2 i (by omega))
  have hir := hI.ir2 e
  exact ⟨hag ρ hir (by rw [e 123 (by decide) (by decide)]; exact hI.im.1.1), stp_ir hI hτ hir (hfa ρ)⟩
theorem stp_askB {D d8 k1 n1 : Nat} {tbl : List String} {r : Option Value ⊕ String} {m : (Nat → Nat → Int) → Bool × (Nat → Nat → Int)} (hI : k_In3 sh v w σ) (hτ : k_Ta τ σ) (hl : tbl.length ≤ 3) (hb : D ≤ 20 ∧ d8 ≤ 20 ∧ k1 ≤ 1 ∧ n1 ≤ 142) (hag : ∀ ρ, k_Ir v σ ρ → k_F0 (ρ 123) → k_agB tbl r (m ρ).1 ((m ρ).2 123 7)) (hC : k_Sp tbl r → k_C E ML D (.ref 0 :: (as ++ [.ref 141])) sh σ k1 n1 (k_ret (some (.int (iI (w_code tbl r)))) sh (w_outB r τ)))
    (h8 : ∀ ρ, k_MA ρ → k_C E M8 d8 (.ref 123 :: as) sh ρ 0 0 (k_pPB sh (fun t => k_MA t.2) (m ρ))) (hfa : ∀ ρ, k_Fa (m ρ).2 ρ) : k_Stp E k_Inv ML M8 as (fun b => b = 0 ∨ b = 1) sh σ := by
  refine stp_genB hI.im hI.ic.1 (fun i h1 _ => hτ.2.2 i (by omega)) (sp_agB (hag σ hI.ir hI.im.1.1)) hl hC hb (fun hM => h8 _ hM) (fun ρ hρ hR => ?_) (fun ρ i hi => (hfa ρ).1 i (by omega))
  have e : ∀ i, 123 ≤ i → i ≤ 140 → ρ i = σ i := fun i h1 _ => (hρ i (by omega)).trans (hτ.2.2 i (by omega))
  have hir := hI.ir2 e
  exact ⟨hag ρ hir (by rw [e 123 (by decide) (by decide)]; exact hI.im.1.1), stp_ir hI hτ hir (hfa ρ)⟩
/-- asked directly -/
theorem stp_dir {D d8 k1 n1 : Nat} {x : Int} {m : (Nat → Nat → Int) → Int × (Nat → Nat → Int)} (hI : k_In3 sh v w σ) (hτ : k_Ta τ σ) (hb : D ≤ 20 ∧ d8 ≤ 20 ∧ k1 ≤ 1 ∧ n1 ≤ 142) (hC : k_C E M7 D [.ref 0] sh σ k1 n1 (k_rx (.inl (some (.int (iI x)))) sh τ)) (h8 : ∀ ρ, k_MA ρ → k_C E M8 d8 [.ref 123] sh ρ 0 0 (k_pP sh k_RV (m ρ))) (hag : ∀ ρ, k_Ir v σ ρ → x = (m ρ).1) (hfa : ∀ ρ, k_Fa (m ρ).2 ρ) : k_StpD E k_Inv M7 M8 sh σ := by
  have e : ∀ i, 123 ≤ i → i ≤ 140 → τ i = σ i := fun i h1 _ => hτ.2.2 i (by omega)
  have hir := hI.ir2 e
  have hM : k_MA τ := k_MA_cong hI.im.1 e
  refine ⟨D, d8, k1, n1, τ, x, (m τ).1, (m τ).2, k_RV (m τ), hb, hC, h8 τ hM, fun hR => ⟨hag τ hir, ?_, ?_⟩⟩
  · have := hR.1
    show k_r _
    omega
  · obtain ⟨f1, f2⟩ := stp_ir hI hτ hir (hfa τ)
    have hv := (k_Gr_v hI.ic.1).1
    exact k_Inv_of hI.im f1 f2 hR.2 (((hfa τ).1 137 (by omega)).trans (e 137 (by omega) (by omega))) (fun i hi => (hfa τ).1 i (by omega))
theorem fa_sizeOf (s : Int) : k_Fa (m_sizeOf ρ s).2 ρ := by
  unfold m_sizeOf
  (repeat' split) <;> exact fa_7
theorem fa_isOpen (s b : Int) : k_Fa (m_isOpen ρ s b).2 ρ := by
  unfold m_isOpen
  (repeat' split) <;> exact fa_7
theorem fa_pupilsInClass (s b : Int) : k_Fa (m_pupilsInClass ρ s b).2 ρ := by
  unfold m_pupilsInClass
  (repeat' split) <;> exact fa_7
theorem fa_wishCount (p : Int) : k_Fa (m_wishCount ρ p).2 ρ := by
  unfold m_wishCount
  (repeat' split) <;> exact fa_7
theorem fa_wishAt (p rk : Int) : k_Fa (m_wishAt ρ p rk).2 ρ := by
  unfold m_wishAt
  (repeat' split) <;> exact fa_7
theorem fa_reserveOf (p : Int) : k_Fa (m_reserveOf ρ p).2 ρ := by
  unfold m_reserveOf
  (repeat' split) <;> exact fa_7
theorem fa_subjectIn (p b : Int) : k_Fa (m_subjectIn ρ p b).2 ρ := by
  unfold m_subjectIn
  (repeat' split) <;> exact fa_7
theorem fa_blockOf (p s : Int) : k_Fa (m_blockOf ρ p s).2 ρ := by
  unfold m_blockOf
  (repeat' split) <;> exact fa_7
theorem fa_refusalReason : k_Fa (m_refusalReason ρ).2 ρ := by
  unfold m_refusalReason
  (repeat' split) <;> exact fa_7
theorem fa_chainMoves : k_Fa (m_chainMoves ρ).2 ρ := by
  unfold m_chainMoves
  (repeat' split) <;> exact fa_7
theorem fa_chainPupil (m : Int) : k_Fa (m_chainPupil ρ m).2 ρ := by
  unfold m_chainPupil
  (repeat' split) <;> exact fa_7
theorem fa_chainBlock (m : Int) : k_Fa (m_chainBlock ρ m).2 ρ := by
  unfold m_chainBlock
  (repeat' split) <;> exact fa_7
theorem fa_commonWishes (s o : Int) : k_Fa (m_commonWishes ρ s o).2 ρ := by
  unfold m_commonWishes
  (repeat' split) <;> exact fa_7
theorem fa_doClash (s o : Int) : k_Fa (m_doClash ρ s o).2 ρ := by
  unfold m_doClash
  (repeat' split) <;> exact fa_7
theorem fa_lineAt (i : Int) : k_Fa (m_lineAt ρ i).2 ρ := by
  unfold m_lineAt
  (repeat' split) <;> exact fa_7
theorem fa_errorPosition : k_Fa (m_errorPosition ρ).2 ρ := by
  unfold m_errorPosition
  (repeat' split) <;> exact fa_7
theorem fa_failedCommand : k_Fa (m_failedCommand ρ).2 ρ := by
  unfold m_failedCommand
  (repeat' split) <;> exact fa_7
theorem fa_failureKind : k_Fa (m_failureKind ρ).2 ρ := by
  unfold m_failureKind
  (repeat' split) <;> exact fa_7
theorem fa_canServe (p : Int) : k_Fa (m_canServe ρ p).2 ρ := by
  unfold m_canServe
  (repeat' split) <;> exact fa_7
theorem fa_subjectCount : k_Fa (m_subjectCount ρ).2 ρ := by
  unfold m_subjectCount
  exact fa_7
theorem fa_blockCount : k_Fa (m_blockCount ρ).2 ρ := by
  unfold m_blockCount
  exact fa_7
theorem fa_pupilCount : k_Fa (m_pupilCount ρ).2 ρ := by
  unfold m_pupilCount
  exact fa_7
theorem fa_servedCount : k_Fa (m_servedCount ρ).2 ρ := by
  unfold m_servedCount r_servedCount_4
  exact fa_7
theorem fa_clashCount : k_Fa (m_clashCount ρ).2 ρ := by
  unfold m_clashCount r_clashCount_4
  exact fa_7
theorem fa_meanClassSize : k_Fa (m_meanClassSize ρ).2 ρ := by
  unfold m_meanClassSize r_meanClassSize_6 r_meanClassSize_32
  (repeat' split) <;> exact fa_7
theorem fa_pupilInClass (s b i : Int) : k_Fa (m_pupilInClass ρ s b i).2 ρ := by
  unfold m_pupilInClass
  split
  · split
    · refine k_els_inv (C := fun t : Int × (Nat → Nat → Int) => k_Fa t.2 ρ) (fun x => fa_7) (fun j x => ?_) _ 0 _
      unfold b_pupilInClass_28
      split
      · split
        · exact fa_7
        · trivial
      · trivial
    · exact fa_7
  · exact fa_7
theorem fa_bestValueBySets (p : Int) : k_Fa (m_bestValueBySets ρ p).2 ρ := by
  unfold m_bestValueBySets
  split
  · refine k_els_inv (C := fun t : Int × (Nat → Nat → Int) => k_Fa t.2 ρ) (fun x => fa_7) (fun j x => ?_) 7 0 ()
    unfold b_bestValueBySets_31
    split
    · split
      · exact fa_7
      · trivial
    · trivial
  · exact fa_7
theorem fa_canServeByCounting (p : Int) : k_Fa (m_canServeByCounting ρ p).2 ρ := by
  unfold m_canServeByCounting
  split
  · refine k_els_inv (C := fun t : Bool × (Nat → Nat → Int) => k_Fa t.2 ρ) (fun x => ?_) (fun j x => ?_) _ 0 _
    · unfold r_canServeByCounting_32
      split <;> exact fa_7
    · unfold b_canServeByCounting_32 r_canServeByCounting_60 r_canServeByCounting_86
      split
      · exact fa_7
      · split <;> trivial
  · exact fa_7
theorem fa_bestValue (p : Int) : k_Fa (m_bestValue ρ p).2 ρ := by
  unfold m_bestValue
  split
  · exact fa_tr fa_7 (fa_pl p)
  · exact fa_7
theorem fa_asksMoves (p s : Int) : k_Fa (m_asksMoves ρ p s).2 ρ := by
  unfold m_asksMoves
  (repeat' split) <;> first | exact fa_7 | exact fa_tr fa_7 (fa_ch p s)
theorem fa_movesFor (p s : Int) : k_Fa (m_movesFor ρ p s).2 ρ := fa_asksMoves p s
theorem fa_movesByTrial (p s : Int) : k_Fa (m_movesByTrial ρ p s).2 ρ := fa_asksMoves p s
theorem fa_leastClashes : k_Fa (m_leastClashes ρ).2 ρ := fa_tr fa_7 fa_ar
theorem fa_leastClashesByTrial : k_Fa (m_leastClashesByTrial ρ).2 ρ := fa_tr fa_7 fa_ar
theorem k_C_mono {M : k_M} {dp k n : Nat} {Q Q' : k_Q} (h : k_C E M dp as sh σ k n Q) (hQ : ∀ r s2 σ2, Q r s2 σ2 → Q' r s2 σ2) : k_C E M dp as sh σ k n Q' := fun ad => MetFree.mono (h ad) (fun _ _ h => h) (fun _ _ _ _ _ h => h) (fun a s o t _ hq => by
  rcases hq with ⟨⟨v, s2, σ2, ad', h1, h2, h3⟩, hL⟩ | ⟨q, h1, X, ce, L, ⟨s2, σ2, ad', h2, h3⟩, h4⟩
  · exact Or.inl ⟨⟨v, s2, σ2, ad', h1, hQ _ _ _ h2, h3⟩, hL⟩
  · exact Or.inr ⟨q, h1, X, ce, L, ⟨s2, σ2, ad', hQ _ _ _ h2, h3⟩, h4⟩)
theorem k_mono8 {d8 : Nat} {R R' : Prop} {o : Option Value} (h : k_C E M8 d8 as sh σ 0 0 (k_retP o sh τ R)) (hR : R → R') : k_C E M8 d8 as sh σ 0 0 (k_retP o sh τ R') := k_C_mono h fun r s2 σ2 y => ⟨y.1, y.2.1, y.2.2.1, hR y.2.2.2⟩
theorem st_sizeOf (hI : k_In3 sh v w σ) {s : Int} (hs : -2147483648 ≤ s ∧ s < 2147483648) : k_Stp E k_Inv mL_sizeOf mX8_sizeOf [.int (iI s)] k_r sh σ :=
  stp_ask (tbl := [x_io]) (m := fun ρ => m_sizeOf ρ s) hI hI.ta (by decide) ⟨by decide, by decide, by decide, by decide⟩ (fun ρ hr hF => q_a_sizeOf hr.1.1 hI.ty) (fun hsp => cw_sizeOf hI.main hI.main (c7_sizeOf hI.main hI.ty hs) (sp1 hsp)) (fun ρ hM => c8_sizeOf hI.main hM hs) (fun ρ => fa_sizeOf s)
theorem st_isOpen (hI : k_In3 sh v w σ) {s : Int} (hs : -2147483648 ≤ s ∧ s < 2147483648) {b : Int} (hb : -2147483648 ≤ b ∧ b < 2147483648) : k_Stp E k_Inv mL_isOpen mX8_isOpen [.int (iI s), .int (iI b)] (fun b => b = 0 ∨ b = 1) sh σ :=
  stp_askB (tbl := [x_io]) (m := fun ρ => m_isOpen ρ s b) hI hI.ta (by decide) ⟨by decide, by decide, by decide, by decide⟩ (fun ρ hr hF => q_a_isOpen hr.1.1 hI.ty) (fun hsp => cw_isOpen hI.main hI.main (c7_isOpen hI.main hI.ty hs hb) (sp1 hsp)) (fun ρ hM => c8_isOpen hI.main hM hs hb) (fun ρ => fa_isOpen s b)
theorem st_pupilsInClass (hI : k_In3 sh v w σ) {s : Int} (hs : -2147483648 ≤ s ∧ s < 2147483648) {b : Int} (hb : -2147483648 ≤ b ∧ b < 2147483648) : k_Stp E k_Inv mL_pupilsInClass mX8_pupilsInClass [.int (iI s), .int (iI b)] k_r sh σ :=
  stp_ask (tbl := [x_io]) (m := fun ρ => m_pupilsInClass ρ s b) hI hI.ta (by decide) ⟨by decide, by decide, by decide, by decide⟩ (fun ρ hr hF => q_a_pupilsInClass hr.1.1 hI.ty) (fun hsp => cw_pupilsInClass hI.main hI.main (c7_pupilsInClass hI.main hI.ty hs hb) (sp1 hsp)) (fun ρ hM => c8_pupilsInClass hI.main hM hs hb) (fun ρ => fa_pupilsInClass s b)
theorem st_pupilInClass (hI : k_In3 sh v w σ) {s : Int} (hs : -2147483648 ≤ s ∧ s < 2147483648) {b : Int} (hb : -2147483648 ≤ b ∧ b < 2147483648) {i : Int} (hi : -2147483648 ≤ i ∧ i < 2147483648) : k_Stp E k_Inv mL_pupilInClass mX8_pupilInClass [.int (iI s), .int (iI b), .int (iI i)] k_r sh σ :=
  stp_ask (tbl := [x_io, x_ns]) (m := fun ρ => m_pupilInClass ρ s b i) hI hI.ta (by decide) ⟨by decide, by decide, by decide, by decide⟩ (fun ρ hr hF => q_a_pupilInClass hr.1.1 hI.ty) (fun hsp => cw_pupilInClass hI.main hI.main (c7_pupilInClass hI.main hI.ty hs hb hi) (sp2 hsp)) (fun ρ hM => c8_pupilInClass hI.main hM hs hb hi) (fun ρ => fa_pupilInClass s b i)
theorem st_wishCount (hI : k_In3 sh v w σ) {p : Int} (hp : -2147483648 ≤ p ∧ p < 2147483648) : k_Stp E k_Inv mL_wishCount mX8_wishCount [.int (iI p)] k_r sh σ :=
  stp_ask (tbl := [x_io]) (m := fun ρ => m_wishCount ρ p) hI hI.ta (by decide) ⟨by decide, by decide, by decide, by decide⟩ (fun ρ hr hF => q_a_wishCount hr.1.1 hI.ty) (fun hsp => cw_wishCount hI.main hI.main (c7_wishCount hI.main hI.ty hp) (sp1 hsp)) (fun ρ hM => c8_wishCount hI.main hM hp) (fun ρ => fa_wishCount p)
theorem st_wishAt (hI : k_In3 sh v w σ) {p : Int} (hp : -2147483648 ≤ p ∧ p < 2147483648) {rk : Int} (hrk : -2147483648 ≤ rk ∧ rk < 2147483648) : k_Stp E k_Inv mL_wishAt mX8_wishAt [.int (iI p), .int (iI rk)] k_r sh σ :=
  stp_ask (tbl := [x_io, x_ns]) (m := fun ρ => m_wishAt ρ p rk) hI hI.ta (by decide) ⟨by decide, by decide, by decide, by decide⟩ (fun ρ hr hF => q_a_wishAt hr.1.1 hI.ty) (fun hsp => cw_wishAt hI.main hI.main (c7_wishAt hI.main hI.ty hp hrk) (sp2 hsp)) (fun ρ hM => c8_wishAt hI.main hM hp hrk) (fun ρ => fa_wishAt p rk)
theorem st_reserveOf (hI : k_In3 sh v w σ) {p : Int} (hp : -2147483648 ≤ p ∧ p < 2147483648) : k_Stp E k_Inv mL_reserveOf mX8_reserveOf [.int (iI p)] k_r sh σ :=
  stp_ask (tbl := [x_io]) (m := fun ρ => m_reserveOf ρ p) hI hI.ta (by decide) ⟨by decide, by decide, by decide, by decide⟩ (fun ρ hr hF => q_a_reserveOf hr.1.1 hI.ty) (fun hsp => cw_reserveOf hI.main hI.main (c7_reserveOf hI.main hI.ty hp) (sp1 hsp)) (fun ρ hM => c8_reserveOf hI.main hM hp) (fun ρ => fa_reserveOf p)
theorem st_subjectIn (hI : k_In3 sh v w σ) {p : Int} (hp : -2147483648 ≤ p ∧ p < 2147483648) {b : Int} (hb : -2147483648 ≤ b ∧ b < 2147483648) : k_Stp E k_Inv mL_subjectIn mX8_subjectIn [.int (iI p), .int (iI b)] k_r sh σ :=
  stp_ask (tbl := [x_io]) (m := fun ρ => m_subjectIn ρ p b) hI hI.ta (by decide) ⟨by decide, by decide, by decide, by decide⟩ (fun ρ hr hF => q_a_subjectIn hr.1.1 hI.ty) (fun hsp => cw_subjectIn hI.main hI.main (c7_subjectIn hI.main hI.ty hp hb) (sp1 hsp)) (fun ρ hM => c8_subjectIn hI.main hM hp hb) (fun ρ => fa_subjectIn p b)
theorem st_blockOf (hI : k_In3 sh v w σ) {p : Int} (hp : -2147483648 ≤ p ∧ p < 2147483648) {s : Int} (hs : -2147483648 ≤ s ∧ s < 2147483648) : k_Stp E k_Inv mL_blockOf mX8_blockOf [.int (iI p), .int (iI s)] k_r sh σ :=
  stp_ask (tbl := [x_io]) (m := fun ρ => m_blockOf ρ p s) hI hI.ta (by decide) ⟨by decide, by decide, by decide, by decide⟩ (fun ρ hr hF => q_a_blockOf hr.1.1 hI.ty) (fun hsp => cw_blockOf hI.main hI.main (c7_blockOf hI.main hI.ty hp hs) (sp1 hsp)) (fun ρ hM => c8_blockOf hI.main hM hp hs) (fun ρ => fa_blockOf p s)
theorem st_refusalReason (hI : k_In3 sh v w σ)  : k_Stp E k_Inv mL_refusalReason mX8_refusalReason [] k_r sh σ :=
  stp_ask (tbl := [x_ns]) (m := fun ρ => m_refusalReason ρ) hI hI.ta (by decide) ⟨by decide, by decide, by decide, by decide⟩ (fun ρ hr hF => q_a_refusalReason hF hr.1.2.2.2) (fun hsp => cw_refusalReason hI.main hI.main (c7_refusalReason hI.main hI.ty hI.fc) (sp1 hsp)) (fun ρ hM => c8_refusalReason hI.main hM) (fun ρ => fa_refusalReason)
theorem st_errorPosition (hI : k_In3 sh v w σ)  : k_Stp E k_Inv mL_errorPosition mX8_errorPosition [] k_r sh σ :=
  stp_ask (tbl := [x_ns]) (m := fun ρ => m_errorPosition ρ) hI hI.ta (by decide) ⟨by decide, by decide, by decide, by decide⟩ (fun ρ hr hF => q_a_errorPosition hF hr.2.2.2.1) (fun hsp => cw_errorPosition hI.main hI.main (c7_errorPosition hI.main hI.ty hI.fc) (sp1 hsp)) (fun ρ hM => c8_errorPosition hI.main hM) (fun ρ => fa_errorPosition)
theorem st_failedCommand (hI : k_In3 sh v w σ)  : k_Stp E k_Inv mL_failedCommand mX8_failedCommand [] k_r sh σ :=
  stp_ask (tbl := [x_ns]) (m := fun ρ => m_failedCommand ρ) hI hI.ta (by decide) ⟨by decide, by decide, by decide, by decide⟩ (fun ρ hr hF => q_a_failedCommand hF hr.2.2.2.2.1) (fun hsp => cw_failedCommand hI.main hI.main (c7_failedCommand hI.main hI.ty hI.fc) (sp1 hsp)) (fun ρ hM => c8_failedCommand hI.main hM) (fun ρ => fa_failedCommand)
theorem st_failureKind (hI : k_In3 sh v w σ)  : k_Stp E k_Inv mL_failureKind mX8_failureKind [] k_r sh σ :=
  stp_ask (tbl := [x_ns]) (m := fun ρ => m_failureKind ρ) hI hI.ta (by decide) ⟨by decide, by decide, by decide, by decide⟩ (fun ρ hr hF => q_a_failureKind hF hr.2.2.2.2.2.2 (by rw [hr.2.2.2.2.1]; exact hr.2.2.2.2.2.1)) (fun hsp => cw_failureKind hI.main hI.main (c7_failureKind hI.main hI.ty hI.fc) (sp1 hsp)) (fun ρ hM => c8_failureKind hI.main hM) (fun ρ => fa_failureKind)
theorem st_chainMoves (hI : k_In3 sh v w σ)  : k_Stp E k_Inv mL_chainMoves mX8_chainMoves [] k_r sh σ :=
  stp_ask (tbl := [x_ns]) (m := fun ρ => m_chainMoves ρ) hI hI.ta (by decide) ⟨by decide, by decide, by decide, by decide⟩ (fun ρ hr hF => q_a_chainMoves hr.1.1 hI.ty) (fun hsp => cw_chainMoves hI.main hI.main (c7_chainMoves hI.main hI.ty hI.fc) (sp1 hsp)) (fun ρ hM => c8_chainMoves hI.main hM) (fun ρ => fa_chainMoves)
theorem st_chainPupil (hI : k_In3 sh v w σ) {m : Int} (hm : -2147483648 ≤ m ∧ m < 2147483648) : k_Stp E k_Inv mL_chainPupil mX8_chainPupil [.int (iI m)] k_r sh σ :=
  stp_ask (tbl := [x_ns]) (m := fun ρ => m_chainPupil ρ m) hI hI.ta (by decide) ⟨by decide, by decide, by decide, by decide⟩ (fun ρ hr hF => q_a_chainPupil hr.1.1 hI.ty) (fun hsp => cw_chainPupil hI.main hI.main (c7_chainPupil hI.main hI.ty hm) (sp1 hsp)) (fun ρ hM => c8_chainPupil hI.main hM hm) (fun ρ => fa_chainPupil m)
theorem st_chainBlock (hI : k_In3 sh v w σ) {m : Int} (hm : -2147483648 ≤ m ∧ m < 2147483648) : k_Stp E k_Inv mL_chainBlock mX8_chainBlock [.int (iI m)] k_r sh σ :=
  stp_ask (tbl := [x_ns]) (m := fun ρ => m_chainBlock ρ m) hI hI.ta (by decide) ⟨by decide, by decide, by decide, by decide⟩ (fun ρ hr hF => q_a_chainBlock hr.1.1 hI.ty) (fun hsp => cw_chainBlock hI.main hI.main (c7_chainBlock hI.main hI.ty hm) (sp1 hsp)) (fun ρ hM => c8_chainBlock hI.main hM hm) (fun ρ => fa_chainBlock m)
theorem st_commonWishes (hI : k_In3 sh v w σ) {s : Int} (hs : -2147483648 ≤ s ∧ s < 2147483648) {o : Int} (ho : -2147483648 ≤ o ∧ o < 2147483648) : k_Stp E k_Inv mL_commonWishes mX8_commonWishes [.int (iI s), .int (iI o)] k_r sh σ :=
  stp_ask (tbl := [x_io, x_ia]) (m := fun ρ => m_commonWishes ρ s o) hI hI.ta (by decide) ⟨by decide, by decide, by decide, by decide⟩ (fun ρ hr hF => q_a_commonWishes hr.1.1 hI.ty) (fun hsp => cw_commonWishes hI.main hI.main (c7_commonWishes hI.main hI.ty hs ho) (sp2 hsp)) (fun ρ hM => c8_commonWishes hI.main hM hs ho) (fun ρ => fa_commonWishes s o)
theorem st_doClash (hI : k_In3 sh v w σ) {s : Int} (hs : -2147483648 ≤ s ∧ s < 2147483648) {o : Int} (ho : -2147483648 ≤ o ∧ o < 2147483648) : k_Stp E k_Inv mL_doClash mX8_doClash [.int (iI s), .int (iI o)] (fun b => b = 0 ∨ b = 1) sh σ :=
  stp_askB (tbl := [x_io, x_ia]) (m := fun ρ => m_doClash ρ s o) hI hI.ta (by decide) ⟨by decide, by decide, by decide, by decide⟩ (fun ρ hr hF => q_a_doClash hr.1.1 hI.ty) (fun hsp => cw_doClash hI.main hI.main (c7_doClash hI.main hI.ty hs ho) (sp2 hsp)) (fun ρ hM => c8_doClash hI.main hM hs ho) (fun ρ => fa_doClash s o)
theorem st_lineAt (hI : k_In3 sh v w σ) {i : Int} (hi : -2147483648 ≤ i ∧ i < 2147483648) : k_Stp E k_Inv mL_lineAt mX8_lineAt [.int (iI i)] k_r sh σ :=
  stp_ask (tbl := [x_io]) (m := fun ρ => m_lineAt ρ i) hI hI.ta (by decide) ⟨by decide, by decide, by decide, by decide⟩ (fun ρ hr hF => q_a_lineAt hr.2.1 hI.lb.1.2.2.2.2) (fun hsp => cw_lineAt hI.main hI.main (c7_lineAt hI.main hI.lb hi) (sp1 hsp)) (fun ρ hM => k_mono8 (c8_lineAt hI.main hM hi) (fun h => ⟨⟨by omega, by omega⟩, h.2⟩)) (fun ρ => fa_lineAt i)
end K_SA
