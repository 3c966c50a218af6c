/-! ===== WHAT HOLDS between two commands of the law ===== -/
section K_IV
variable {E : k_E} {M7 ML M8 : k_M} {sh sh' : List k_Sh} {σ ρ τ υ : Nat → Nat → Int} {v w : Nat} {as : List Value}
/-- the world's shape: as it was made, or with a longer row for the typed text -/
def k_Gr (sh : List k_Sh) (v w : Nat) : Prop := (sh = k_shape ∧ v = 118 ∧ w = 16) ∨ (sh = k_shape ++ [.inl (2, 34)] ∧ v = 143 ∧ w = 34) ∨ (sh = (k_shape ++ [.inl (2, 34)]) ++ [.inl (2, 70)] ∧ v = 144 ∧ w = 70)
theorem k_shape_len : k_shape.length = 143 := by decide +kernel
theorem k_Gr_main (h : k_Gr sh v w) : k_Main sh := by
  have h0 : k_Main k_shape := fun i x hx => hx
  rcases h with ⟨rfl, -⟩ | ⟨rfl, -⟩ | ⟨rfl, -⟩
  · exact h0
  · exact k_Main_app h0 _
  · exact k_Main_app (k_Main_app h0 _) _
theorem k_Gr_v (h : k_Gr sh v w) : (118 ≤ v ∧ v ≠ 119 ∧ v ≠ 120 ∧ v ≠ 121 ∧ v ≠ 122 ∧ (v < 123 ∨ 142 < v)) ∧ (v < sh.length ∧ 143 ≤ sh.length ∧ sh.length < 900000) ∧ (w ≤ 99 ∧ 16 ≤ w) := by
  rcases h with ⟨rfl, rfl, rfl⟩ | ⟨rfl, rfl, rfl⟩ | ⟨rfl, rfl, rfl⟩
  · rw [k_shape_len]; decide
  · rw [List.length_append, k_shape_len]; decide
  · rw [List.length_append, List.length_append, k_shape_len]; decide
/-- cells that hold no ref but fixed ones -/
def z_okS (i : Nat) : k_Sh → Bool
  | .inl (5, _) => i == 25
  | .inl (6, _) => i == 137
  | .inl _ => true
  | .inr (_, cs) => (cs.all fun c => c == 0 || (Nat.ble 3 c && Nat.blt c 146)) || ((i == 117 || i == 121) && cs == [1, 0, 0, 0])
theorem z_okS_all : (k_shape.mapIdx z_okS).all id = true := by decide +kernel
theorem z_okS_at {i : Nat} {x : k_Sh} (h : k_shape[i]? = some x) : z_okS i x = true := by
  have h1 := List.all_eq_true.mp z_okS_all (z_okS i x) (by
    rw [List.mem_iff_getElem?]
    refine ⟨i, ?_⟩
    rw [List.getElem?_mapIdx, h]
    rfl)
  exact h1
theorem k_okc_at {N i : Nat} {x : k_Sh} (hN : 143 ≤ N) (hz : z_okS i x = true) (h117 : ∃ a : Nat, a < N ∧ σ 117 0 = (a : Int)) (h121 : σ 121 0 = 122) (h25 : ∀ j, σ 25 j = 0 ∨ (σ 25 j).toNat - 1 < 143) (h137 : ∀ j, σ 137 j = 0 ∨ 1000000 ≤ (σ 137 j).toNat - 1) : k_okc N x (σ i) := by
  rcases x with ⟨kd, n⟩ | ⟨ci, cs⟩
  · match kd, hz with
    | 0, _ => exact True.intro
    | 1, _ => exact True.intro
    | 2, _ => exact True.intro
    | 3, _ => exact True.intro
    | 4, _ => exact True.intro
    | 5, hz =>
      have e : i = 25 := by simpa [z_okS] using hz
      subst e
      exact fun j => (h25 j).imp id fun y => Or.inl (show (σ 25 j).toNat - 1 < N by omega)
    | 6, hz =>
      have e : i = 137 := by simpa [z_okS] using hz
      subst e
      exact fun j => (h137 j).imp id fun y => Or.inr y
    | kd + 7, _ => exact True.intro
  · show ∀ (k c : Nat), cs[k]? = some c → k_okv N (k_fv c (σ i k))
    have hz : ((cs.all fun c => c == 0 || (Nat.ble 3 c && Nat.blt c 146)) || ((i == 117 || i == 121) && cs == [1, 0, 0, 0])) = true := hz
    intro k c hc
    rcases (Bool.or_eq_true _ _).mp hz with h | h
    · have h2 := List.all_eq_true.mp h c (List.mem_of_getElem? hc)
      rcases (Bool.or_eq_true _ _).mp h2 with h3 | h3
      · have : c = 0 := by simpa using h3
        subst this
        exact True.intro
      · obtain ⟨h4, h5⟩ := (Bool.and_eq_true _ _).mp h3
        have h4 := Nat.le_of_ble_eq_true h4
        have h5 : c ≤ 145 := by simpa [Nat.blt] using h5
        obtain ⟨d, rfl⟩ : ∃ d, c = d + 3 := ⟨c - 3, by omega⟩
        exact Or.inl (show d < N by omega)
    · obtain ⟨h4, h5⟩ := (Bool.and_eq_true _ _).mp h
      have e5 : cs = [1, 0, 0, 0] := by simpa using h5
      subst e5
      have hi : i = 117 ∨ i = 121 := by simpa using h4
      have h0 : ∃ a : Nat, a < N ∧ σ i 0 = (a : Int) := by
        rcases hi with rfl | rfl
        · exact h117
        · exact ⟨122, by omega, h121⟩
      obtain ⟨a, ha, ea⟩ := h0
      match k, hc with
      | 0, hc =>
        have : c = 1 := (Option.some.inj hc).symm
        subst this
        exact Or.inl (show (σ i 0).toNat < N by omega)
      | 1, hc =>
        have : c = 0 := (Option.some.inj hc).symm
        subst this
        exact True.intro
      | 2, hc =>
        have : c = 0 := (Option.some.inj hc).symm
        subst this
        exact True.intro
      | 3, hc =>
        have : c = 0 := (Option.some.inj hc).symm
        subst this
        exact True.intro
      | k + 4, hc => cases hc
theorem k_ok_of (h : k_Gr sh v w) (h117 : σ 117 0 = (v : Int)) (h121 : σ 121 0 = 122) (h25 : ∀ j, σ 25 j = 0 ∨ (σ 25 j).toNat - 1 < 143) (h137 : ∀ j, σ 137 j = 0 ∨ 1000000 ≤ (σ 137 j).toNat - 1) : k_ok sh σ := by
  obtain ⟨-, ⟨g1, g2, -⟩, -⟩ := k_Gr_v h
  intro i x hx
  by_cases q : i < 143
  · have hs : k_shape[i]? = some x := by
      have hsh := k_Gr_main h
      have : i < k_shape.length := by rw [k_shape_len]; exact q
      have e := hsh i k_shape[i] (List.getElem?_eq_getElem this)
      rw [hx] at e
      rw [List.getElem?_eq_getElem this, ← e]
    exact k_okc_at g2 (z_okS_at hs) ⟨v, g1, h117⟩ h121 h25 h137
  · have : x = .inl (2, 34) ∨ x = .inl (2, 70) := by
      rcases h with ⟨rfl, -⟩ | ⟨rfl, -⟩ | ⟨rfl, -⟩
      · have := (List.getElem?_eq_some_iff.mp hx).1
        rw [k_shape_len] at this
        omega
      · rw [List.getElem?_append_right (by rw [k_shape_len]; omega), k_shape_len] at hx
        have h1 := List.mem_of_getElem? hx
        exact Or.inl (List.mem_singleton.mp h1)
      · rw [List.append_assoc, List.getElem?_append_right (by rw [k_shape_len]; omega), k_shape_len] at hx
        have h1 := List.mem_of_getElem? hx
        simpa using h1
    rcases this with rfl | rfl
    · exact True.intro
    · exact True.intro
/-- the class's cells -/
def k_Ic (sh : List k_Sh) (v w : Nat) (σ : Nat → Nat → Int) : Prop := k_Gr sh v w ∧ k_OK σ ∧ k_A5 σ ∧ k_PJ sh σ v w ∧ k_LB sh σ 16 ∧ ∀ j, 8 ≤ j → σ 25 j = 0
/-- the model's -/
def k_Im (ρ : Nat → Nat → Int) : Prop := k_MA ρ ∧ k_Fo ρ ∧ ∀ j, 12 ≤ j → ρ 137 j = 0
/-- and how they go together -/
def k_Ir (v : Nat) (σ ρ : Nat → Nat → Int) : Prop := k_Rel σ ρ ∧ k_Lr σ ρ ∧ k_Bf v σ ρ ∧ k_Nm σ ρ
def k_Inv (sh : List k_Sh) (σ : Nat → Nat → Int) : Prop := ∃ v w, k_Ic sh v w σ ∧ k_Im σ ∧ k_Ir v σ σ
theorem k_Ic_ok (h : k_Ic sh v w σ) (hm : k_Im σ) : k_ok sh σ := by
  obtain ⟨hG, hOK, -, hP, hL, h25⟩ := h
  obtain ⟨hB, -⟩ := k_PJ_un hP
  refine k_ok_of hG hB.2.2.2.1.1 hL.1.2.2.2.1.1 (fun j => ?_) (fun j => ?_)
  · by_cases q : j < 8
    · have := hOK.2.2.2.2.1 j q
      exact Or.inr (by omega)
    · exact Or.inl (h25 j (by omega))
  · by_cases q : j < 12
    · have := hm.2.1 j q
      exact Or.inr (by omega)
    · exact Or.inl (hm.2.2 j (by omega))
theorem k_Ic_ch (h : k_Ic sh v w σ) (hOK : k_OK τ) (h5 : k_A5 τ) (e : ∀ i, i = 25 ∨ 117 ≤ i ∧ i < 123 ∨ i = v → τ i = σ i) : k_Ic sh v w τ := by
  obtain ⟨hG, -, -, hP, hL, h25⟩ := h
  obtain ⟨hB, b1, b2, b3⟩ := k_PJ_un hP
  refine ⟨hG, hOK, h5, k_PJ_mk (k_SB_of hB (e 117 (by omega)) (e v (Or.inr (Or.inr rfl)))) (by rw [e 120 (by omega)]; exact b1) (by rw [e 119 (by omega)]; exact b2) b3, ⟨k_SB_of hL.1 (e 121 (by omega)) (e 122 (by omega)), ?_⟩, fun j hj => ?_⟩
  · rw [e 121 (by omega)]
    exact hL.2
  · rw [e 25 (Or.inl rfl)]
    exact h25 j hj
theorem k_Ic_cong (h : k_Ic sh v w σ) (e : ∀ i, i < 123 ∨ i = v → τ i = σ i) : k_Ic sh v w τ := k_Ic_ch h (k_OK_107 h.2.1 fun i hi => e i (by omega)) (k_A5_of h.2.2.1 (e 18 (by omega))) fun i hi => e i (by omega)
theorem k_MA_cong (h : k_MA σ) (e : ∀ i, 123 ≤ i → i ≤ 140 → τ i = σ i) : k_MA τ := by
  unfold k_MA at h ⊢
  rw [e 123 (by decide) (by decide), e 124 (by decide) (by decide), e 129 (by decide) (by decide), e 130 (by decide) (by decide), e 131 (by decide) (by decide), e 132 (by decide) (by decide), e 133 (by decide) (by decide), e 134 (by decide) (by decide), e 135 (by decide) (by decide), e 136 (by decide) (by decide), e 138 (by decide) (by decide), e 139 (by decide) (by decide), e 140 (by decide) (by decide)]
  exact h
theorem k_Bf_cong {σ' ρ' : Nat → Nat → Int} (h : k_Bf v σ ρ) (e1 : σ' 117 = σ 117) (e2 : σ' v = σ v) (e3 : ρ' 123 16 = ρ 123 16) (e4 : ρ' 130 = ρ 130) : k_Bf v σ' ρ' := by
  unfold k_Bf at h ⊢
  rw [e1, e2, e3, e4]
  exact h
theorem k_Nm_cong {σ' ρ' : Nat → Nat → Int} (h : k_Nm σ ρ) (e1 : σ' 0 11 = σ 0 11) (e2 : σ' 0 12 = σ 0 12) (e3 : σ' 0 13 = σ 0 13) (e4 : ρ' 123 10 = ρ 123 10) (e5 : ρ' 123 11 = ρ 123 11) (e6 : ρ' 123 12 = ρ 123 12) : k_Nm σ' ρ' := by
  unfold k_Nm at h ⊢
  rw [e1, e2, e3, e4, e5, e6]
  exact h
/-- the numbers that changes and askings leave alone -/
def k_Qn (υ ρ : Nat → Nat → Int) : Prop := ∀ j, j = 10 ∨ j = 11 ∨ j = 12 ∨ j = 15 ∨ j = 16 → υ 123 j = ρ 123 j
theorem k_Ir_rel {σ' ρ' : Nat → Nat → Int} (h : k_Ir v σ ρ) (hr : k_Rel σ' ρ') (e : ∀ i, i = 117 ∨ i = 121 ∨ i = 122 ∨ i = v → σ' i = σ i) (e0 : ∀ j, 11 ≤ j → j ≤ 13 → σ' 0 j = σ 0 j) (hn : k_Qn ρ' ρ) (m9 : ρ' 129 = ρ 129) (m0 : ρ' 130 = ρ 130) : k_Ir v σ' ρ' :=
  ⟨hr, k_Lr_cong h.2.1 (e 121 (by omega)) (e 122 (by omega)) (hn 15 (by omega)) m9, k_Bf_cong h.2.2.1 (e 117 (by omega)) (e v (by omega)) (hn 16 (by omega)) m0, k_Nm_cong h.2.2.2 (e0 11 (by omega) (by omega)) (e0 12 (by omega) (by omega)) (e0 13 (by omega) (by omega)) (hn 10 (by omega)) (hn 11 (by omega)) (hn 12 (by omega))⟩
theorem k_Ir_same {σ' ρ' : Nat → Nat → Int} (h : k_Ir v σ ρ) (hH : k_Hi σ) (e : ∀ i, i < 123 ∨ i = v → σ' i = σ i) (m : ∀ i, 123 ≤ i → i ≤ 140 → ρ' i = ρ i) : k_Ir v σ' ρ' := by
  have e123 := m 123 (by decide) (by decide)
  refine k_Ir_rel h (k_Rel_cong h.1 hH (fun i _ _ => e i (by omega)) (fun i _ _ => e i (by omega)) (by rw [e 0 (by omega)]) (by rw [e123]) (by rw [e123]) (by rw [e123]) (m _ (by decide) (by decide)) (m _ (by decide) (by decide)) (m _ (by decide) (by decide))) (fun i hi => e i (by omega)) (fun j _ _ => by rw [e 0 (by omega)]) (fun j _ => by rw [e123]) (m _ (by decide) (by decide)) (m _ (by decide) (by decide))
theorem k_Fc_of (hF : k_F0 (ρ 123)) (hr : k_Rel σ ρ) (hn : k_Nm σ ρ) : k_Fc σ := by
  obtain ⟨h5, h6, h7, h8, h9, h10, h11, h12, -⟩ := hF
  obtain ⟨n1, n2, n3, n4⟩ := hn
  have r9 := hr.2.2.2
  have r6 := hr.2.2.1.1
  refine ⟨?_, ?_, ?_, ?_, ?_⟩ <;> omega
theorem w_out_ne {r : Option Value ⊕ String} {i : Nat} (h : i ≠ 141) : w_out r τ i = τ i := by
  unfold w_out
  split
  · exact k_up_ne h
  · rfl
theorem w_outB_ne {r : Option Value ⊕ String} {i : Nat} (h : i ≠ 141) : w_outB r τ i = τ i := by
  unfold w_outB
  split
  · exact k_up_ne h
  · rfl
theorem w_outD_ne {r : Option Value ⊕ String} {i : Nat} (h : i ≠ 142) : w_outD r τ i = τ i := by
  unfold w_outD
  split
  · exact k_up_ne h
  · rfl
theorem w_code_l {l : List String} {o : Option Value} : w_code l (.inl o) = 0 := by
  cases l <;> rfl
theorem w_code_r : ∀ (l : List String) (X : String), 1 ≤ w_code l (.inr X) ∧ (X ∈ l → w_code l (.inr X) ≤ l.length)
  | [], X => ⟨Int.le_refl 1, fun h => by cases h⟩
  | a :: l, X => by
    obtain ⟨h1, h2⟩ := w_code_r l X
    have e : w_code (a :: l) (.inr X) = if X = a then 1 else 1 + w_code l (.inr X) := rfl
    rw [e]
    by_cases q : X = a
    · rw [if_pos q]
      exact ⟨Int.le_refl 1, fun _ => by rw [List.length_cons]; omega⟩
    · rw [if_neg q]
      refine ⟨by omega, fun h => ?_⟩
      have := h2 ((List.mem_cons.mp h).resolve_left q)
      rw [List.length_cons]
      omega
/-- the shape of what comes out -/
def k_Sp (tbl : List String) (r : Option Value ⊕ String) : Prop := (∃ x : Int32, r = .inl (some (.int x))) ∨ ∃ X, X ∈ tbl ∧ r = .inr X
theorem sp_ag {tbl : List String} {r : Option Value ⊕ String} {b t : Int} (h : k_ag tbl r b t) : k_Sp tbl r := h.imp (fun ⟨x, h, _⟩ => ⟨x, h⟩) (fun ⟨X, h1, h2, _⟩ => ⟨X, h1, h2⟩)
theorem sp_agB {tbl : List String} {r : Option Value ⊕ String} {b : Bool} {t : Int} (h : k_agB tbl r b t) : k_Sp tbl r := h.imp (fun ⟨x, h, _⟩ => ⟨x, h⟩) (fun ⟨X, h1, h2, _⟩ => ⟨X, h1, h2⟩)
theorem sp1 {a : String} {r : Option Value ⊕ String} (h : k_Sp [a] r) : (∃ x : Int32, r = .inl (some (.int x))) ∨ r = .inr a := h.imp id fun ⟨X, h1, h2⟩ => by
  rw [List.mem_singleton.mp h1] at h2
  exact h2
theorem sp2 {a b : String} {r : Option Value ⊕ String} (h : k_Sp [a, b] r) : (∃ x : Int32, r = .inl (some (.int x))) ∨ r = .inr a ∨ r = .inr b := h.imp id fun ⟨X, h1, h2⟩ => by
  rcases List.mem_cons.mp h1 with rfl | h1
  · exact Or.inl h2
  · rw [List.mem_singleton.mp h1] at h2
    exact Or.inr h2
theorem sp3 {a b c : String} {r : Option Value ⊕ String} (h : k_Sp [a, b, c] r) : (∃ x : Int32, r = .inl (some (.int x))) ∨ r = .inr a ∨ r = .inr b ∨ r = .inr c := h.imp id fun ⟨X, h1, h2⟩ => by
  rcases List.mem_cons.mp h1 with rfl | h1
  · exact Or.inl h2
  · rcases List.mem_cons.mp h1 with rfl | h1
    · exact Or.inr (Or.inl h2)
    · rw [List.mem_singleton.mp h1] at h2
      exact Or.inr (Or.inr h2)
theorem k_Inv_of {v' w' : Nat} (hIm : k_Im σ) (hIc : k_Ic sh' v' w' τ) (hIr : k_Ir v' τ υ) (hMA : k_MA υ) (h137 : υ 137 = σ 137) (e : ∀ i, i < 123 ∨ i = v' → υ i = τ i) : k_Inv sh' υ :=
  ⟨v', w', k_Ic_cong hIc e, ⟨hMA, fun f hf => by rw [h137]; exact hIm.2.1 f hf, fun j hj => by rw [h137]; exact hIm.2.2 j hj⟩, k_Ir_same hIr hIc.2.1.2.2.2.2 e fun _ _ _ => rfl⟩
abbrev k_RV (t : Int × (Nat → Nat → Int)) : Prop := (-1 ≤ t.1 ∧ t.1 ≤ 1000) ∧ k_MA t.2
/-- a command done: from its contracts, and that both answer alike -/
theorem stp_gen {v' w' D d8 k1 n1 : Nat} {tbl : List String} {r : Option Value ⊕ String} {m : (Nat → Nat → Int) → Int × (Nat → Nat → Int)} (hIm : k_Im σ) (hG' : k_Gr sh' v' w') (hτ : ∀ i, 123 ≤ i → i ≤ 140 → τ i = σ i) (hsp : k_Sp tbl r) (hl : tbl.length ≤ 3) (hC : k_Sp tbl r → k_C E ML D (.ref 0 :: (as ++ [.ref 141])) sh σ k1 n1 (k_ret (some (.int (iI (w_code tbl r)))) sh' (w_out r τ))) (hb : D ≤ 20 ∧ d8 ≤ 20 ∧ k1 ≤ 1 ∧ n1 ≤ 142)
    (h8 : k_MA (w_out r τ) → k_C E M8 d8 (.ref 123 :: as) sh' (w_out r τ) 0 0 (k_pP sh' k_RV (m (w_out r τ)))) (hfin : ∀ ρ : Nat → Nat → Int, (∀ i, i ≠ 141 → ρ i = τ i) → k_RV (m ρ) → k_ag tbl r (m ρ).1 ((m ρ).2 123 7) ∧ k_Ic sh' v' w' τ ∧ k_Ir v' τ (m ρ).2) (hfr : ∀ (ρ : Nat → Nat → Int) (i : Nat), i < 123 ∨ i = 137 ∨ 140 < i → (m ρ).2 i = ρ i) : k_Stp E k_Inv ML M8 as k_r sh σ := by
  have hne : ∀ i, i ≠ 141 → w_out r τ i = τ i := fun i hi => w_out_ne hi
  have hM : k_MA (w_out r τ) := k_MA_cong hIm.1 fun i h1 h2 => (hne i (by omega)).trans (hτ i h1 h2)
  refine ⟨D, d8, k1, n1, sh', w_out r τ, w_code tbl r, (m (w_out r τ)).1, (m (w_out r τ)).2, k_RV (m (w_out r τ)), hb, k_Gr_main hG', hC hsp, h8 hM, fun hR => ?_⟩
  obtain ⟨f1, f2, f3⟩ := hfin (w_out r τ) hne hR
  have hv := k_Gr_v hG'
  have f4 : k_Inv sh' (m (w_out r τ)).2 := k_Inv_of hIm f2 f3 hR.2 ((hfr _ 137 (by omega)).trans ((hne 137 (by omega)).trans (hτ 137 (by omega) (by omega)))) (fun i hi => (hfr _ i (by omega)).trans (hne i (by omega)))
  have hr1 := hR.1
  have e141 : (m (w_out r τ)).2 141 0 = w_out r τ 141 0 := by rw [hfr _ 141 (by omega)]
  rcases f1 with ⟨x, rfl, y1, y2⟩ | ⟨X, y0, rfl, y1⟩
  · refine ⟨by rw [y2, w_code_l], by rw [w_code_l]; decide, fun _ => ?_, by show k_r _; omega, f4⟩
    rw [e141, ← y1]
    show k_up τ 141 (k_u1 (τ 141) 0 x.toInt) 141 0 = x.toInt
    rw [k_up_same]
    exact if_pos rfl
  · have hw := w_code_r tbl X
    have hw2 := hw.2 y0
    exact ⟨y1, by omega, fun y => by omega, by show k_r _; omega, f4⟩
theorem stp_genB {v' w' D d8 k1 n1 : Nat} {tbl : List String} {r : Option Value ⊕ String} {m : (Nat → Nat → Int) → Bool × (Nat → Nat → Int)} (hIm : k_Im σ) (hG' : k_Gr sh' v' w') (hτ : ∀ i, 123 ≤ i → i ≤ 140 → τ i = σ i) (hsp : k_Sp tbl r) (hl : tbl.length ≤ 3) (hC : k_Sp tbl r → k_C E ML D (.ref 0 :: (as ++ [.ref 141])) sh σ k1 n1 (k_ret (some (.int (iI (w_code tbl r)))) sh' (w_outB r τ))) (hb : D ≤ 20 ∧ d8 ≤ 20 ∧ k1 ≤ 1 ∧ n1 ≤ 142)
    (h8 : k_MA (w_outB r τ) → k_C E M8 d8 (.ref 123 :: as) sh' (w_outB r τ) 0 0 (k_pPB sh' (fun t => k_MA t.2) (m (w_outB r τ)))) (hfin : ∀ ρ : Nat → Nat → Int, (∀ i, i ≠ 141 → ρ i = τ i) → k_MA (m ρ).2 → k_agB tbl r (m ρ).1 ((m ρ).2 123 7) ∧ k_Ic sh' v' w' τ ∧ k_Ir v' τ (m ρ).2) (hfr : ∀ (ρ : Nat → Nat → Int) (i : Nat), i < 123 ∨ i = 137 ∨ 140 < i → (m ρ).2 i = ρ i) : k_Stp E k_Inv ML M8 as (fun b => b = 0 ∨ b = 1) sh σ := by
  have hne : ∀ i, i ≠ 141 → w_outB r τ i = τ i := fun i hi => w_outB_ne hi
  have hM : k_MA (w_outB r τ) := k_MA_cong hIm.1 fun i h1 h2 => (hne i (by omega)).trans (hτ i h1 h2)
  refine ⟨D, d8, k1, n1, sh', w_outB r τ, w_code tbl r, zb ((m (w_outB r τ)).1 = true), (m (w_outB r τ)).2, k_MA (m (w_outB r τ)).2, hb, k_Gr_main hG', hC hsp, h8 hM, fun hR => ?_⟩
  obtain ⟨f1, f2, f3⟩ := hfin (w_outB r τ) hne hR
  have hv := k_Gr_v hG'
  have f4 : k_Inv sh' (m (w_outB r τ)).2 := k_Inv_of hIm f2 f3 hR ((hfr _ 137 (by omega)).trans ((hne 137 (by omega)).trans (hτ 137 (by omega) (by omega)))) (fun i hi => (hfr _ i (by omega)).trans (hne i (by omega)))
  have e141 : (m (w_outB r τ)).2 141 0 = w_outB r τ 141 0 := by rw [hfr _ 141 (by omega)]
  have hz : zb ((m (w_outB r τ)).1 = true) = 0 ∨ zb ((m (w_outB r τ)).1 = true) = 1 := by
    have := zb_r ((m (w_outB r τ)).1 = true)
    omega
  rcases f1 with ⟨x, rfl, y1, y2⟩ | ⟨X, y0, rfl, y1⟩
  · refine ⟨by rw [y2, w_code_l], by rw [w_code_l]; decide, fun _ => ?_, hz, f4⟩
    rw [e141]
    show k_up τ 141 (k_u1 (τ 141) 0 (if x.toInt = 0 then 0 else 1)) 141 0 = _
    rw [k_up_same, n_u1_eq]
    by_cases q : x.toInt = 0
    · rw [if_pos q, zb_f (by rw [y1.mp q]; decide)]
    · rw [if_neg q, zb_t]
      cases hb : (m (w_outB (Sum.inl (some (Value.int x))) τ)).1 with
      | true => rfl
      | false => exact absurd (y1.mpr hb) q
  · have hw := w_code_r tbl X
    have hw2 := hw.2 y0
    exact ⟨y1, by omega, fun y => by omega, hz, f4⟩
end K_IV
