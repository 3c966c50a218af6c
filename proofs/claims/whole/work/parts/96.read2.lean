/-! ===== READING one form, alike ===== -/
section K_R40
variable {σ ρ τ : Nat → Nat → Int} {r : Nat → Int} {v : Nat}
def n_cnt (i : Nat) : Nat → Nat → Nat
  | 0, _ => 0
  | f + 1, j => (if k_ch i j = 35 ∨ k_ch i j = 64 then 1 else 0) + n_cnt i f (j + 1)
theorem n_cnt_3 : ∀ i : Fin 12, n_cnt i.val (k_len i.val) 0 ≤ 3 := by decide +kernel
theorem n_no : ∀ i : Fin 12, ∀ j : Fin 20, j.val < k_len i.val → k_ch i.val j.val ≠ 68 ∧ k_ch i.val j.val ≠ 78 := by decide +kernel
/-- what reading a form leaves -/
def k_Rf (c : Int) (τ σ : Nat → Nat → Int) : Prop := (∀ a, a ≠ 116 → a ≠ 120 → τ a = σ a) ∧ (∀ j, j ≠ 4 → τ 116 j = σ 116 j) ∧ ∀ j : Nat, j < (c * 3).toNat → τ 120 j = σ 120 j
theorem k_Rf_rf {c : Int} : k_Rf c σ σ := ⟨fun _ _ _ => rfl, fun _ _ => rfl, fun _ _ => rfl⟩
theorem k_Rf_tr {c : Int} {υ : Nat → Nat → Int} (h : k_Rf c υ τ) (h2 : k_Rf c τ σ) : k_Rf c υ σ := ⟨fun a x y => (h.1 a x y).trans (h2.1 a x y), fun j x => (h.2.1 j x).trans (h2.2.1 j x), fun j x => (h.2.2 j x).trans (h2.2.2 j x)⟩
theorem k_Rf_at {c : Int} (a : Int) : k_Rf c (u_at σ a) σ := ⟨fun i h1 _ => k_up_ne h1, fun j hj => by
  unfold u_at
  rw [k_up_same]
  exact if_neg hj, fun j _ => congrFun (k_up_ne (σ := σ) (a := 116) (i := 120) (f := k_u1 (σ 116) 4 a) (by decide)) j⟩
theorem k_Rf_num {c t z : Int} (hc : 0 ≤ c ∧ c ≤ 11) (ht : 0 ≤ t ∧ t < 3) : k_Rf c (u_num σ (c * 3 + t) z) σ := ⟨fun i _ h1 => k_up_ne h1, fun j _ => congrFun (k_up_ne (σ := σ) (a := 120) (i := 116) (f := f_write (σ 120) 36 (c * 3 + t) z) (by decide)) j, fun j hj => by
  unfold u_num f_write
  rw [k_up_same, if_pos (by omega)]
  exact if_neg (by omega)⟩
theorem u_num_120 {c t z : Int} (hc : 0 ≤ c ∧ c ≤ 11) (ht : 0 ≤ t ∧ t < 3) : u_num σ (c * 3 + t) z 120 = k_u1 (σ 120) ((c * 3).toNat + t.toNat) z := by
  unfold u_num f_write
  rw [k_up_same, if_pos (by omega), show (c * 3 + t).toNat = (c * 3).toNat + t.toNat by omega]
theorem u_at_at (a b : Int) : u_at (u_at σ b) a = u_at σ a := by
  unfold u_at
  rw [k_up_up, k_up_same]
  refine congrArg (k_up σ 116) (funext fun j => ?_)
  unfold k_u1
  split <;> rfl
theorem q_mt {i : Nat} (hi : i < 12) {c fr : Int} (hc : 0 ≤ c ∧ c ≤ 11) : ∀ (f j : Nat) (σ : Nat → Nat → Int) (x : Int × Int × (Nat → Int)), j + f = k_len i → k_Tx v σ ρ → σ 116 4 = x.1 → 0 ≤ x.1 → 0 ≤ x.2.1 → x.2.1 + (n_cnt i f j : Int) ≤ 3 → (∀ t : Nat, (t : Int) < x.2.1 → σ 120 ((c * 3).toNat + t) = x.2.2 t) → k_Rf c (g_mt v i f j (c * 3 + x.2.1) σ).1 σ ∧ (((g_mt v i f j (c * 3 + x.2.1) σ).2 = 0 ∧ ∃ row, k_for (b_reads_8 ρ (12 + i) fr) f j x = .inl (false, k_up (k_up ρ 123 (k_u1 (ρ 123) 30 ((g_mt v i f j (c * 3 + x.2.1) σ).1 116 4))) 140 row)) ∨ ((g_mt v i f j (c * 3 + x.2.1) σ).2 = 1 ∧ ∃ x', k_for (b_reads_8 ρ (12 + i) fr) f j x = .inr x' ∧ (g_mt v i f j (c * 3 + x.2.1) σ).1 116 4 = x'.1 ∧ x.1 + f ≤ x'.1 ∧ x'.2.1 = x.2.1 + (n_cnt i f j : Int) ∧ ∀ t : Nat, (t : Int) < x'.2.1 → (g_mt v i f j (c * 3 + x.2.1) σ).1 120 ((c * 3).toNat + t) = x'.2.2 t))
  | 0, j, σ, x, hk, hT, h4, h0, h1, hn, hr => by
    refine ⟨k_Rf_rf, Or.inr ⟨rfl, x, rfl, h4, by omega, ?_, hr⟩⟩
    have : n_cnt i 0 j = 0 := rfl
    omega
  | f + 1, j, σ, x, hk, hT, h4, h0, h1, hn, hr => by
    obtain ⟨x1, x2, x3⟩ := x
    dsimp only at h4 h0 h1 hn hr ⊢
    have hl := k_form_len ⟨i, hi⟩
    have hch := k_form_ch ⟨i, hi⟩ ⟨j, by have := hl.2; dsimp only at this; omega⟩ (by dsimp only; omega)
    dsimp only at hch
    have efor : k_for (b_reads_8 ρ (12 + i) fr) (f + 1) j (x1, x2, x3) = k_cn2 (k_for (b_reads_8 ρ (12 + i) fr) f (j + 1)) (b_reads_8 ρ (12 + i) fr j (x1, x2, x3)) := rfl
    have hd := q_digit hT (by omega)
    rw [h4] at hd
    have hn1 : (n_cnt i (f + 1) j : Int) = (if k_ch i j = 35 ∨ k_ch i j = 64 then 1 else 0) + (n_cnt i f (j + 1) : Int) := by
      show (((if k_ch i j = 35 ∨ k_ch i j = 64 then 1 else 0) + n_cnt i f (j + 1) : Nat) : Int) = _
      split <;> omega
    rw [hn1] at hn
    rw [efor]
    unfold b_reads_8
    rw [Int.toNat_natCast, hch]
    dsimp only
    by_cases q : k_ch i j = 35 ∨ k_ch i j = 64
    · rw [if_pos q] at hn
      have eg : g_mt v i (f + 1) j (c * 3 + x2) σ = if (g_rn σ v (c * 3 + x2) (zb (k_ch i j = 64))).2 = 0 then ((g_rn σ v (c * 3 + x2) (zb (k_ch i j = 64))).1, 0) else g_mt v i f (j + 1) (c * 3 + x2 + 1) (g_rn σ v (c * 3 + x2) (zb (k_ch i j = 64))).1 := by
        rw [g_mt]
        exact if_pos q
      rw [eg]
      by_cases d : f_dgt σ v = -1
      · have er : g_rn σ v (c * 3 + x2) (zb (k_ch i j = 64)) = (σ, 0) := if_pos d
        have hm : ¬ m_isDigit (ρ 123) (ρ 130) x1 = true := fun y => hd.1.mp y d
        rw [er, if_pos rfl]
        refine ⟨k_Rf_rf, Or.inl ⟨rfl, x3, ?_⟩⟩
        dsimp only
        rw [h4]
        by_cases w : k_ch i j = 35
        · rw [if_pos w, if_pos rfl, if_neg hm]
          rfl
        · have w2 : k_ch i j = 64 := q.resolve_left w
          rw [if_neg w, if_pos w2, if_neg (show ¬ (78 : Int) = 68 by decide), if_pos rfl, if_neg hm]
          rfl
      · obtain ⟨hdv, hlt⟩ := hd.2 d
        have hm : m_isDigit (ρ 123) (ρ 130) x1 = true := hd.1.mpr d
        -- one sign on, or two
        have hgo : ∀ (z a : Int), x1 + 1 ≤ a → (g_rn σ v (c * 3 + x2) (zb (k_ch i j = 64))) = (u_num (u_at σ a) (c * 3 + x2) z, 1) → ∀ row : Nat → Int, (∀ t : Nat, t ≠ x2.toNat → row t = x3 t) → row x2.toNat = z → k_Rf c (if (g_rn σ v (c * 3 + x2) (zb (k_ch i j = 64))).2 = 0 then ((g_rn σ v (c * 3 + x2) (zb (k_ch i j = 64))).1, (0 : Int)) else g_mt v i f (j + 1) (c * 3 + x2 + 1) (g_rn σ v (c * 3 + x2) (zb (k_ch i j = 64))).1).1 σ ∧ (((if (g_rn σ v (c * 3 + x2) (zb (k_ch i j = 64))).2 = 0 then ((g_rn σ v (c * 3 + x2) (zb (k_ch i j = 64))).1, (0 : Int)) else g_mt v i f (j + 1) (c * 3 + x2 + 1) (g_rn σ v (c * 3 + x2) (zb (k_ch i j = 64))).1).2 = 0 ∧ ∃ row', k_for (b_reads_8 ρ (12 + i) fr) f (j + 1) (a, x2 + 1, row) = .inl (false, k_up (k_up ρ 123 (k_u1 (ρ 123) 30 ((if (g_rn σ v (c * 3 + x2) (zb (k_ch i j = 64))).2 = 0 then ((g_rn σ v (c * 3 + x2) (zb (k_ch i j = 64))).1, (0 : Int)) else g_mt v i f (j + 1) (c * 3 + x2 + 1) (g_rn σ v (c * 3 + x2) (zb (k_ch i j = 64))).1).1 116 4))) 140 row')) ∨ ((if (g_rn σ v (c * 3 + x2) (zb (k_ch i j = 64))).2 = 0 then ((g_rn σ v (c * 3 + x2) (zb (k_ch i j = 64))).1, (0 : Int)) else g_mt v i f (j + 1) (c * 3 + x2 + 1) (g_rn σ v (c * 3 + x2) (zb (k_ch i j = 64))).1).2 = 1 ∧ ∃ x', k_for (b_reads_8 ρ (12 + i) fr) f (j + 1) (a, x2 + 1, row) = .inr x' ∧ (if (g_rn σ v (c * 3 + x2) (zb (k_ch i j = 64))).2 = 0 then ((g_rn σ v (c * 3 + x2) (zb (k_ch i j = 64))).1, (0 : Int)) else g_mt v i f (j + 1) (c * 3 + x2 + 1) (g_rn σ v (c * 3 + x2) (zb (k_ch i j = 64))).1).1 116 4 = x'.1 ∧ x1 + (f + 1 : Nat) ≤ x'.1 ∧ x'.2.1 = x2 + (n_cnt i (f + 1) j : Int) ∧ ∀ t : Nat, (t : Int) < x'.2.1 → (if (g_rn σ v (c * 3 + x2) (zb (k_ch i j = 64))).2 = 0 then ((g_rn σ v (c * 3 + x2) (zb (k_ch i j = 64))).1, (0 : Int)) else g_mt v i f (j + 1) (c * 3 + x2 + 1) (g_rn σ v (c * 3 + x2) (zb (k_ch i j = 64))).1).1 120 ((c * 3).toNat + t) = x'.2.2 t)) := fun z a ha er row hrow hz => by
          rw [er, if_neg (show ¬ (1 : Int) = 0 by decide)]
          have e120 : u_num (u_at σ a) (c * 3 + x2) z 120 = k_u1 (σ 120) ((c * 3).toNat + x2.toNat) z := (u_num_120 hc ⟨h1, by omega⟩).trans (by rw [show u_at σ a 120 = σ 120 from k_up_ne (by decide)])
          have ih := q_mt hi (fr := fr) hc f (j + 1) (u_num (u_at σ a) (c * 3 + x2) z) (a, x2 + 1, row) (by omega) (k_Tx_num (k_Tx_at hT a) _ _) ((congrFun (k_up_ne (σ := u_at σ a) (a := 120) (i := 116) (f := f_write (u_at σ a 120) 36 (c * 3 + x2) z) (by decide)) 4).trans (u_at_4 a)) (by dsimp only; omega) (by dsimp only; omega) (by dsimp only; omega) (fun t ht => by
            dsimp only at ht ⊢
            rw [e120]
            unfold k_u1
            by_cases e : t = x2.toNat
            · rw [if_pos (by omega), e, hz]
            · rw [if_neg (by omega), hr t (by omega), hrow t e])
          dsimp only at ih
          rw [← Int.add_assoc] at ih
          refine ⟨k_Rf_tr ih.1 (k_Rf_tr (k_Rf_num hc ⟨h1, by omega⟩) (k_Rf_at a)), ih.2.imp id fun ⟨y1, x', y2, y3, y4, y5, y6⟩ => ⟨y1, x', y2, y3, by omega, by rw [hn1, if_pos q]; omega, y6⟩⟩
        by_cases w : k_ch i j = 35
        · have w2 : ¬ k_ch i j = 64 := by omega
          rw [if_pos w, if_pos rfl, if_pos hm, if_neg (show ¬ (68 : Int) = 78 by decide)]
          refine hgo (f_dgt σ v) (x1 + 1) (Int.le_refl _) ?_ (k_u1 x3 x2.toNat (ρ 130 x1.toNat - 48)) (fun t ht => if_neg ht) ((if_pos rfl).trans hdv.symm)
          unfold g_rn
          rw [if_neg d, zb_f w2, if_neg (show ¬ (¬ (0 : Int) = 0 ∧ _) from fun y => y.1 rfl), h4]
        · have w2 : k_ch i j = 64 := q.resolve_left w
          rw [if_neg w, if_pos w2, if_neg (show ¬ (78 : Int) = 68 by decide), if_pos rfl, if_pos hm, if_pos rfl]
          have hd2 := q_digit (k_Tx_at hT (x1 + 1)) (by rw [u_at_4]; omega)
          rw [u_at_4] at hd2
          by_cases d2 : f_dgt (u_at σ (x1 + 1)) v = -1
          · rw [if_neg fun y => hd2.1.mp y d2]
            refine hgo (f_dgt σ v) (x1 + 1) (Int.le_refl _) ?_ (k_u1 x3 x2.toNat (ρ 130 x1.toNat - 48)) (fun t ht => if_neg ht) ((if_pos rfl).trans hdv.symm)
            unfold g_rn
            rw [if_neg d, h4, if_neg (fun y => y.2 d2)]
          · rw [if_pos (hd2.1.mpr d2)]
            obtain ⟨hv2, -⟩ := hd2.2 d2
            refine hgo (f_dgt σ v * 10 + f_dgt (u_at σ (x1 + 1)) v) (x1 + 1 + 1) (by omega) ?_ (k_u1 (k_u1 x3 x2.toNat (ρ 130 x1.toNat - 48)) x2.toNat (((10 * (ρ 130 x1.toNat - 48)) + ρ 130 (x1 + 1).toNat) - 48)) (fun t ht => (if_neg ht).trans (if_neg ht)) ((if_pos rfl).trans (by rw [hdv, hv2]; omega))
            unfold g_rn
            rw [if_neg d, h4, zb_t w2, if_pos ⟨by decide, d2⟩, u_at_4, u_at_at]
    · have hst := q_sign hT (by omega) (k_ch i j)
      rw [h4] at hst
      rw [if_neg q] at hn
      have q1 : ¬ k_ch i j = 35 := fun y => q (Or.inl y)
      have q2 : ¬ k_ch i j = 64 := fun y => q (Or.inr y)
      have eg : g_mt v i (f + 1) j (c * 3 + x2) σ = if f_st σ v (k_ch i j) then g_mt v i f (j + 1) (c * 3 + x2) (u_sk σ v (k_ch i j)) else (u_sk σ v (k_ch i j), 0) := by
        rw [g_mt]
        exact if_neg q
      rw [if_neg q1, if_neg q2, eg]
      have hno := n_no ⟨i, hi⟩ ⟨j, by have := hl.2; dsimp only at this; omega⟩ (by dsimp only; omega)
      dsimp only at hno
      rw [if_neg hno.1, if_neg hno.2]
      by_cases st : f_st σ v (k_ch i j)
      · obtain ⟨s1, s2⟩ := hst.mp st
        rw [if_pos st, if_pos s1, if_pos s2]
        have esk : u_sk σ v (k_ch i j) = u_at σ (x1 + 1) := by
          unfold u_sk
          rw [zb_t st, h4]
        rw [esk]
        have ih := q_mt hi (fr := fr) hc f (j + 1) (u_at σ (x1 + 1)) (x1 + 1, x2, x3) (by omega) (k_Tx_at hT _) (u_at_4 _) (by dsimp only; omega) h1 (by dsimp only; omega) (fun t ht => by
          rw [show u_at σ (x1 + 1) 120 = σ 120 from k_up_ne (by decide)]
          exact hr t ht)
        dsimp only at ih
        exact ⟨k_Rf_tr ih.1 (k_Rf_at _), ih.2.imp id fun ⟨y1, x', y2, y3, y4, y5, y6⟩ => ⟨y1, x', y2, y3, by omega, by rw [hn1, if_neg q]; omega, y6⟩⟩
      · have esk : u_sk σ v (k_ch i j) = u_at σ x1 := by
          unfold u_sk
          rw [zb_f st, h4, Int.add_zero]
        rw [if_neg st, esk]
        refine ⟨k_Rf_at _, Or.inl ⟨rfl, x3, ?_⟩⟩
        dsimp only
        rw [u_at_4]
        by_cases s1 : x1 < ρ 123 28
        · rw [if_pos s1, if_neg fun y => st (hst.mpr ⟨s1, y⟩)]
          rfl
        · rw [if_neg s1]
          rfl
end K_R40
