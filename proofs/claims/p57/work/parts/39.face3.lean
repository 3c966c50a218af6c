/-! ===== THE FACE: enrolAll, the mean ===== -/
section K_FD
variable {E : k_E} {M M1 : k_M} {dp d1 pc k n k1 n1 na : Nat} {ls : List (Nat × Value)} {st as : List Value} {sh : List k_Sh} {σ σ' : Nat → Nat → Int} {Q Q1 : k_Q} {o : Option Value}
theorem u_give_ty (hI : k_Ty σ) {p : Int} (hp : 0 ≤ p ∧ p < 12) : k_Ty (u_give σ p) := u_enter_ty (u_giveN_ty hI hp _) hp
theorem u_give_ne (p : Int) {i : Nat} (hi : i ≠ 4) : u_give σ p i = u_best (u_roomy σ p) i := (u_enter_ne hi).trans (u_giveN_ne p _ hi)
theorem u_give_far (p : Int) {i : Nat} (hi : i ≠ 4 ∧ i ≠ 10 ∧ i ≠ 11 ∧ i ≠ 12 ∧ i ≠ 13) : u_give σ p i = σ i := by
  rw [u_give_ne p hi.1]
  unfold u_best g_put u_roomy
  simp [k_up, hi]
theorem u_give_sc (hI : k_Ty σ) (hS : k_Sc σ) (p : Int) : k_Sc (u_give σ p) := k_Sc_of (u_best_sc (u_roomy_sc hI hS p)) (u_give_ne p (by decide)) (u_give_ne p (by decide)) (u_give_ne p (by decide))
/-- all who can be enrolled are, in their order; how many attend all their wishes then -/
def g_ea (σ : Nat → Nat → Int) (n : Nat) : (Nat → Nat → Int) × Int := k_fold n (fun p T => if e_enrol T.1 (p : Int) = 0 then (u_give T.1 (p : Int), T.2 + zb (f_attends (u_give T.1 (p : Int)) (p : Int))) else T) (u_kep σ, 0)
theorem g_ea_s (σ : Nat → Nat → Int) (n : Nat) : g_ea σ (n + 1) = if e_enrol (g_ea σ n).1 (n : Int) = 0 then (u_give (g_ea σ n).1 (n : Int), (g_ea σ n).2 + zb (f_attends (u_give (g_ea σ n).1 (n : Int)) (n : Int))) else g_ea σ n := rfl
theorem zb_acc {a b : Int} {n : Nat} (h : 0 ≤ a) (h2 : a ≤ n) (hz : 0 ≤ b ∧ b ≤ 1) : 0 ≤ a + b ∧ a + b ≤ ((n + 1 : Nat) : Int) := by omega
theorem zb_le5 {a : Int} {n : Nat} (h2 : a ≤ n) : a ≤ ((n + 1 : Nat) : Int) := by omega
theorem g_ea_ok (hI : k_Ty σ) (hS : k_Sc σ) (hH : k_Hi σ) : ∀ n : Nat, n ≤ 12 → k_Ty (g_ea σ n).1 ∧ k_Sc (g_ea σ n).1 ∧ (g_ea σ n).1 1 = σ 1 ∧ 0 ≤ (g_ea σ n).2 ∧ (g_ea σ n).2 ≤ n
  | 0, _ => by
    have hn := hH.2.1
    have e : ∀ i, i < 24 → u_kep σ i = σ i := fun i hi => u_keepB_ne hn (Or.inl hi)
    exact ⟨(k_kep_pl hH).ty hI, k_Sc_of hS (e 11 (by decide)) (e 12 (by decide)) (e 13 (by decide)), e 1 (by decide), Int.le_refl 0, Int.le_refl 0⟩
  | n + 1, h => by
    have hp : 0 ≤ (n : Int) ∧ (n : Int) < 12 := by omega
    have hn : n ≤ 12 := by omega
    obtain ⟨h1, h2, h3, h4, h5⟩ := g_ea_ok hI hS hH n hn
    rw [g_ea_s]
    split
    · have hz := zb_r (f_attends (u_give (g_ea σ n).1 (n : Int)) (n : Int))
      have hb := zb_acc h4 h5 hz
      exact ⟨u_give_ty h1 hp, u_give_sc h1 h2 _, (u_give_far _ (by decide)).trans h3, hb.1, hb.2⟩
    · exact ⟨h1, h2, h3, h4, zb_le5 h5⟩
theorem k_ddiv {x y : UInt64} (hd : decode M.2.1 pc = .ok (.ddiv, 1)) (hne : vf_n64 (FP.ddiv x y)) (kk : k_V E M dp (pc + 1) ls (.double (FP.ddiv x y) :: st) sh σ k n Q) : k_V E M dp pc ls (.double y :: .double x :: st) sh σ k n Q := by
  intro N0 ad0 p e R s m args below meth c H locs cells slots lsC ad mc ms C X hl
  exact lv_ddiv C.1 C.2.1 hd hne (kk N0 ad0 p e R s m args below meth c H locs cells slots lsC ad mc ms C X hl)
def f_mean (p c : Int) : UInt64 := FP.ddiv (FP.i2d (iI p)) (FP.i2d (iI c))
theorem f_meanOk : (List.range 65).all (fun p => (List.range 113).all (fun c => c == 0 || decide (f_mean (p : Int) (c : Int) &&& 0x7fffffffffffffff ≤ 0x7ff0000000000000))) = true := by decide +kernel
theorem f_openClN_r (σ : Nat → Nat → Int) : ∀ n : Nat, 0 ≤ f_openClN σ n ∧ f_openClN σ n ≤ 16 * n
  | 0 => ⟨Int.le_refl 0, Int.le_refl 0⟩
  | n + 1 => by
    have ih := f_openClN_r σ n
    have h2 := z_cnt_r (f_open σ (n : Int))
    show 0 ≤ f_openClN σ n + z_cnt _ ∧ f_openClN σ n + z_cnt _ ≤ 16 * ((n + 1 : Nat) : Int)
    omega
theorem f_meanN {p c : Int} (hp : 0 ≤ p ∧ p ≤ 64) (hc : 0 < c ∧ c ≤ 112) : vf_n64 (FP.ddiv (FP.i2d (iI p)) (FP.i2d (iI c))) := by
  have h := List.all_eq_true.mp (List.all_eq_true.mp f_meanOk p.toNat (List.mem_range.mpr (by omega))) c.toNat (List.mem_range.mpr (by omega))
  rw [Int.toNat_of_nonneg hp.1, Int.toNat_of_nonneg (Int.le_of_lt hc.1)] at h
  rcases Bool.or_eq_true _ _ |>.mp h with h | h
  · have : c.toNat = 0 := eq_of_beq h
    omega
  · exact (of_decide_eq_true h : f_mean p c &&& 0x7fffffffffffffff ≤ 0x7ff0000000000000)
end K_FD
