/-! ===== THE MODEL: loops with their specs, ifs, what its row holds, its small methods ===== -/
section K_M0
/-- a loop of n turns from i on -/
def k_it {α : Type} (f : Nat → α → α) : Nat → Nat → α → α
  | 0, _, a => a
  | n + 1, i, a => k_it f n (i + 1) (f i a)
def k_cn2 {ρ α : Type} (g : α → ρ ⊕ α) : ρ ⊕ α → ρ ⊕ α
  | .inl r => .inl r
  | .inr a => g a
/-- a loop that may be left with a value -/
def k_for {ρ α : Type} (f : Nat → α → ρ ⊕ α) : Nat → Nat → α → ρ ⊕ α
  | 0, _, a => .inr a
  | n + 1, i, a => k_cn2 (k_for f n (i + 1)) (f i a)
def k_els {ρ α : Type} (r : α → ρ) : ρ ⊕ α → ρ
  | .inl v => v
  | .inr a => r a
theorem k_loop {α : Type} {P : Nat → α → k_Q → Prop} {J : Nat → α → Prop} (N : Nat) (f : Nat → α → α) (a : α) {F : α → k_Q} (h0 : J 0 a) (hN : ∀ x, J N x → P N x (F x))
    (hs : ∀ n i x, i + n + 1 = N → J i x → (∀ y, J (i + 1) y → P (i + 1) y (F (k_it f n (i + 1) y))) → P i x (F (k_it f n (i + 1) (f i x)))) : P 0 a (F (k_it f N 0 a)) := by
  have h : ∀ n i x, i + n = N → J i x → P i x (F (k_it f n i x)) := by
    intro n
    induction n with
    | zero => intro i x e hj; have : i = N := by omega
              subst this; exact hN x hj
    | succ n ih => intro i x e hj; exact hs n i x (by omega) hj (fun y hy => ih (i + 1) y (by omega) hy)
  exact h N 0 a (by omega) h0
theorem k_loopR {ρ α : Type} {P : Nat → α → k_Q → Prop} {J : Nat → α → Prop} (N : Nat) (f : Nat → α → ρ ⊕ α) (a : α) {F : ρ ⊕ α → k_Q} (h0 : J 0 a) (hN : ∀ x, J N x → P N x (F (.inr x)))
    (hs : ∀ n i x, i + n + 1 = N → J i x → (∀ y, J (i + 1) y → P (i + 1) y (F (k_for f n (i + 1) y))) → P i x (F (k_cn2 (k_for f n (i + 1)) (f i x)))) : P 0 a (F (k_for f N 0 a)) := by
  have h : ∀ n i x, i + n = N → J i x → P i x (F (k_for f n i x)) := by
    intro n
    induction n with
    | zero => intro i x e hj; have : i = N := by omega
              subst this; exact hN x hj
    | succ n ih => intro i x e hj; exact hs n i x (by omega) hj (fun y hy => ih (i + 1) y (by omega) hy)
  exact h N 0 a (by omega) h0
theorem k_it_inv {α : Type} {f : Nat → α → α} {J : Nat → α → Prop} (h : ∀ i x, J i x → J (i + 1) (f i x)) : ∀ (n i : Nat) (a : α), J i a → J (i + n) (k_it f n i a)
  | 0, _, _, h0 => h0
  | n + 1, i, a, h0 => by
    have := k_it_inv h n (i + 1) (f i a) (h i a h0)
    rwa [show i + 1 + n = i + (n + 1) by omega] at this
/-- the same with the last turn outside -/
theorem k_it_succ {α : Type} (f : Nat → α → α) : ∀ (n i : Nat) (a : α), k_it f (n + 1) i a = f (i + n) (k_it f n i a)
  | 0, _, _ => rfl
  | n + 1, i, a => by
    show k_it f (n + 1) (i + 1) (f i a) = _
    rw [k_it_succ f n (i + 1) (f i a), show i + 1 + n = i + (n + 1) by omega]
    rfl
theorem k_it_fold {α : Type} (f : Nat → α → α) (a : α) : ∀ n : Nat, k_it f n 0 a = k_fold n f a
  | 0 => rfl
  | n + 1 => by
    rw [k_it_succ, k_it_fold f a n, Nat.zero_add]
    rfl
theorem k_it_congr {α : Type} {f g : Nat → α → α} : ∀ (n i : Nat) (a : α), (∀ j x, i ≤ j → j < i + n → f j x = g j x) → k_it f n i a = k_it g n i a
  | 0, _, _, _ => rfl
  | n + 1, i, a, h => by
    show k_it f n (i + 1) (f i a) = k_it g n (i + 1) (g i a)
    rw [h i a (Nat.le_refl _) (by omega)]
    exact k_it_congr n (i + 1) _ fun j x h1 h2 => h j x (by omega) (by omega)
theorem k_for_inv {ρ α : Type} {f : Nat → α → ρ ⊕ α} {J : Nat → α → Prop} {K : ρ → Prop} (h1 : ∀ i x v, J i x → f i x = .inl v → K v) (h2 : ∀ i x y, J i x → f i x = .inr y → J (i + 1) y) : ∀ (n i : Nat) (a : α), J i a → (∀ v, k_for f n i a = .inl v → K v) ∧ ∀ x, k_for f n i a = .inr x → J (i + n) x
  | 0, i, a, h0 => ⟨fun v e => (by cases e), fun x e => (by cases e; exact h0)⟩
  | n + 1, i, a, h0 => by
    cases e : f i a with
    | inl r =>
      have e2 : k_for f (n + 1) i a = .inl r := by show k_cn2 _ (f i a) = _; rw [e]; rfl
      rw [e2]
      exact ⟨fun v q => by cases q; exact h1 i a _ h0 e, fun x q => by cases q⟩
    | inr y =>
      have e2 : k_for f (n + 1) i a = k_for f n (i + 1) y := by show k_cn2 _ (f i a) = _; rw [e]; rfl
      rw [e2, show i + (n + 1) = i + 1 + n by omega]
      exact k_for_inv h1 h2 n (i + 1) y (h2 i a y h0 e)
theorem k_up_up {σ : Nat → Nat → Int} {a : Nat} {f g : Nat → Int} : k_up (k_up σ a f) a g = k_up σ a g := by
  funext i
  unfold k_up
  split <;> rfl
theorem k_up_comm {σ : Nat → Nat → Int} {a b : Nat} {f g : Nat → Int} (h : ¬ a = b) : k_up (k_up σ b g) a f = k_up (k_up σ a f) b g := by
  funext i
  unfold k_up
  by_cases e : i = a
  · subst e
    rw [if_pos rfl, if_neg h, if_pos rfl]
  · rw [if_neg e, if_neg e]
variable {E : k_E} {M : k_M} {dp pc k n : Nat} {ls : List (Nat × Value)} {st : List Value} {sh : List k_Sh} {σ : Nat → Nat → Int} {Q : k_Q}
theorem k_ift {α : Type} {F : α → k_Q} {c : Prop} [hc : Decidable c] {A B : α} (h : c) (kk : k_V E M dp pc ls st sh σ k n (F A)) : k_V E M dp pc ls st sh σ k n (F (if c then A else B)) := by
  rw [if_pos h]
  exact kk
theorem k_iff {α : Type} {F : α → k_Q} {c : Prop} [hc : Decidable c] {A B : α} (h : ¬ c) (kk : k_V E M dp pc ls st sh σ k n (F B)) : k_V E M dp pc ls st sh σ k n (F (if c then A else B)) := by
  rw [if_neg h]
  exact kk
/-- as k_ret, with a fact about what comes out -/
def k_retP (o : Option Value) (sh : List k_Sh) (σ : Nat → Nat → Int) (R : Prop) : k_Q := fun r sh' σ' => r = .inl o ∧ sh' = sh ∧ σ' = σ ∧ R
def k_pV (sh : List k_Sh) (σ : Nat → Nat → Int) (R : Int → Prop) (v : Int) : k_Q := k_retP (some (.int (iI v))) sh σ (R v)
def k_pB (sh : List k_Sh) (σ : Nat → Nat → Int) (b : Bool) : k_Q := k_retP (some (.int (iI (zb (b = true))))) sh σ True
def k_pS (sh : List k_Sh) (R : (Nat → Nat → Int) → Prop) (τ : Nat → Nat → Int) : k_Q := k_retP none sh τ (R τ)
def k_pP (sh : List k_Sh) (R : Int × (Nat → Nat → Int) → Prop) (t : Int × (Nat → Nat → Int)) : k_Q := k_retP (some (.int (iI t.1))) sh t.2 (R t)
def k_pPB (sh : List k_Sh) (R : Bool × (Nat → Nat → Int) → Prop) (t : Bool × (Nat → Nat → Int)) : k_Q := k_retP (some (.int (iI (zb (t.1 = true))))) sh t.2 (R t)
theorem k_retiP {e e' : Int} {R : Prop} {σ' : Nat → Nat → Int} (hd : decode M.2.1 pc = .ok (.ireturn, 1)) (hr : M.2.2.2.1 = some .int) (hσ : σ' = σ) (he : e = e') (hR : R) : k_V E M dp pc ls [.int (iI e)] sh σ' k n (k_retP (some (.int (iI e'))) sh σ R) := k_ret_i hd hr ⟨by rw [he], rfl, hσ, hR⟩
theorem k_retzP {e e' : Int} {R : Prop} {σ' : Nat → Nat → Int} (hd : decode M.2.1 pc = .ok (.ireturn, 1)) (hr : M.2.2.2.1 = some .boolean) (hz : e = 0 ∨ e = 1) (hσ : σ' = σ) (he : e = e') (hR : R) : k_V E M dp pc ls [.int (iI e)] sh σ' k n (k_retP (some (.int (iI e'))) sh σ R) := k_ret_z hd hr (k_nar_z hz) ⟨by rw [he], rfl, hσ, hR⟩
theorem k_retvP {R : Prop} {σ' : Nat → Nat → Int} (hd : decode M.2.1 pc = .ok (.return_, 1)) (hr : M.2.2.2.1 = none) (hσ : σ' = σ) (hR : R) : k_V E M dp pc ls [] sh σ' k n (k_retP none sh σ R) := k_ret_v hd hr ⟨rfl, rfl, hσ, hR⟩
theorem k_callSrP {M1 : k_M} {d1 na : Nat} {as : List Value} {o : Option Value} {R : Prop} {σ' : Nat → Nat → Int} {idx : Nat} (hd : decode M.2.1 pc = .ok (.invokestatic idx, 3)) (hM : k_MOk M1 na) (hl : Cond.methodLink M.1.cls idx M1.1 ∈ k_TBL) (hs : Cond.static M1.1 ∈ k_TBL) (hh : M1.2.2.2.2 = []) (hdp : d1 + 1 ≤ dp) (hn : as.length = na) (hcat : (st.map fun v => v.category).sum ≤ 8)
    (hC : k_C E M1 d1 as sh σ 0 0 (k_retP o sh σ' R)) (kk : R → k_V E M dp (pc + 3) ls (o.toList ++ st) sh σ' k n Q) : k_V E M dp pc ls (as.reverse ++ st) sh σ k n Q := by
  have h := k_callS (k := k) (n := n) (ls := ls) (Q := Q) hd hM hh hl hs hdp hn hcat hC (Or.inr fun r s2 σ2 h => by rw [h.2.1]) (fun Xn s2 σ2 h => by cases h.1) (fun v s2 σ2 h => by
    obtain ⟨h1, rfl, rfl, h4⟩ := h
    cases h1
    exact kk h4)
  rw [Nat.zero_add, Nat.zero_add] at h
  exact h
theorem k_callVrP {M1 : k_M} {d1 na : Nat} {as : List Value} {o : Option Value} {R : Prop} {σ' : Nat → Nat → Int} {idx r ci N : Nat} {cs : List Nat} {T : u_T} (hd : decode M.2.1 pc = .ok (.invokevirtual idx, 3)) (hM : k_MOk M1 na) (hl : Cond.methodLink M.1.cls idx M1.1 ∈ k_TBL) (hi : Cond.instanceMethod M1.1 ∈ k_TBL) (hse : Cond.selects M1.1.cls M1.1 M1.1 ∈ k_TBL) (hh : M1.2.2.2.2 = []) (hdp : d1 + 1 ≤ dp) (hn : as.length = na) (hcat : (st.map fun v => v.category).sum ≤ 8)
    (hr1 : r ≠ 1000001) (hs : sh[r]? = some (.inr (ci, cs))) (hc : k_cls[ci]? = some (M1.1.cls, T, N))
    (hC : k_C E M1 d1 (.ref r :: as) sh σ 0 0 (k_retP o sh σ' R)) (kk : R → k_V E M dp (pc + 3) ls (o.toList ++ st) sh σ' k n Q) : k_V E M dp pc ls (as.reverse ++ .ref r :: st) sh σ k n Q := by
  have h := k_callV (k := k) (n := n) (ls := ls) (Q := Q) hd hM hh hl hi hse hdp hn hcat hr1 hs hc hC (Or.inr fun r s2 σ2 h => by rw [h.2.1]) (fun Xn s2 σ2 h => by cases h.1) (fun v s2 σ2 h => by
    obtain ⟨h1, rfl, rfl, h4⟩ := h
    cases h1
    exact kk h4)
  rw [Nat.zero_add, Nat.zero_add] at h
  exact h
theorem k_lfT : (1 : Int) = zb (true = true) := (zb_t rfl).symm
theorem k_lfF : (0 : Int) = zb (false = true) := (zb_f (by decide)).symm
theorem k_lfD {P : Prop} [Decidable P] : zb P = zb (decide P = true) := by
  unfold zb
  simp
theorem k_lfV {v : Int} (h : 0 ≤ v ∧ v ≤ 1) : v = zb (decide (v = 1) = true) := by
  unfold zb
  by_cases e : v = 1
  · simp [e]
  · simp [e]
    omega
/-- one number written -/
def k_w (σ : Nat → Nat → Int) (a j : Nat) (z : Int) : Nat → Nat → Int := k_up σ a (k_u1 (σ a) j z)
theorem k_iastW {a w : Nat} {i z : Int} (hd : decode M.2.1 pc = .ok (.iastore, 1)) (ha : a ≠ 1000001) (hs : sh[a]? = some (.inl (0, w))) (h0 : 0 ≤ i) (h1 : i < w) (hw : w < 2147483648) (kk : k_V E M dp (pc + 1) ls st sh (k_w σ a i.toNat z) k n Q) : k_V E M dp pc ls (.int (iI z) :: .int (iI i) :: .ref a :: st) sh σ k n Q := k_iast hd ha hs h0 h1 hw kk
theorem k_castW {a w : Nat} {i z : Int} (hd : decode M.2.1 pc = .ok (.castore, 1)) (ha : a ≠ 1000001) (hs : sh[a]? = some (.inl (1, w))) (h0 : 0 ≤ i) (h1 : i < w) (hw : w < 2147483648) (hz : vp_nar .char (iI z) = iI z) (kk : k_V E M dp (pc + 1) ls st sh (k_w σ a i.toNat z) k n Q) : k_V E M dp pc ls (.int (iI z) :: .int (iI i) :: .ref a :: st) sh σ k n Q := k_cast hd ha hs h0 h1 hw hz kk
theorem k_putfW {a idx ci kf N : Nat} {cs : List Nat} {C : String} {T : u_T} {ty : Nat → FieldType} {z : Int} (hd : decode M.2.1 pc = .ok (.putfield idx, 3)) (hT : k_Cls ci C T N ty) (hw : Cond.fieldLink M.1.cls idx (T kf).1 (T kf).2.1 (T kf).2.2.1 ∈ k_TBL) (hkf : kf < N) (ha : a ≠ 1000001) (hs : sh[a]? = some (.inr (ci, cs))) (hc : cs[kf]? = some 0) (hfin : (T kf).2.2.2 = false) (hn : narrow (ty kf) (.int (iI z)) = .int (iI z)) (hfit : fits (ty kf) (.int (iI z)) = true) (kk : k_V E M dp (pc + 3) ls st sh (k_w σ a kf z) k n Q) : k_V E M dp pc ls (.int (iI z) :: .ref a :: st) sh σ k n Q := k_putf hd hT hw hkf ha hs hc hfin hn hfit kk
theorem k_dup2 {v w : Value} (hd : decode M.2.1 pc = .ok (.dup2, 1)) (hc : v.category = 1) (hc2 : w.category = 1) (kk : k_V E M dp (pc + 1) ls (v :: w :: v :: w :: st) sh σ k n Q) : k_V E M dp pc ls (v :: w :: st) sh σ k n Q := by
  intro N0 ad0 p e R s m args below meth c H locs cells slots lsC ad mc ms C X hl
  exact lv_dup2_11 C.1 C.2.1 hd ((k_cat (k_fmc C) v).trans hc) ((k_cat (k_fmc C) w).trans hc2) (kk N0 ad0 p e R s m args below meth c H locs cells slots lsC ad mc ms C X hl)
/-- shifts, quotients -/
def z_shr (x i : Int) : Int := ((x.toNat / 2 ^ i.toNat : Nat) : Int)
def z_shl (x i : Int) : Int := ((x.toNat * 2 ^ i.toNat : Nat) : Int)
theorem z_and_le2 (x y : Int) (hy : 0 ≤ y) : z_and x y ≤ y := by
  have : x.toNat &&& y.toNat ≤ y.toNat := Nat.and_le_right
  unfold z_and
  omega
theorem z_shr_nn (x i : Int) : 0 ≤ z_shr x i := Int.natCast_nonneg _
theorem z_shl_nn (x i : Int) : 0 ≤ z_shl x i := Int.natCast_nonneg _
theorem z_shr_le (x i : Int) (h : 0 ≤ x) : z_shr x i ≤ x := by
  have := Nat.div_le_self x.toNat (2 ^ i.toNat)
  unfold z_shr
  omega
theorem zz_shrI {x i : Int} (hx : 0 ≤ x) (hx2 : x < 2147483648) (h0 : 0 ≤ i) (h1 : i < 32) : iI x >>> (iI i &&& 31) = iI (z_shr x i) := by
  rw [z_nat hx, z_nat h0, pk_shrN (by omega) _ i.toNat (z_sm _ (by omega)), z_shr, iI_nat]
theorem z_shlI {x i : Int} (hx : 0 ≤ x) (hx2 : x < 65536) (h0 : 0 ≤ i) (h1 : i < 16) : iI x <<< (iI i &&& 31) = iI (z_shl x i) := by
  have h3 : 2 ^ i.toNat ≤ 2 ^ 15 := Nat.pow_le_pow_right (by decide) (by omega)
  have h4 : x.toNat * 2 ^ i.toNat ≤ 65535 * 2 ^ 15 := Nat.mul_le_mul (by omega) h3
  rw [z_nat hx, z_nat h0, pk_shlN _ i.toNat (z_sm _ (by omega)) (by omega), z_shl, iI_nat]
theorem z_ne0 {y : Int} (h0 : 0 < y) (h : y < 2147483648) : ¬ iI y = 0 := fun e => by
  have : iI y = iI 0 := e
  have := (iI_eq ⟨by omega, h⟩ k_r0).mp this
  omega
theorem z_divI {x y : Int} (hx : 0 ≤ x) (hx2 : x < 2147483648) (hy : 0 < y) (hy2 : y < 2147483648) : iI x / iI y = iI (x / y) := by
  have hd : x / y ≤ x := Int.ediv_le_self _ hx
  have hd0 : 0 ≤ x / y := Int.ediv_nonneg hx (Int.le_of_lt hy)
  apply Int32.toInt_inj.mp
  rw [Int32.toInt_div_of_ne_right _ _ (fun e => ?_), iI_toInt ⟨by omega, hx2⟩, iI_toInt ⟨by omega, hy2⟩, iI_toInt ⟨by omega, by omega⟩, Int.tdiv_eq_ediv_of_nonneg hx]
  have e2 : (iI y).toInt = -1 := by rw [e]; decide
  rw [iI_toInt ⟨by omega, hy2⟩] at e2
  omega
theorem z_remI {x y : Int} (hx : 0 ≤ x) (hx2 : x < 2147483648) (hy : 0 < y) (hy2 : y < 2147483648) : iI x - iI x / iI y * iI y = iI (x % y) := by
  rw [z_divI hx hx2 hy hy2, iI_mul, iI_sub, Int.emod_def, Int.mul_comm y]
theorem k_nC128 : (List.range 128).all (fun n => vp_nar .char (iI (n : Int)) == iI (n : Int)) = true := by decide +kernel
theorem k_nC {z : Int} (h : 0 ≤ z ∧ z < 128) : vp_nar .char (iI z) = iI z := by
  have h1 := List.all_eq_true.mp k_nC128 z.toNat (List.mem_range.mpr (by omega))
  rw [Int.toNat_of_nonneg h.1] at h1
  exact eq_of_beq h1
/-- what the model's row holds: subjects, blocks, pupils, moves; sizes, open classes, counts, wishes, reserves, timetables -/
def k_Mo (r : Nat → Int) : Prop := (0 ≤ r 0 ∧ r 0 ≤ 7) ∧ (1 ≤ r 1 ∧ r 1 ≤ 4) ∧ (0 ≤ r 2 ∧ r 2 ≤ 12) ∧ (-1 ≤ r 3 ∧ r 3 ≤ 3) ∧ (∀ j, -1 ≤ r j ∧ r j ≤ 12) ∧ (∀ j, 10 ≤ j → j < 17 → 0 ≤ r j ∧ r j ≤ 9) ∧ (∀ j, 17 ≤ j → j < 45 → 0 ≤ r j ∧ r j ≤ 1) ∧ (∀ j, 45 ≤ j → j < 57 → 0 ≤ r j ∧ r j ≤ 3) ∧ (∀ j, 57 ≤ j → j < 93 → 0 ≤ r j ∧ r j ≤ 6) ∧ ∀ j, 93 ≤ j → r j ≤ 6
variable {r : Nat → Int}
theorem k_Mo_u (h : k_Mo r) {j : Nat} {z : Int} (hz : (-1 ≤ z ∧ z ≤ 12) ∧ (j = 0 → 0 ≤ z ∧ z ≤ 7) ∧ (j = 1 → 1 ≤ z ∧ z ≤ 4) ∧ (j = 2 → 0 ≤ z) ∧ (j = 3 → z ≤ 3) ∧ (10 ≤ j → j < 17 → 0 ≤ z ∧ z ≤ 9) ∧ (17 ≤ j → j < 45 → 0 ≤ z ∧ z ≤ 1) ∧ (45 ≤ j → j < 57 → 0 ≤ z ∧ z ≤ 3) ∧ (57 ≤ j → j < 93 → 0 ≤ z ∧ z ≤ 6) ∧ (93 ≤ j → z ≤ 6)) : k_Mo (k_u1 r j z) := by
  obtain ⟨h0, h1, h2, h3, h4, h5, h6, h7, h8, h9⟩ := h
  obtain ⟨z0, z1, z2, z3, z4, z5, z6, z7, z8, z9⟩ := hz
  unfold k_Mo k_u1
  refine ⟨?_, ?_, ?_, ?_, fun i => ?_, fun i a b => ?_, fun i a b => ?_, fun i a b => ?_, fun i a b => ?_, fun i a => ?_⟩
  · split <;> omega
  · split <;> omega
  · split <;> omega
  · split <;> omega
  · have := h4 i
    split <;> omega
  · have := h5 i a b
    split <;> omega
  · have := h6 i a b
    split <;> omega
  · have := h7 i a b
    split <;> omega
  · have := h8 i a b
    split <;> omega
  · have := h9 i a
    split <;> omega
theorem k_Mo_all (h : k_Mo r) (j : Nat) : -1 ≤ r j ∧ r j ≤ 12 := h.2.2.2.2.1 j
theorem k_Mo_siz (h : k_Mo r) {x : Int} (h0 : 10 ≤ x) (h1 : x < 17) : 0 ≤ r x.toNat ∧ r x.toNat ≤ 9 := h.2.2.2.2.2.1 _ (by omega) (by omega)
theorem k_Mo_opn (h : k_Mo r) {x : Int} (h0 : 17 ≤ x) (h1 : x < 45) : 0 ≤ r x.toNat ∧ r x.toNat ≤ 1 := h.2.2.2.2.2.2.1 _ (by omega) (by omega)
theorem k_Mo_many (h : k_Mo r) {x : Int} (h0 : 45 ≤ x) (h1 : x < 57) : 0 ≤ r x.toNat ∧ r x.toNat ≤ 3 := h.2.2.2.2.2.2.2.1 _ (by omega) (by omega)
theorem k_Mo_wish (h : k_Mo r) {x : Int} (h0 : 57 ≤ x) (h1 : x < 93) : 0 ≤ r x.toNat ∧ r x.toNat ≤ 6 := h.2.2.2.2.2.2.2.2.1 _ (by omega) (by omega)
theorem k_Mo_res (h : k_Mo r) {x : Int} (h0 : 93 ≤ x) (_ : x < 105) : -1 ≤ r x.toNat ∧ r x.toNat ≤ 6 := ⟨(h.2.2.2.2.1 _).1, h.2.2.2.2.2.2.2.2.2 _ (by omega)⟩
theorem k_Mo_tab (h : k_Mo r) {x : Int} (h0 : 105 ≤ x) (_ : x < 153) : -1 ≤ r x.toNat ∧ r x.toNat ≤ 6 := ⟨(h.2.2.2.2.1 _).1, h.2.2.2.2.2.2.2.2.2 _ (by omega)⟩
/-- a row's numbers between two bounds -/
def k_rg (lo hi : Int) (f : Nat → Int) : Prop := ∀ j, lo ≤ f j ∧ f j ≤ hi
theorem k_rg_u {lo hi : Int} {f : Nat → Int} (h : k_rg lo hi f) {j : Nat} {z : Int} (hz : lo ≤ z ∧ z ≤ hi) : k_rg lo hi (k_u1 f j z) := fun i => by
  unfold k_u1
  split
  · exact hz
  · exact h i
/-- the model's own numbers: undos 5, isSaved 6, kind 8, reason 9, position 10, command 11, failure 12, lineLong 15, typed 16, bestWorth 19, textLong 28, acts 29, stopped 30 -/
def k_F0 (f : Nat → Int) : Prop := (0 ≤ f 5 ∧ f 5 ≤ 8) ∧ (0 ≤ f 6 ∧ f 6 ≤ 1) ∧ (0 ≤ f 7 ∧ f 7 ≤ 3) ∧ (0 ≤ f 8 ∧ f 8 ≤ 4) ∧ (0 ≤ f 9 ∧ f 9 ≤ 3) ∧ (-1 ≤ f 10 ∧ f 10 ≤ 60) ∧ (-1 ≤ f 11 ∧ f 11 ≤ 12) ∧ (0 ≤ f 12 ∧ f 12 ≤ 4) ∧ (0 ≤ f 15 ∧ f 15 ≤ 40) ∧ (0 ≤ f 16 ∧ f 16 ≤ 60) ∧ (-1 ≤ f 19 ∧ f 19 ≤ 100) ∧ (0 ≤ f 28 ∧ f 28 ≤ 60) ∧ (0 ≤ f 29 ∧ f 29 ≤ 12) ∧ (0 ≤ f 30 ∧ f 30 ≤ 60)
theorem k_F0_u {f : Nat → Int} (h : k_F0 f) {j : Nat} {z : Int} (hz : (j = 5 → 0 ≤ z ∧ z ≤ 8) ∧ (j = 6 → 0 ≤ z ∧ z ≤ 1) ∧ (j = 7 → 0 ≤ z ∧ z ≤ 3) ∧ (j = 8 → 0 ≤ z ∧ z ≤ 4) ∧ (j = 9 → 0 ≤ z ∧ z ≤ 3) ∧ (j = 10 → -1 ≤ z ∧ z ≤ 60) ∧ (j = 11 → -1 ≤ z ∧ z ≤ 12) ∧ (j = 12 → 0 ≤ z ∧ z ≤ 4) ∧ (j = 15 → 0 ≤ z ∧ z ≤ 40) ∧ (j = 16 → 0 ≤ z ∧ z ≤ 60) ∧ (j = 19 → -1 ≤ z ∧ z ≤ 100) ∧ (j = 28 → 0 ≤ z ∧ z ≤ 60) ∧ (j = 29 → 0 ≤ z ∧ z ≤ 12) ∧ (j = 30 → 0 ≤ z ∧ z ≤ 60)) : k_F0 (k_u1 f j z) := by
  obtain ⟨h0, h1, h2, h3, h4, h5, h6, h7, h8, h9, h10, h11, h12, h13⟩ := h
  obtain ⟨z0, z1, z2, z3, z4, z5, z6, z7, z8, z9, z10, z11, z12, z13⟩ := hz
  unfold k_F0 k_u1
  refine ⟨?_, ?_, ?_, ?_, ?_, ?_, ?_, ?_, ?_, ?_, ?_, ?_, ?_, ?_⟩ <;> split <;> omega
/-- what the model's cells hold -/
def k_MA (σ : Nat → Nat → Int) : Prop := k_F0 (σ 123) ∧ k_Mo (σ 124) ∧ k_rg 0 127 (σ 129) ∧ k_rg 0 127 (σ 130) ∧ k_rg 0 4 (σ 131) ∧ k_rg 0 4 (σ 132) ∧ k_rg 0 3 (σ 133) ∧ k_rg 0 12 (σ 134) ∧ k_rg 0 3 (σ 135) ∧ k_rg 0 3 (σ 136) ∧ k_rg 0 11 (σ 138) ∧ k_rg 0 99 (σ 139) ∧ k_rg 0 99 (σ 140)
/-- numbers beyond a row's end count nothing -/
theorem k_beyond {a w : Nat} {f : Nat → Int} (hs : sh[a]? = some (.inl (0, w))) (h : ∀ j, j < w → σ a j = f j) (kk : k_V E M dp pc ls st sh (k_up σ a f) k n Q) : k_V E M dp pc ls st sh σ k n Q := by
  intro N0 ad0 p e R s m args below meth c H locs cells slots lsC ad mc ms C X hl
  have hf := k_cw_set1 (E := E) (ad := ad) (σ := σ) (f := f) hs
  refine kk N0 ad0 p e R s m args below meth c H locs cells slots lsC ad mc ms C ⟨X.1, X.2.1, X.2.2.1, X.2.2.2.1, X.2.2.2.2.1, X.2.2.2.2.2.1, ?_, ?_, X.2.2.2.2.2.2.2.2⟩ hl
  · rw [← hf]
    intro q x hx
    rw [List.getElem?_set] at hx
    by_cases hq : a = q
    · subst hq
      have hlt : a < (k_cw E ad sh σ).length := (List.getElem?_eq_some_iff.mp (k_aent (E := E) (ad := ad) (σ := σ) hs)).1
      rw [if_pos rfl, if_pos hlt] at hx
      cases hx
      have h2 := X.2.2.2.2.2.2.1 a _ (k_aent (E := E) (ad := ad) (σ := σ) hs)
      have h3 : H[ad a]? = some (vp_cell (k_dA E 0) (w, .inl fun j => iI (σ a j))) := h2
      show H[ad a]? = some (vp_cell (k_dA E 0) (w, .inl fun j => iI (f j)))
      rw [h3, k_cell_ext fun j hj => congrArg iI (h j hj)]
    · rw [if_neg hq] at hx
      exact X.2.2.2.2.2.2.1 q x hx
  · rw [← hf]
    exact X.2.2.2.2.2.2.2.1.set (k_aent hs)
set_option maxHeartbeats 4000000 in
theorem c8_copies {a0 a : Nat} (h0 : a0 ≠ 1000001) (h1 : a ≠ 1000001) (hs0 : sh[a0]? = some (.inl (0, 153))) (hs1 : sh[a]? = some (.inl (0, 153))) (hne : ¬ a0 = a) : k_C E mX8_copies 1 [.ref a0, .ref a] sh σ 0 0 (k_ret none sh (k_up σ a (σ a0))) := by
  refine k_C_of (ls0 := [(0, .ref a0), (1, .ref a)]) rfl pnX8 (fun v hv => k_cat1 rfl hv) (Nat.le_of_ble_eq_true rfl) rfl ?_
  refine k_iconst (v := 0) dX8_copies_0 rfl ?_
  refine k_istore_n (ls' := [(0, .ref a0), (1, .ref a), (2, .int (iI (0)))]) dX8_copies_1 rfl (by decide) rfl rfl ?_
  refine k_eqσ (σ' := k_up σ a (σ a)) (k_up_self _ _) ?_
  refine k_loop (α := Nat → Int) (P := fun (i : Nat) (x : Nat → Int) Q => k_V E mX8_copies _ 2 [(0, .ref a0), (1, .ref a), (2, .int (iI ((i : Int))))] [] sh (k_up σ a x) _ _ Q) (J := fun (i : Nat) (x : Nat → Int) => ∀ j, j < i → x j = σ a0 j) 153 (fun i x => k_u1 x i (σ a0 i)) (σ a) (F := fun _ => k_ret none sh (k_up σ a (σ a0))) (fun j hj => absurd hj (Nat.not_lt_zero j)) ?_ ?_
  · intro x hJ
    show k_V E mX8_copies _ 2 [(0, .ref a0), (1, .ref a), (2, .int (iI (((153 : Nat) : Int))))] [] sh (k_up σ a x) _ _ _
    refine k_iload_n dX8_copies_2 2 rfl rfl ?_
    refine k_sipush (v := 153) dX8_copies_3 (by decide) ?_
    refine k_icmp_ge (tgt := 21) dX8_copies_6 rfl ⟨by omega, by omega⟩ ⟨by decide, by decide⟩ (fun h => ?_) (fun h => absurd h (by omega))
    refine k_beyond (f := σ a0) hs1 (fun j hj => by rw [k_up_same]; exact hJ j hj) ?_
    exact k_retv dX8_copies_21 rfl k_up_up
  · intro n i x hi hJ ih
    show k_V E mX8_copies _ 2 [(0, .ref a0), (1, .ref a), (2, .int (iI ((i : Int))))] [] sh (k_up σ a x) _ _ _
    refine k_iload_n dX8_copies_2 2 rfl rfl ?_
    refine k_sipush (v := 153) dX8_copies_3 (by decide) ?_
    refine k_icmp_ge (tgt := 21) dX8_copies_6 rfl ⟨by omega, by omega⟩ ⟨by decide, by decide⟩ (fun h => absurd h (by omega)) (fun h => ?_)
    refine k_aload_n dX8_copies_9 1 rfl rfl h1 ?_
    refine k_iload_n dX8_copies_10 2 rfl rfl ?_
    refine k_aload_n dX8_copies_11 0 rfl rfl h0 ?_
    refine k_iload_n dX8_copies_12 2 rfl rfl ?_
    refine k_iald dX8_copies_13 h0 hs0 (by omega) (by omega) (by decide) ?_
    refine k_iast dX8_copies_14 h1 hs1 (by omega) (by omega) (by decide) ?_
    refine k_iinc (ls' := [(0, .ref a0), (1, .ref a), (2, .int (iI ((i : Int) + 1)))]) dX8_copies_15 2 rfl (by decide) rfl rfl ?_
    refine k_goto (tgt := 2) dX8_copies_18 rfl ?_
    refine k_eqσ (σ' := k_up σ a (k_u1 x i (σ a0 i))) (by rw [k_up_up, k_up_same, k_up_ne hne, Int.toNat_natCast]) ?_
    exact ih _ (fun j hj => by
      unfold k_u1
      by_cases e : j = i
      · rw [if_pos e, e]
      · rw [if_neg e]
        exact hJ j (by omega))
end K_M0
