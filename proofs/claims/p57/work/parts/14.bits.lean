/-! ===== sets of small numbers as the bits of a number ===== -/
section K_J
theorem iI_nat (n : Nat) : iI (n : Int) = nI n := Int32.ofInt_eq_ofNat
theorem z_nat {x : Int} (h : 0 ≤ x) : iI x = nI x.toNat := by
  rw [← iI_nat, Int.toNat_of_nonneg h]
theorem zx_and (a b : Nat) : nI a &&& nI b = nI (a &&& b) := by
  apply Int32.toBitVec_inj.1
  show BitVec.ofNat 32 a &&& BitVec.ofNat 32 b = BitVec.ofNat 32 (a &&& b)
  apply BitVec.eq_of_getLsbD_eq
  intro i hi
  simp [BitVec.getLsbD_and, BitVec.getLsbD_ofNat, hi]
theorem zx_or (a b : Nat) : nI a ||| nI b = nI (a ||| b) := by
  apply Int32.toBitVec_inj.1
  show BitVec.ofNat 32 a ||| BitVec.ofNat 32 b = BitVec.ofNat 32 (a ||| b)
  apply BitVec.eq_of_getLsbD_eq
  intro i hi
  simp [BitVec.getLsbD_or, BitVec.getLsbD_ofNat, hi]
theorem zx_xor (a b : Nat) : nI a ^^^ nI b = nI (a ^^^ b) := by
  apply Int32.toBitVec_inj.1
  show BitVec.ofNat 32 a ^^^ BitVec.ofNat 32 b = BitVec.ofNat 32 (a ^^^ b)
  apply BitVec.eq_of_getLsbD_eq
  intro i hi
  simp [BitVec.getLsbD_xor, BitVec.getLsbD_ofNat, hi]
def z_or (x y : Int) : Int := ((x.toNat ||| y.toNat : Nat) : Int)
def z_and (x y : Int) : Int := ((x.toNat &&& y.toNat : Nat) : Int)
/-- x without the bits of y -/
def z_diff (x y : Int) : Int := ((x.toNat ^^^ (x.toNat &&& y.toNat) : Nat) : Int)
def z_bit (x i : Int) : Bool := x.toNat.testBit i.toNat
def z_one (i : Int) : Int := ((2 ^ i.toNat : Nat) : Int)
theorem z_orI {x y : Int} (hx : 0 ≤ x) (hy : 0 ≤ y) : iI x ||| iI y = iI (z_or x y) := by
  rw [z_nat hx, z_nat hy, zx_or, z_or, iI_nat]
theorem z_andI {x y : Int} (hx : 0 ≤ x) (hy : 0 ≤ y) : iI x &&& iI y = iI (z_and x y) := by
  rw [z_nat hx, z_nat hy, zx_and, z_and, iI_nat]
theorem z_not (x : Nat) (y : Nat) (hx : x < 2 ^ 32) : x &&& (y ^^^ 4294967295) = x ^^^ (x &&& y) := by
  apply Nat.eq_of_testBit_eq
  intro i
  have h1 : (4294967295 : Nat).testBit i = decide (i < 32) := Nat.testBit_two_pow_sub_one 32 i
  simp only [Nat.testBit_and, Nat.testBit_xor, h1]
  by_cases h : i < 32
  · simp [h]
    cases x.testBit i <;> cases y.testBit i <;> rfl
  · have h2 : x.testBit i = false := Nat.testBit_lt_two_pow (Nat.lt_of_lt_of_le hx (Nat.pow_le_pow_right (by decide) (by omega)))
    simp [h2]
theorem z_diffI {x y : Int} (hx : 0 ≤ x) (hx2 : x < 2147483648) (hy : 0 ≤ y) : iI x &&& (iI y ^^^ iI (-1)) = iI (z_diff x y) := by
  have h1 : iI (-1) = nI 4294967295 := by decide
  rw [z_nat hx, z_nat hy, h1, zx_xor, zx_and, z_diff, iI_nat, z_not _ _ (by omega)]
theorem z_sm : ∀ n : Nat, n < 32 → ((nI n &&& 31).toBitVec.smod 32).toNat = n := by decide +kernel
theorem z_oneI {i : Int} (h0 : 0 ≤ i) (h1 : i < 31) : iI 1 <<< (iI i &&& 31) = iI (z_one i) := by
  have h2 : iI 1 = nI 1 := by decide
  have h3 : 2 ^ i.toNat < 2 ^ 31 := Nat.pow_lt_pow_right (by decide) (by omega)
  rw [h2, z_nat h0, pk_shlN _ i.toNat (z_sm _ (by omega)) (by omega), Nat.one_mul, z_one, iI_nat]
theorem z_holdsI {x i : Int} (hx : 0 ≤ x) (hx2 : x < 2147483648) (h0 : 0 ≤ i) (h1 : i < 32) : (iI x >>> (iI i &&& 31)) &&& iI 1 = iI (if z_bit x i = true then 1 else 0) := by
  have h2 : iI 1 = nI 1 := by decide
  have h4 : (nI 1).toBitVec.toNat = 2 ^ 1 - 1 := by decide
  have h5 : x.toNat / 2 ^ i.toNat ≤ x.toNat := Nat.div_le_self _ _
  rw [z_nat hx, z_nat h0, pk_shrN (by omega) _ i.toNat (z_sm _ (by omega)), h2, pk_andN (by omega) 1 h4]
  unfold z_bit
  rw [Nat.testBit_eq_decide_div_mod_eq]
  by_cases h : x.toNat / 2 ^ i.toNat % 2 = 1
  · simp [h]
    decide
  · have : x.toNat / 2 ^ i.toNat % 2 = 0 := by omega
    simp [this]
    decide
theorem z_or_nn (x y : Int) : 0 ≤ z_or x y := Int.natCast_nonneg _
theorem z_and_nn (x y : Int) : 0 ≤ z_and x y := Int.natCast_nonneg _
theorem z_diff_nn (x y : Int) : 0 ≤ z_diff x y := Int.natCast_nonneg _
theorem z_one_pos (i : Int) : 0 < z_one i := by
  have := Nat.two_pow_pos i.toNat
  unfold z_one
  omega
theorem z_lt_nat {x : Int} {k : Nat} (h : x < ((2 ^ k : Nat) : Int)) : x.toNat < 2 ^ k := by
  have := Nat.two_pow_pos k
  omega
theorem z_or_lt {x y : Int} (k : Nat) (hx : x < ((2 ^ k : Nat) : Int)) (hy : y < ((2 ^ k : Nat) : Int)) : z_or x y < ((2 ^ k : Nat) : Int) := Int.ofNat_lt.mpr (Nat.or_lt_two_pow (z_lt_nat hx) (z_lt_nat hy))
theorem z_and_le (x y : Int) (hx : 0 ≤ x) : z_and x y ≤ x := by
  have : x.toNat &&& y.toNat ≤ x.toNat := Nat.and_le_left
  unfold z_and
  omega
theorem z_diff_lt {x y : Int} (k : Nat) (hx : x < ((2 ^ k : Nat) : Int)) : z_diff x y < ((2 ^ k : Nat) : Int) := by
  have h : x.toNat &&& y.toNat < 2 ^ k := Nat.lt_of_le_of_lt Nat.and_le_left (z_lt_nat hx)
  exact Int.ofNat_lt.mpr (Nat.xor_lt_two_pow (z_lt_nat hx) h)
theorem z_one_lt {i : Int} (k : Nat) (h : i < k) (h0 : 0 ≤ i) : z_one i < ((2 ^ k : Nat) : Int) := Int.ofNat_lt.mpr (Nat.pow_lt_pow_right (by decide) (by omega))
theorem z_bit_or (x y i : Int) : z_bit (z_or x y) i = (z_bit x i || z_bit y i) := by
  unfold z_bit z_or
  rw [Int.toNat_natCast, Nat.testBit_or]
theorem z_bit_and (x y i : Int) : z_bit (z_and x y) i = (z_bit x i && z_bit y i) := by
  unfold z_bit z_and
  rw [Int.toNat_natCast, Nat.testBit_and]
theorem z_bit_diff (x y i : Int) : z_bit (z_diff x y) i = (z_bit x i && !z_bit y i) := by
  unfold z_bit z_diff
  rw [Int.toNat_natCast, Nat.testBit_xor, Nat.testBit_and]
  cases x.toNat.testBit i.toNat <;> cases y.toNat.testBit i.toNat <;> rfl
theorem z_bit_one {i j : Int} (h0 : 0 ≤ i) (h1 : 0 ≤ j) : z_bit (z_one i) j = decide (i = j) := by
  unfold z_bit z_one
  rw [Int.toNat_natCast, Nat.testBit_two_pow]
  simp only [decide_eq_decide]
  omega
theorem z_bit_0 (i : Int) : z_bit 0 i = false := by
  unfold z_bit
  exact Nat.zero_testBit _
/-- no bit but those below k -/
theorem z_bit_ge {x i : Int} (k : Nat) (hx : x < ((2 ^ k : Nat) : Int)) (hi : (k : Int) ≤ i) : z_bit x i = false := Nat.testBit_lt_two_pow (Nat.lt_of_lt_of_le (z_lt_nat hx) (Nat.pow_le_pow_right (by decide) (by omega)))
theorem z_ext {x y : Int} (hx : 0 ≤ x) (hy : 0 ≤ y) (h : ∀ i : Int, 0 ≤ i → z_bit x i = z_bit y i) : x = y := by
  have : x.toNat = y.toNat := Nat.eq_of_testBit_eq fun i => by
    have := h i (Int.natCast_nonneg i)
    unfold z_bit at this
    rwa [Int.toNat_natCast] at this
  omega
def zb (p : Prop) [Decidable p] : Int := if p then 1 else 0
theorem zb_r (p : Prop) [Decidable p] : 0 ≤ zb p ∧ zb p ≤ 1 := by unfold zb; split <;> decide
theorem zb_z (p : Prop) [Decidable p] : zb p = 0 ∨ zb p = 1 := by unfold zb; split <;> simp
theorem zb_t {p : Prop} [Decidable p] (h : p) : zb p = 1 := if_pos h
theorem zb_f {p : Prop} [Decidable p] (h : ¬ p) : zb p = 0 := if_neg h
theorem zb_kr (p : Prop) [Decidable p] : k_r (zb p) := ⟨by have := (zb_r p).1; omega, by have := (zb_r p).2; omega⟩
theorem zb_1 {p : Prop} [Decidable p] : zb p = 1 ↔ p := by unfold zb; split <;> simp [*]
theorem zb_0 {p : Prop} [Decidable p] : zb p = 0 ↔ ¬ p := by unfold zb; split <;> simp [*]
theorem zb_n0 {p : Prop} [Decidable p] : ¬ zb p = 0 ↔ p := by unfold zb; split <;> simp [*]
theorem zb_n1 {p : Prop} [Decidable p] : ¬ zb p = 1 ↔ ¬ p := by unfold zb; split <;> simp [*]
/-- the number of bits below 16 -/
def z_cnt (x : Int) : Int := k_fold 16 (fun i a => a + zb (z_bit x (i : Int) = true)) 0
/-- the number of bits below n -/
def z_cntn (x : Int) (n : Nat) : Int := k_fold n (fun i a => a + zb (z_bit x (i : Int) = true)) 0
theorem z_cntn_r (x : Int) : ∀ n : Nat, 0 ≤ z_cntn x n ∧ z_cntn x n ≤ n
  | 0 => ⟨Int.le_refl 0, Int.le_refl 0⟩
  | n + 1 => by
    have h := z_cntn_r x n
    have h2 := zb_r (z_bit x (n : Int) = true)
    have e : z_cntn x (n + 1) = z_cntn x n + zb (z_bit x (n : Int) = true) := rfl
    rw [e]
    omega
theorem z_cnt_r (x : Int) : 0 ≤ z_cnt x ∧ z_cnt x ≤ 16 := z_cntn_r x 16
/-- the first of the numbers below n, -1 without one -/
def z_first (n : Nat) (P : Nat → Bool) : Int := match n with
  | 0 => -1
  | m + 1 => if z_first m P = -1 then (if P m then (m : Int) else -1) else z_first m P
theorem z_first_r (P : Nat → Bool) : ∀ n : Nat, -1 ≤ z_first n P ∧ z_first n P < n
  | 0 => ⟨Int.le_refl (-1), show (-1 : Int) < 0 by decide⟩
  | m + 1 => by
    have h := z_first_r P m
    unfold z_first
    split
    · split <;> omega
    · omega
theorem z_first_none {P : Nat → Bool} : ∀ n : Nat, (∀ j, j < n → P j = false) → z_first n P = -1
  | 0, _ => rfl
  | m + 1, h => by
    unfold z_first
    rw [if_pos (z_first_none m fun j hj => h j (by omega)), h m (by omega)]
    rfl
theorem z_first_some {P : Nat → Bool} {i : Nat} (hp : P i = true) (h : ∀ j, j < i → P j = false) : ∀ n : Nat, i < n → z_first n P = i
  | 0, hn => by omega
  | m + 1, hn => by
    unfold z_first
    by_cases e : i = m
    · subst e
      rw [if_pos (z_first_none i h), if_pos hp]
    · rw [z_first_some hp h m (by omega), if_neg (by omega)]
theorem z_first_spec {P : Nat → Bool} (n : Nat) : (z_first n P = -1 ∧ ∀ j, j < n → P j = false) ∨ ∃ i, i < n ∧ z_first n P = (i : Int) ∧ P i = true ∧ ∀ j, j < i → P j = false := by
  induction n with
  | zero => exact Or.inl ⟨rfl, fun j hj => by omega⟩
  | succ m ih =>
    rcases ih with ⟨h1, h2⟩ | ⟨i, hi, h1, h2, h3⟩
    · by_cases hp : P m = true
      · exact Or.inr ⟨m, by omega, z_first_some hp h2 _ (by omega), hp, h2⟩
      · refine Or.inl ⟨z_first_none _ fun j hj => ?_, fun j hj => ?_⟩ <;>
        · by_cases e : j = m
          · subst e; simpa using hp
          · exact h2 j (by omega)
    · exact Or.inr ⟨i, by omega, z_first_some h2 h3 _ (by omega), h2, h3⟩
end K_J
