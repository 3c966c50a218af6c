/-! ===== THE MODEL: its readers ===== -/
section K_M1
variable {E : k_E} {sh : List k_Sh} {σ : Nat → Nat → Int} {r : Nat → Int}
theorem k_zbc {P Q : Prop} [Decidable P] [Decidable Q] (h : P ↔ Q) : zb P = zb Q := by
  unfold zb
  by_cases q : P
  · rw [if_pos q, if_pos (h.mp q)]
  · rw [if_neg q, if_neg (fun z => q (h.mpr z))]
def r_blockOfSubject_2 (r : Nat → Int) (p : Int) (s : Int) (x2 : Unit) : Int := -1
def b_blockOfSubject_2 (r : Nat → Int) (p : Int) (s : Int) (i2 : Nat) (x2 : Unit) : (Int) ⊕ (Unit) := if (r (105 + 4 * p + (i2 : Int)).toNat) = s then .inl ((i2 : Int)) else .inr (())
def m_blockOfSubject (r : Nat → Int) (p : Int) (s : Int) : Int := k_els (r_blockOfSubject_2 r p s) (k_for (b_blockOfSubject_2 r p s) (4) 0 ())
def r_inClass_5 (r : Nat → Int) (s : Int) (b : Int) (x5 : Int) : Int := x5
def b_inClass_5 (r : Nat → Int) (s : Int) (b : Int) (i5 : Nat) (x5 : Int) : Int := if (r (105 + 4 * (i5 : Int) + b).toNat) = s then x5 + 1 else x5 + 0
def m_inClass (r : Nat → Int) (s : Int) (b : Int) : Int := (r_inClass_5 r s b) (k_it (b_inClass_5 r s b) ((r 2).toNat) 0 (0))
def r_openOf_4 (r : Nat → Int) (s : Int) (x4 : Int) : Int := x4
def b_openOf_4 (r : Nat → Int) (s : Int) (i4 : Nat) (x4 : Int) : Int := x4 + (r ((17 + (4 * s)) + ((i4 : Int))).toNat)
def m_openOf (r : Nat → Int) (s : Int) : Int := (r_openOf_4 r s) (k_it (b_openOf_4 r s) (4) 0 (0))
def r_classesOf_4 (r : Nat → Int) (p : Int) (x4 : Int) : Int := x4
def b_classesOf_4 (r : Nat → Int) (p : Int) (i4 : Nat) (x4 : Int) : Int := if (r (105 + 4 * p + (i4 : Int)).toNat) = (-1) then x4 + 0 else x4 + 1
def m_classesOf (r : Nat → Int) (p : Int) : Int := (r_classesOf_4 r p) (k_it (b_classesOf_4 r p) (4) 0 (0))
def r_isWish_5 (r : Nat → Int) (p : Int) (s : Int) (x5 : Int) : Bool := decide (x5 = 1)
def b_isWish_5 (r : Nat → Int) (p : Int) (s : Int) (i5 : Nat) (x5 : Int) : Int := if x5 = 0 then if (r (57 + 3 * p + (i5 : Int)).toNat) = s then 1 else 0 else 1
def m_isWish (r : Nat → Int) (p : Int) (s : Int) : Bool := (r_isWish_5 r p s) (k_it (b_isWish_5 r p s) ((r (45 + p).toNat).toNat) 0 (0))
def m_hasRoom (r : Nat → Int) (s : Int) (b : Int) (wo : Int) : Bool := if wo = (-1) then if r (17 + 4 * s + b).toNat = 1 then if ((m_inClass r s b) - 0) < (r (10 + s).toNat) then true else false else false else if (r (105 + 4 * wo + b).toNat) = s then if r (17 + 4 * s + b).toNat = 1 then if ((m_inClass r s b) - 1) < (r (10 + s).toNat) then true else false else false else if r (17 + 4 * s + b).toNat = 1 then if ((m_inClass r s b) - 0) < (r (10 + s).toNat) then true else false else false
def r_lacksWish_4 (r : Nat → Int) (a : Nat → Int) (p : Int) (x4 : Int) : Bool := decide (x4 = 1)
def b_lacksWish_4 (r : Nat → Int) (a : Nat → Int) (p : Int) (i4 : Nat) (x4 : Int) : Int := if x4 = 0 then if (a ((i4 : Int)).toNat) = 4 then 1 else 0 else 1
def m_lacksWish (r : Nat → Int) (a : Nat → Int) (p : Int) : Bool := (r_lacksWish_4 r a p) (k_it (b_lacksWish_4 r a p) ((r (45 + p).toNat).toNat) 0 (0))
def r_worth_7 (r : Nat → Int) (a : Nat → Int) (p : Int) (x7 : Int × Int) : Int := if (a 3) < 4 then if m_lacksWish r a p = true then x7.2 else -1 else x7.2
def b_worth_7 (r : Nat → Int) (a : Nat → Int) (p : Int) (i7 : Nat) (x7 : Int × Int) : (Int) ⊕ (Int × Int) := if (a ((i7 : Int)).toNat) = 4 then .inr ((x7.1, x7.2)) else if (i7 : Int) = 3 then if (r (93 + p).toNat) = (-1) then .inl (-1) else if (a ((i7 : Int)).toNat) < (r 1) then if (z_and (z_shr (x7.1) (a ((i7 : Int)).toNat)) (1)) = 1 then .inl (-1) else if m_hasRoom r (r (93 + p).toNat) (a ((i7 : Int)).toNat) p = true then if (i7 : Int) = 3 then .inr ((z_or (x7.1) (z_one (a ((i7 : Int)).toNat)), (x7.2) + 1)) else .inr ((z_or (x7.1) (z_one (a ((i7 : Int)).toNat)), (x7.2) + (z_shr (8) ((i7 : Int))))) else .inl (-1) else .inl (-1) else if (i7 : Int) < (r (45 + p).toNat) then if (r (57 + 3 * p + (i7 : Int)).toNat) = (-1) then .inl (-1) else if (a ((i7 : Int)).toNat) < (r 1) then if (z_and (z_shr (x7.1) (a ((i7 : Int)).toNat)) (1)) = 1 then .inl (-1) else if m_hasRoom r (r (57 + 3 * p + (i7 : Int)).toNat) (a ((i7 : Int)).toNat) p = true then if (i7 : Int) = 3 then .inr ((z_or (x7.1) (z_one (a ((i7 : Int)).toNat)), (x7.2) + 1)) else .inr ((z_or (x7.1) (z_one (a ((i7 : Int)).toNat)), (x7.2) + (z_shr (8) ((i7 : Int))))) else .inl (-1) else .inl (-1) else .inl (-1)
def m_worth (r : Nat → Int) (a : Nat → Int) (p : Int) : Int := k_els (r_worth_7 r a p) (k_for (b_worth_7 r a p) (4) 0 ((0, 0)))
end K_M1
