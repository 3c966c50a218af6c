/-! ===== RULES: one an instruction ===== -/
section K_B
theorem k_at {E : k_E} {ad : Nat → Nat} {lsC : Array Slot} {nL q i : Nat} {ls : List (Nat × Value)} {v : Value} (hl : lv_has lsC nL (k_lc E ad ls)) (h : ls[q]? = some (i, v)) : lsC[i]? = some (.val (k_cv E ad v)) :=
  lv_at hl q (by simp [k_lc, List.getElem?_map, h])
theorem k_cv_ref {E : k_E} {ad : Nat → Nat} {x : Nat} (h : x ≠ 1000001) : k_cv E ad (.ref x) = .ref (ad x) := if_neg h
variable {E : k_E} {M : k_M} {dp pc k n : Nat} {ls : List (Nat × Value)} {st : List Value} {sh : List k_Sh} {σ : Nat → Nat → Int} {Q : k_Q}
/-- names for a number -/
theorem k_name {x : Int} (kk : ∀ y : Int, y = x → k_V E M dp pc ls (.int (iI y) :: st) sh σ k n Q) : k_V E M dp pc ls (.int (iI x) :: st) sh σ k n Q := kk x rfl
theorem k_eqst {st' : List Value} (h : st' = st) (kk : k_V E M dp pc ls st' sh σ k n Q) : k_V E M dp pc ls st sh σ k n Q := h ▸ kk
theorem k_eqσ {σ' : Nat → Nat → Int} (h : σ' = σ) (kk : k_V E M dp pc ls st sh σ' k n Q) : k_V E M dp pc ls st sh σ k n Q := h ▸ kk
theorem k_less {k' n' : Nat} (hk : k' ≤ k) (hn : n' ≤ n) (kk : k_V E M dp pc ls st sh σ k' n' Q) : k_V E M dp pc ls st sh σ k n Q := by
  intro N0 ad0 p e R s m args below meth c H locs cells slots lsC ad mc ms C X hl
  obtain ⟨x1, x2, x3, x4, x5, x6, x7⟩ := X
  exact kk N0 ad0 p e R s m args below meth c H locs cells slots lsC ad mc ms C ⟨x1, by omega, by omega, x4, x5, x6, x7⟩ hl
theorem k_post {Q' : k_Q} (hQ : ∀ r sh' σ', Q' r sh' σ' → Q r sh' σ') (kk : k_V E M dp pc ls st sh σ k n Q') : k_V E M dp pc ls st sh σ k n Q := by
  intro N0 ad0 p e R s m args below meth c H locs cells slots lsC ad mc ms C X hl T hT Y
  obtain ⟨t, a1, o, b1, b2, b3⟩ := kk N0 ad0 p e R s m args below meth c H locs cells slots lsC ad mc ms C X hl T hT Y
  refine ⟨t, a1, o, b1, b2, ?_⟩
  rcases b3 with ⟨⟨v, sh', σ', ad', h1, h2, h3⟩, hL⟩ | ⟨q, h1, X', ce, L, ⟨sh', σ', ad', h2, h3⟩, h4⟩
  · exact Or.inl ⟨⟨v, sh', σ', ad', h1, hQ _ _ _ h2, h3⟩, hL⟩
  · exact Or.inr ⟨q, h1, X', ce, L, ⟨sh', σ', ad', hQ _ _ _ h2, h3⟩, h4⟩
theorem k_iconst {z : Int} {v : Int} (hd : decode M.2.1 pc = .ok (.iconst z, 1)) (hv : z = v) (kk : k_V E M dp (pc + 1) ls (.int (iI v) :: st) sh σ k n Q) : k_V E M dp pc ls st sh σ k n Q := by
  intro N0 ad0 p e R s m args below meth c H locs cells slots lsC ad mc ms C X hl
  exact lv_iconst C.1 C.2.1 hd (congrArg Int32.ofInt hv) (kk N0 ad0 p e R s m args below meth c H locs cells slots lsC ad mc ms C X hl)
theorem k_bipush {z : Int} {v : Int} (hd : decode M.2.1 pc = .ok (.bipush z, 2)) (hv : (Int8.ofInt z).toInt32 = iI v) (kk : k_V E M dp (pc + 2) ls (.int (iI v) :: st) sh σ k n Q) : k_V E M dp pc ls st sh σ k n Q := by
  intro N0 ad0 p e R s m args below meth c H locs cells slots lsC ad mc ms C X hl
  exact lv_bipush C.1 C.2.1 hd hv (kk N0 ad0 p e R s m args below meth c H locs cells slots lsC ad mc ms C X hl)
theorem k_sipush {z : Int} {v : Int} (hd : decode M.2.1 pc = .ok (.sipush z, 3)) (hv : (Int16.ofInt z).toInt32 = iI v) (kk : k_V E M dp (pc + 3) ls (.int (iI v) :: st) sh σ k n Q) : k_V E M dp pc ls st sh σ k n Q := by
  intro N0 ad0 p e R s m args below meth c H locs cells slots lsC ad mc ms C X hl
  exact lv_sipush C.1 C.2.1 hd hv (kk N0 ad0 p e R s m args below meth c H locs cells slots lsC ad mc ms C X hl)
theorem k_lconst {z : Fin 2} {v : Int} (hd : decode M.2.1 pc = .ok (.lconst z, 1)) (hv : Int64.ofNat (z : Nat) = iL v) (kk : k_V E M dp (pc + 1) ls (.long (iL v) :: st) sh σ k n Q) : k_V E M dp pc ls st sh σ k n Q := by
  intro N0 ad0 p e R s m args below meth c H locs cells slots lsC ad mc ms C X hl
  exact lv_lconst C.1 C.2.1 hd hv (kk N0 ad0 p e R s m args below meth c H locs cells slots lsC ad mc ms C X hl)
theorem k_iload_n {i : Fin 4} {j : Nat} {x : Int32} (hd : decode M.2.1 pc = .ok (.iload_n i, 1)) (q : Nat) (hi : (i : Nat) = j) (h : ls[q]? = some (j, .int x)) (kk : k_V E M dp (pc + 1) ls (.int x :: st) sh σ k n Q) : k_V E M dp pc ls st sh σ k n Q := by
  intro N0 ad0 p e R s m args below meth c H locs cells slots lsC ad mc ms C X hl
  exact lv_iload_n C.1 C.2.1 hd hi (k_at hl h) (kk N0 ad0 p e R s m args below meth c H locs cells slots lsC ad mc ms C X hl)
theorem k_iload {j : Nat} {x : Int32} (hd : decode M.2.1 pc = .ok (.iload j, 2)) (q : Nat) (h : ls[q]? = some (j, .int x)) (kk : k_V E M dp (pc + 2) ls (.int x :: st) sh σ k n Q) : k_V E M dp pc ls st sh σ k n Q := by
  intro N0 ad0 p e R s m args below meth c H locs cells slots lsC ad mc ms C X hl
  exact lv_iload C.1 C.2.1 hd (k_at hl h) (kk N0 ad0 p e R s m args below meth c H locs cells slots lsC ad mc ms C X hl)
theorem k_aload_n {i : Fin 4} {j x : Nat} (hd : decode M.2.1 pc = .ok (.aload_n i, 1)) (q : Nat) (hi : (i : Nat) = j) (h : ls[q]? = some (j, .ref x)) (hx : x ≠ 1000001) (kk : k_V E M dp (pc + 1) ls (.ref x :: st) sh σ k n Q) : k_V E M dp pc ls st sh σ k n Q := by
  intro N0 ad0 p e R s m args below meth c H locs cells slots lsC ad mc ms C X hl
  have h1 := k_at hl h
  have h2 := kk N0 ad0 p e R s m args below meth c H locs cells slots lsC ad mc ms C X hl
  rw [List.map_cons, k_cv_ref hx] at h2
  rw [k_cv_ref hx] at h1
  exact lv_aload_n C.1 C.2.1 hd hi h1 h2
theorem k_aload {j x : Nat} (hd : decode M.2.1 pc = .ok (.aload j, 2)) (q : Nat) (h : ls[q]? = some (j, .ref x)) (hx : x ≠ 1000001) (kk : k_V E M dp (pc + 2) ls (.ref x :: st) sh σ k n Q) : k_V E M dp pc ls st sh σ k n Q := by
  intro N0 ad0 p e R s m args below meth c H locs cells slots lsC ad mc ms C X hl
  have h1 := k_at hl h
  have h2 := kk N0 ad0 p e R s m args below meth c H locs cells slots lsC ad mc ms C X hl
  rw [List.map_cons, k_cv_ref hx] at h2
  rw [k_cv_ref hx] at h1
  exact lv_aload C.1 C.2.1 hd h1 h2
/-- a local's new value, in its place -/
def k_put (i : Nat) (v : Value) : List (Nat × Value) → List (Nat × Value)
  | [] => [(i, v)]
  | q :: r => if q.1 = i then (i, v) :: r.filter (fun z => !(z.1 == i)) else q :: k_put i v r
theorem k_put_mem {i : Nat} {v : Value} : ∀ {ls : List (Nat × Value)} {z : Nat × Value}, z ∈ k_put i v ls → z = (i, v) ∨ (z ∈ ls ∧ ¬ z.1 = i)
  | [], z, h => by
    rw [k_put, List.mem_singleton] at h
    exact Or.inl h
  | q :: r, z, h => by
    rw [k_put] at h
    split at h
    · rcases List.mem_cons.mp h with h | h
      · exact Or.inl h
      · obtain ⟨h1, h2⟩ := List.mem_filter.mp h
        exact Or.inr ⟨List.mem_cons_of_mem _ h1, by simpa using h2⟩
    · rename_i hq
      rcases List.mem_cons.mp h with h | h
      · subst h
        exact Or.inr ⟨List.mem_cons_self, hq⟩
      · rcases k_put_mem h with h | ⟨h1, h2⟩
        · exact Or.inl h
        · exact Or.inr ⟨List.mem_cons_of_mem _ h1, h2⟩
/-- no local of two words -/
def k_one (ls : List (Nat × Value)) : Bool := ls.all fun q => q.2.category == 1
theorem k_one_at (h : k_one ls = true) : ∀ q ∈ ls, q.2.category = 1 := fun q hq => by simpa using List.all_eq_true.mp h q hq
theorem k_cat {ad : Nat → Nat} (hf : (k_fm E).category = 1) (v : Value) : (k_cv E ad v).category = v.category := by
  cases v with
  | ref k =>
    show (if k = 1000001 then k_fm E else .ref (ad k)).category = 1
    split
    · exact hf
    · rfl
  | _ => rfl
theorem k_puts {ad : Nat → Nat} {lsC : Array Slot} {nL i : Nat} {v vC : Value} (hf : (k_fm E).category = 1) (h1 : k_one ls = true) (hv : vC = k_cv E ad v) (h : lv_has lsC nL ((i, vC) :: (k_lc E ad ls).filter (fun q => !(q.1 == i) && !(q.1 + 1 == i && q.2.category == 2)))) : lv_has lsC nL (k_lc E ad (k_put i v ls)) := by
  refine ⟨h.1, h.2.1, fun q hq => ?_⟩
  obtain ⟨z, hz, rfl⟩ := List.mem_map.mp hq
  rcases k_put_mem hz with rfl | ⟨h2, h3⟩
  · have := h.2.2 (i, vC) List.mem_cons_self
    rw [hv] at this
    exact this
  · refine h.2.2 (z.1, k_cv E ad z.2) (List.mem_cons_of_mem _ (List.mem_filter.mpr ⟨List.mem_map.mpr ⟨z, h2, rfl⟩, ?_⟩))
    have hc : (k_cv E ad z.2).category = 1 := (k_cat hf z.2).trans (k_one_at h1 z h2)
    simp [h3, hc]
theorem k_fmc {p : Program} {R : Room} {s : State} {m : MethodId} {args : Array Value} {meth : Method} {c : Code} (C : k_Ctx E M dp p R s m args meth c) : (k_fm E).category = 1 := C.2.2.2.2.2.2.2.2.2.1.2.2.2.2.2.2.2.2.2.1
theorem k_r0 : k_r 0 := ⟨by decide, by decide⟩
theorem iI_i2l {a : Int} (ha : k_r a) : (iI a).toInt64 = iL a := by
  apply Int64.toInt_inj.mp
  rw [Int32.toInt_toInt64, iI_toInt ha]
  exact (Int64.toInt_ofInt_of_le (by have := ha.1; omega) (by have := ha.2; omega)).symm

theorem k_iadd {a b : Int} (hd : decode M.2.1 pc = .ok (.iadd, 1)) (kk : k_V E M dp (pc + 1) ls (.int (iI (a + b)) :: st) sh σ k n Q) : k_V E M dp pc ls (.int (iI b) :: .int (iI a) :: st) sh σ k n Q := by
  intro N0 ad0 p e R s m args below meth c H locs cells slots lsC ad mc ms C X hl
  have h := kk N0 ad0 p e R s m args below meth c H locs cells slots lsC ad mc ms C X hl
  rw [← iI_add] at h
  exact lv_iadd C.1 C.2.1 hd h

theorem k_isub {a b : Int} (hd : decode M.2.1 pc = .ok (.isub, 1)) (kk : k_V E M dp (pc + 1) ls (.int (iI (a - b)) :: st) sh σ k n Q) : k_V E M dp pc ls (.int (iI b) :: .int (iI a) :: st) sh σ k n Q := by
  intro N0 ad0 p e R s m args below meth c H locs cells slots lsC ad mc ms C X hl
  have h := kk N0 ad0 p e R s m args below meth c H locs cells slots lsC ad mc ms C X hl
  rw [← iI_sub] at h
  exact lv_isub C.1 C.2.1 hd h

theorem k_imul {a b : Int} (hd : decode M.2.1 pc = .ok (.imul, 1)) (kk : k_V E M dp (pc + 1) ls (.int (iI (a * b)) :: st) sh σ k n Q) : k_V E M dp pc ls (.int (iI b) :: .int (iI a) :: st) sh σ k n Q := by
  intro N0 ad0 p e R s m args below meth c H locs cells slots lsC ad mc ms C X hl
  have h := kk N0 ad0 p e R s m args below meth c H locs cells slots lsC ad mc ms C X hl
  rw [← iI_mul] at h
  exact lv_imul C.1 C.2.1 hd h

theorem k_iand {x y v : Int32} (hd : decode M.2.1 pc = .ok (.iand, 1)) (hv : x &&& y = v) (kk : k_V E M dp (pc + 1) ls (.int v :: st) sh σ k n Q) : k_V E M dp pc ls (.int y :: .int x :: st) sh σ k n Q := by
  intro N0 ad0 p e R s m args below meth c H locs cells slots lsC ad mc ms C X hl
  subst hv
  exact lv_iand C.1 C.2.1 hd (kk N0 ad0 p e R s m args below meth c H locs cells slots lsC ad mc ms C X hl)

theorem k_ior {x y v : Int32} (hd : decode M.2.1 pc = .ok (.ior, 1)) (hv : x ||| y = v) (kk : k_V E M dp (pc + 1) ls (.int v :: st) sh σ k n Q) : k_V E M dp pc ls (.int y :: .int x :: st) sh σ k n Q := by
  intro N0 ad0 p e R s m args below meth c H locs cells slots lsC ad mc ms C X hl
  subst hv
  exact lv_ior C.1 C.2.1 hd (kk N0 ad0 p e R s m args below meth c H locs cells slots lsC ad mc ms C X hl)

theorem k_ixor {x y v : Int32} (hd : decode M.2.1 pc = .ok (.ixor, 1)) (hv : x ^^^ y = v) (kk : k_V E M dp (pc + 1) ls (.int v :: st) sh σ k n Q) : k_V E M dp pc ls (.int y :: .int x :: st) sh σ k n Q := by
  intro N0 ad0 p e R s m args below meth c H locs cells slots lsC ad mc ms C X hl
  subst hv
  exact lv_ixor C.1 C.2.1 hd (kk N0 ad0 p e R s m args below meth c H locs cells slots lsC ad mc ms C X hl)

theorem k_ishl {x y v : Int32} (hd : decode M.2.1 pc = .ok (.ishl, 1)) (hv : x <<< (y &&& 31) = v) (kk : k_V E M dp (pc + 1) ls (.int v :: st) sh σ k n Q) : k_V E M dp pc ls (.int y :: .int x :: st) sh σ k n Q := by
  intro N0 ad0 p e R s m args below meth c H locs cells slots lsC ad mc ms C X hl
  subst hv
  exact lv_ishl C.1 C.2.1 hd (kk N0 ad0 p e R s m args below meth c H locs cells slots lsC ad mc ms C X hl)

theorem k_ishr {x y v : Int32} (hd : decode M.2.1 pc = .ok (.ishr, 1)) (hv : x >>> (y &&& 31) = v) (kk : k_V E M dp (pc + 1) ls (.int v :: st) sh σ k n Q) : k_V E M dp pc ls (.int y :: .int x :: st) sh σ k n Q := by
  intro N0 ad0 p e R s m args below meth c H locs cells slots lsC ad mc ms C X hl
  subst hv
  exact lv_ishr C.1 C.2.1 hd (kk N0 ad0 p e R s m args below meth c H locs cells slots lsC ad mc ms C X hl)

theorem k_iushr {x y v : Int32} (hd : decode M.2.1 pc = .ok (.iushr, 1)) (hv : (x.toUInt32 >>> (y.toUInt32 &&& Int32.toUInt32 31)).toInt32 = v) (kk : k_V E M dp (pc + 1) ls (.int v :: st) sh σ k n Q) : k_V E M dp pc ls (.int y :: .int x :: st) sh σ k n Q := by
  intro N0 ad0 p e R s m args below meth c H locs cells slots lsC ad mc ms C X hl
  exact lv_iushr C.1 C.2.1 hd hv (kk N0 ad0 p e R s m args below meth c H locs cells slots lsC ad mc ms C X hl)

theorem k_ineg {a : Int} (hd : decode M.2.1 pc = .ok (.ineg, 1)) (kk : k_V E M dp (pc + 1) ls (.int (iI (-a)) :: st) sh σ k n Q) : k_V E M dp pc ls (.int (iI a) :: st) sh σ k n Q := by
  intro N0 ad0 p e R s m args below meth c H locs cells slots lsC ad mc ms C X hl
  have h := kk N0 ad0 p e R s m args below meth c H locs cells slots lsC ad mc ms C X hl
  rw [← iI_neg] at h
  exact lv_ineg C.1 C.2.1 hd h

theorem k_idiv {x y v : Int32} (hd : decode M.2.1 pc = .ok (.idiv, 1)) (h0 : ¬ y = 0) (hv : x / y = v) (kk : k_V E M dp (pc + 1) ls (.int v :: st) sh σ k n Q) : k_V E M dp pc ls (.int y :: .int x :: st) sh σ k n Q := by
  intro N0 ad0 p e R s m args below meth c H locs cells slots lsC ad mc ms C X hl
  subst hv
  exact lv_idiv C.1 C.2.1 hd h0 (kk N0 ad0 p e R s m args below meth c H locs cells slots lsC ad mc ms C X hl)

theorem k_irem {x y v : Int32} (hd : decode M.2.1 pc = .ok (.irem, 1)) (h0 : ¬ y = 0) (hv : x - x / y * y = v) (kk : k_V E M dp (pc + 1) ls (.int v :: st) sh σ k n Q) : k_V E M dp pc ls (.int y :: .int x :: st) sh σ k n Q := by
  intro N0 ad0 p e R s m args below meth c H locs cells slots lsC ad mc ms C X hl
  subst hv
  exact lv_irem C.1 C.2.1 hd h0 (kk N0 ad0 p e R s m args below meth c H locs cells slots lsC ad mc ms C X hl)

theorem k_i2l {a : Int} (hd : decode M.2.1 pc = .ok (.i2l, 1)) (ha : k_r a) (kk : k_V E M dp (pc + 1) ls (.long (iL a) :: st) sh σ k n Q) : k_V E M dp pc ls (.int (iI a) :: st) sh σ k n Q := by
  intro N0 ad0 p e R s m args below meth c H locs cells slots lsC ad mc ms C X hl
  exact lv_i2l C.1 C.2.1 hd (iI_i2l ha) (kk N0 ad0 p e R s m args below meth c H locs cells slots lsC ad mc ms C X hl)

theorem k_i2c {x v : Int32} (hd : decode M.2.1 pc = .ok (.i2c, 1)) (hv : (x.toUInt32 % 65536).toInt32 = v) (kk : k_V E M dp (pc + 1) ls (.int v :: st) sh σ k n Q) : k_V E M dp pc ls (.int x :: st) sh σ k n Q := by
  intro N0 ad0 p e R s m args below meth c H locs cells slots lsC ad mc ms C X hl
  exact lv_i2c C.1 C.2.1 hd hv (kk N0 ad0 p e R s m args below meth c H locs cells slots lsC ad mc ms C X hl)

theorem k_i2d {x : Int32} {v : UInt64} (hd : decode M.2.1 pc = .ok (.i2d, 1)) (hv : FP.i2d x = v) (kk : k_V E M dp (pc + 1) ls (.double v :: st) sh σ k n Q) : k_V E M dp pc ls (.int x :: st) sh σ k n Q := by
  intro N0 ad0 p e R s m args below meth c H locs cells slots lsC ad mc ms C X hl
  subst hv
  exact lv_i2d C.1 C.2.1 hd (kk N0 ad0 p e R s m args below meth c H locs cells slots lsC ad mc ms C X hl)

theorem k_lcmp {a b v : Int} (hd : decode M.2.1 pc = .ok (.lcmp, 1)) (hv : lg_cmp (iL a) (iL b) = iI v) (kk : k_V E M dp (pc + 1) ls (.int (iI v) :: st) sh σ k n Q) : k_V E M dp pc ls (.long (iL b) :: .long (iL a) :: st) sh σ k n Q := by
  intro N0 ad0 p e R s m args below meth c H locs cells slots lsC ad mc ms C X hl
  have h := kk N0 ad0 p e R s m args below meth c H locs cells slots lsC ad mc ms C X hl
  rw [← hv] at h
  exact W.lcmp C.1 C.2.1 hd h

theorem k_icmp_eq {a b off : Int} {tgt : Nat} (hd : decode M.2.1 pc = .ok (.if_icmp .eq off, 3)) (ht : (pc : Int) + off = (tgt : Int)) (ha : k_r a) (hb : k_r b) (kt : a = b → k_V E M dp tgt ls st sh σ k n Q) (kf : ¬ a = b → k_V E M dp (pc + 3) ls st sh σ k n Q) : k_V E M dp pc ls (.int (iI b) :: .int (iI a) :: st) sh σ k n Q := by
  intro N0 ad0 p e R s m args below meth c H locs cells slots lsC ad mc ms C X hl
  exact lv_icmp_eq C.1 C.2.1 hd ht (fun q => (kt ((iI_eq ha hb).mp q)) N0 ad0 p e R s m args below meth c H locs cells slots lsC ad mc ms C X hl) (fun q => (kf (fun z => q ((iI_eq ha hb).mpr z))) N0 ad0 p e R s m args below meth c H locs cells slots lsC ad mc ms C X hl)

theorem k_if_eq {a off : Int} {tgt : Nat} (hd : decode M.2.1 pc = .ok (.ifCond .eq off, 3)) (ht : (pc : Int) + off = (tgt : Int)) (ha : k_r a) (kt : a = 0 → k_V E M dp tgt ls st sh σ k n Q) (kf : ¬ a = 0 → k_V E M dp (pc + 3) ls st sh σ k n Q) : k_V E M dp pc ls (.int (iI a) :: st) sh σ k n Q := by
  intro N0 ad0 p e R s m args below meth c H locs cells slots lsC ad mc ms C X hl
  exact lv_if_eq C.1 C.2.1 hd ht (fun q => (kt ((iI_eq ha k_r0).mp q)) N0 ad0 p e R s m args below meth c H locs cells slots lsC ad mc ms C X hl) (fun q => (kf (fun z => q ((iI_eq ha k_r0).mpr z))) N0 ad0 p e R s m args below meth c H locs cells slots lsC ad mc ms C X hl)

theorem k_icmp_ne {a b off : Int} {tgt : Nat} (hd : decode M.2.1 pc = .ok (.if_icmp .ne off, 3)) (ht : (pc : Int) + off = (tgt : Int)) (ha : k_r a) (hb : k_r b) (kt : ¬ a = b → k_V E M dp tgt ls st sh σ k n Q) (kf : a = b → k_V E M dp (pc + 3) ls st sh σ k n Q) : k_V E M dp pc ls (.int (iI b) :: .int (iI a) :: st) sh σ k n Q := by
  intro N0 ad0 p e R s m args below meth c H locs cells slots lsC ad mc ms C X hl
  exact lv_icmp_ne C.1 C.2.1 hd ht (fun q => (kt (fun z => q ((iI_eq ha hb).mpr z))) N0 ad0 p e R s m args below meth c H locs cells slots lsC ad mc ms C X hl) (fun q => (kf ((iI_eq ha hb).mp q)) N0 ad0 p e R s m args below meth c H locs cells slots lsC ad mc ms C X hl)

theorem k_if_ne {a off : Int} {tgt : Nat} (hd : decode M.2.1 pc = .ok (.ifCond .ne off, 3)) (ht : (pc : Int) + off = (tgt : Int)) (ha : k_r a) (kt : ¬ a = 0 → k_V E M dp tgt ls st sh σ k n Q) (kf : a = 0 → k_V E M dp (pc + 3) ls st sh σ k n Q) : k_V E M dp pc ls (.int (iI a) :: st) sh σ k n Q := by
  intro N0 ad0 p e R s m args below meth c H locs cells slots lsC ad mc ms C X hl
  exact lv_if_ne C.1 C.2.1 hd ht (fun q => (kt (fun z => q ((iI_eq ha k_r0).mpr z))) N0 ad0 p e R s m args below meth c H locs cells slots lsC ad mc ms C X hl) (fun q => (kf ((iI_eq ha k_r0).mp q)) N0 ad0 p e R s m args below meth c H locs cells slots lsC ad mc ms C X hl)

theorem k_icmp_lt {a b off : Int} {tgt : Nat} (hd : decode M.2.1 pc = .ok (.if_icmp .lt off, 3)) (ht : (pc : Int) + off = (tgt : Int)) (ha : k_r a) (hb : k_r b) (kt : a < b → k_V E M dp tgt ls st sh σ k n Q) (kf : b ≤ a → k_V E M dp (pc + 3) ls st sh σ k n Q) : k_V E M dp pc ls (.int (iI b) :: .int (iI a) :: st) sh σ k n Q := by
  intro N0 ad0 p e R s m args below meth c H locs cells slots lsC ad mc ms C X hl
  exact lv_icmp_lt C.1 C.2.1 hd ht (fun q => (kt ((iI_lt ha hb).mp q)) N0 ad0 p e R s m args below meth c H locs cells slots lsC ad mc ms C X hl) (fun q => (kf (Int.not_lt.mp (fun z => q ((iI_lt ha hb).mpr z)))) N0 ad0 p e R s m args below meth c H locs cells slots lsC ad mc ms C X hl)

theorem k_if_lt {a off : Int} {tgt : Nat} (hd : decode M.2.1 pc = .ok (.ifCond .lt off, 3)) (ht : (pc : Int) + off = (tgt : Int)) (ha : k_r a) (kt : a < 0 → k_V E M dp tgt ls st sh σ k n Q) (kf : 0 ≤ a → k_V E M dp (pc + 3) ls st sh σ k n Q) : k_V E M dp pc ls (.int (iI a) :: st) sh σ k n Q := by
  intro N0 ad0 p e R s m args below meth c H locs cells slots lsC ad mc ms C X hl
  exact lv_if_lt C.1 C.2.1 hd ht (fun q => (kt ((iI_lt ha k_r0).mp q)) N0 ad0 p e R s m args below meth c H locs cells slots lsC ad mc ms C X hl) (fun q => (kf (Int.not_lt.mp (fun z => q ((iI_lt ha k_r0).mpr z)))) N0 ad0 p e R s m args below meth c H locs cells slots lsC ad mc ms C X hl)

theorem k_icmp_ge {a b off : Int} {tgt : Nat} (hd : decode M.2.1 pc = .ok (.if_icmp .ge off, 3)) (ht : (pc : Int) + off = (tgt : Int)) (ha : k_r a) (hb : k_r b) (kt : b ≤ a → k_V E M dp tgt ls st sh σ k n Q) (kf : a < b → k_V E M dp (pc + 3) ls st sh σ k n Q) : k_V E M dp pc ls (.int (iI b) :: .int (iI a) :: st) sh σ k n Q := by
  intro N0 ad0 p e R s m args below meth c H locs cells slots lsC ad mc ms C X hl
  exact lv_icmp_ge C.1 C.2.1 hd ht (fun q => (kt ((iI_le hb ha).mp q)) N0 ad0 p e R s m args below meth c H locs cells slots lsC ad mc ms C X hl) (fun q => (kf (Int.not_le.mp (fun z => q ((iI_le hb ha).mpr z)))) N0 ad0 p e R s m args below meth c H locs cells slots lsC ad mc ms C X hl)

theorem k_if_ge {a off : Int} {tgt : Nat} (hd : decode M.2.1 pc = .ok (.ifCond .ge off, 3)) (ht : (pc : Int) + off = (tgt : Int)) (ha : k_r a) (kt : 0 ≤ a → k_V E M dp tgt ls st sh σ k n Q) (kf : a < 0 → k_V E M dp (pc + 3) ls st sh σ k n Q) : k_V E M dp pc ls (.int (iI a) :: st) sh σ k n Q := by
  intro N0 ad0 p e R s m args below meth c H locs cells slots lsC ad mc ms C X hl
  exact lv_if_ge C.1 C.2.1 hd ht (fun q => (kt ((iI_le k_r0 ha).mp q)) N0 ad0 p e R s m args below meth c H locs cells slots lsC ad mc ms C X hl) (fun q => (kf (Int.not_le.mp (fun z => q ((iI_le k_r0 ha).mpr z)))) N0 ad0 p e R s m args below meth c H locs cells slots lsC ad mc ms C X hl)

theorem k_icmp_gt {a b off : Int} {tgt : Nat} (hd : decode M.2.1 pc = .ok (.if_icmp .gt off, 3)) (ht : (pc : Int) + off = (tgt : Int)) (ha : k_r a) (hb : k_r b) (kt : b < a → k_V E M dp tgt ls st sh σ k n Q) (kf : a ≤ b → k_V E M dp (pc + 3) ls st sh σ k n Q) : k_V E M dp pc ls (.int (iI b) :: .int (iI a) :: st) sh σ k n Q := by
  intro N0 ad0 p e R s m args below meth c H locs cells slots lsC ad mc ms C X hl
  exact lv_icmp_gt C.1 C.2.1 hd ht (fun q => (kt ((iI_lt hb ha).mp q)) N0 ad0 p e R s m args below meth c H locs cells slots lsC ad mc ms C X hl) (fun q => (kf (Int.not_lt.mp (fun z => q ((iI_lt hb ha).mpr z)))) N0 ad0 p e R s m args below meth c H locs cells slots lsC ad mc ms C X hl)

theorem k_if_gt {a off : Int} {tgt : Nat} (hd : decode M.2.1 pc = .ok (.ifCond .gt off, 3)) (ht : (pc : Int) + off = (tgt : Int)) (ha : k_r a) (kt : 0 < a → k_V E M dp tgt ls st sh σ k n Q) (kf : a ≤ 0 → k_V E M dp (pc + 3) ls st sh σ k n Q) : k_V E M dp pc ls (.int (iI a) :: st) sh σ k n Q := by
  intro N0 ad0 p e R s m args below meth c H locs cells slots lsC ad mc ms C X hl
  exact lv_if_gt C.1 C.2.1 hd ht (fun q => (kt ((iI_lt k_r0 ha).mp q)) N0 ad0 p e R s m args below meth c H locs cells slots lsC ad mc ms C X hl) (fun q => (kf (Int.not_lt.mp (fun z => q ((iI_lt k_r0 ha).mpr z)))) N0 ad0 p e R s m args below meth c H locs cells slots lsC ad mc ms C X hl)

theorem k_icmp_le {a b off : Int} {tgt : Nat} (hd : decode M.2.1 pc = .ok (.if_icmp .le off, 3)) (ht : (pc : Int) + off = (tgt : Int)) (ha : k_r a) (hb : k_r b) (kt : a ≤ b → k_V E M dp tgt ls st sh σ k n Q) (kf : b < a → k_V E M dp (pc + 3) ls st sh σ k n Q) : k_V E M dp pc ls (.int (iI b) :: .int (iI a) :: st) sh σ k n Q := by
  intro N0 ad0 p e R s m args below meth c H locs cells slots lsC ad mc ms C X hl
  exact lv_icmp_le C.1 C.2.1 hd ht (fun q => (kt ((iI_le ha hb).mp q)) N0 ad0 p e R s m args below meth c H locs cells slots lsC ad mc ms C X hl) (fun q => (kf (Int.not_le.mp (fun z => q ((iI_le ha hb).mpr z)))) N0 ad0 p e R s m args below meth c H locs cells slots lsC ad mc ms C X hl)

theorem k_if_le {a off : Int} {tgt : Nat} (hd : decode M.2.1 pc = .ok (.ifCond .le off, 3)) (ht : (pc : Int) + off = (tgt : Int)) (ha : k_r a) (kt : a ≤ 0 → k_V E M dp tgt ls st sh σ k n Q) (kf : 0 < a → k_V E M dp (pc + 3) ls st sh σ k n Q) : k_V E M dp pc ls (.int (iI a) :: st) sh σ k n Q := by
  intro N0 ad0 p e R s m args below meth c H locs cells slots lsC ad mc ms C X hl
  exact lv_if_le C.1 C.2.1 hd ht (fun q => (kt ((iI_le ha k_r0).mp q)) N0 ad0 p e R s m args below meth c H locs cells slots lsC ad mc ms C X hl) (fun q => (kf (Int.not_le.mp (fun z => q ((iI_le ha k_r0).mpr z)))) N0 ad0 p e R s m args below meth c H locs cells slots lsC ad mc ms C X hl)

theorem k_goto {off : Int} {tgt : Nat} (hd : decode M.2.1 pc = .ok (.goto off, 3)) (ht : (pc : Int) + off = (tgt : Int)) (kk : k_V E M dp tgt ls st sh σ k n Q) : k_V E M dp pc ls st sh σ k n Q := by
  intro N0 ad0 p e R s m args below meth c H locs cells slots lsC ad mc ms C X hl
  exact lv_goto C.1 C.2.1 hd ht (kk N0 ad0 p e R s m args below meth c H locs cells slots lsC ad mc ms C X hl)

theorem k_tableIn {dflt lo hi off a : Int} {offs : Array Int} {len tgt : Nat} (hd : decode M.2.1 pc = .ok (.tableswitch dflt lo hi offs, len)) (ha : k_r a) (h1 : lo ≤ a) (h2 : a ≤ hi) (ho : offs[(a - lo).toNat]? = some off) (ht : (pc : Int) + off = (tgt : Int)) (kk : k_V E M dp tgt ls st sh σ k n Q) : k_V E M dp pc ls (.int (iI a) :: st) sh σ k n Q := by
  intro N0 ad0 p e R s m args below meth c H locs cells slots lsC ad mc ms C X hl
  exact lv_tableIn C.1 C.2.1 hd (by rw [iI_toInt ha]; omega) (by rw [iI_toInt ha]; omega) (by rw [iI_toInt ha]; exact ho) ht (kk N0 ad0 p e R s m args below meth c H locs cells slots lsC ad mc ms C X hl)

theorem k_tableOut {dflt lo hi a : Int} {offs : Array Int} {len tgt : Nat} (hd : decode M.2.1 pc = .ok (.tableswitch dflt lo hi offs, len)) (ha : k_r a) (h : a < lo ∨ hi < a) (ht : (pc : Int) + dflt = (tgt : Int)) (kk : k_V E M dp tgt ls st sh σ k n Q) : k_V E M dp pc ls (.int (iI a) :: st) sh σ k n Q := by
  intro N0 ad0 p e R s m args below meth c H locs cells slots lsC ad mc ms C X hl
  exact lv_tableOut C.1 C.2.1 hd (by rw [iI_toInt ha]; exact h) ht (kk N0 ad0 p e R s m args below meth c H locs cells slots lsC ad mc ms C X hl)

theorem k_dup {v : Value} (hd : decode M.2.1 pc = .ok (.dup, 1)) (hc : v.category = 1) (kk : k_V E M dp (pc + 1) ls (v :: v :: st) sh σ k n Q) : k_V E M dp pc ls (v :: st) sh σ k n Q := by
  intro N0 ad0 p e R s m args below meth c H locs cells slots lsC ad mc ms C X hl
  exact lv_dup C.1 C.2.1 hd ((k_cat (k_fmc C) v).trans hc) (kk N0 ad0 p e R s m args below meth c H locs cells slots lsC ad mc ms C X hl)

theorem k_pop {v : Value} (hd : decode M.2.1 pc = .ok (.pop, 1)) (hc : v.category = 1) (kk : k_V E M dp (pc + 1) ls st sh σ k n Q) : k_V E M dp pc ls (v :: st) sh σ k n Q := by
  intro N0 ad0 p e R s m args below meth c H locs cells slots lsC ad mc ms C X hl
  exact lv_pop C.1 C.2.1 hd ((k_cat (k_fmc C) v).trans hc) (kk N0 ad0 p e R s m args below meth c H locs cells slots lsC ad mc ms C X hl)

theorem k_dup_x1 {v w : Value} (hd : decode M.2.1 pc = .ok (.dup_x1, 1)) (hc : v.category = 1) (hc2 : w.category = 1) (kk : k_V E M dp (pc + 1) ls (v :: w :: v :: st) sh σ k n Q) : k_V E M dp pc ls (v :: w :: st) sh σ k n Q := by
  intro N0 ad0 p e R s m args below meth c H locs cells slots lsC ad mc ms C X hl
  exact lv_dup_x1 C.1 C.2.1 hd ((k_cat (k_fmc C) v).trans hc) ((k_cat (k_fmc C) w).trans hc2) (kk N0 ad0 p e R s m args below meth c H locs cells slots lsC ad mc ms C X hl)

theorem k_istore_n {i : Fin 4} {j : Nat} {x : Int32} {ls' : List (Nat × Value)} (hd : decode M.2.1 pc = .ok (.istore_n i, 1)) (hi : (i : Nat) = j) (hn : j < M.2.2.1) (h1 : k_one ls = true) (h : k_put j (.int x) ls = ls') (kk : k_V E M dp (pc + 1) ls' st sh σ k n Q) : k_V E M dp pc ls (.int x :: st) sh σ k n Q := by
  intro N0 ad0 p e R s m args below meth c H locs cells slots lsC ad mc ms C X hl
  subst h
  exact lv_istore_n C.1 C.2.1 hd hi hl hn rfl (fun ls2 hl2 => kk N0 ad0 p e R s m args below meth c H locs cells slots ls2 ad mc ms C X (k_puts (k_fmc C) h1 rfl hl2))

theorem k_istore {j : Nat} {x : Int32} {ls' : List (Nat × Value)} (hd : decode M.2.1 pc = .ok (.istore j, 2)) (hn : j < M.2.2.1) (h1 : k_one ls = true) (h : k_put j (.int x) ls = ls') (kk : k_V E M dp (pc + 2) ls' st sh σ k n Q) : k_V E M dp pc ls (.int x :: st) sh σ k n Q := by
  intro N0 ad0 p e R s m args below meth c H locs cells slots lsC ad mc ms C X hl
  subst h
  exact lv_istore C.1 C.2.1 hd hl hn rfl (fun ls2 hl2 => kk N0 ad0 p e R s m args below meth c H locs cells slots ls2 ad mc ms C X (k_puts (k_fmc C) h1 rfl hl2))

theorem k_astore_n {i : Fin 4} {j x : Nat} {ls' : List (Nat × Value)} (hd : decode M.2.1 pc = .ok (.astore_n i, 1)) (hi : (i : Nat) = j) (hx : x ≠ 1000001) (hn : j < M.2.2.1) (h1 : k_one ls = true) (h : k_put j (.ref x) ls = ls') (kk : k_V E M dp (pc + 1) ls' st sh σ k n Q) : k_V E M dp pc ls (.ref x :: st) sh σ k n Q := by
  intro N0 ad0 p e R s m args below meth c H locs cells slots lsC ad mc ms C X hl
  subst h
  rw [List.map_cons, k_cv_ref hx]
  exact lv_astore_n C.1 C.2.1 hd hi hl hn rfl (fun ls2 hl2 => kk N0 ad0 p e R s m args below meth c H locs cells slots ls2 ad mc ms C X (k_puts (k_fmc C) h1 (k_cv_ref hx).symm hl2))

theorem k_astore {j x : Nat} {ls' : List (Nat × Value)} (hd : decode M.2.1 pc = .ok (.astore j, 2)) (hx : x ≠ 1000001) (hn : j < M.2.2.1) (h1 : k_one ls = true) (h : k_put j (.ref x) ls = ls') (kk : k_V E M dp (pc + 2) ls' st sh σ k n Q) : k_V E M dp pc ls (.ref x :: st) sh σ k n Q := by
  intro N0 ad0 p e R s m args below meth c H locs cells slots lsC ad mc ms C X hl
  subst h
  rw [List.map_cons, k_cv_ref hx]
  exact lv_astore C.1 C.2.1 hd hl hn rfl (fun ls2 hl2 => kk N0 ad0 p e R s m args below meth c H locs cells slots ls2 ad mc ms C X (k_puts (k_fmc C) h1 (k_cv_ref hx).symm hl2))

theorem k_iinc {j : Nat} {z a : Int} {ls' : List (Nat × Value)} (hd : decode M.2.1 pc = .ok (.iinc j z, 3)) (q : Nat) (hq : ls[q]? = some (j, .int (iI a))) (hn : j < M.2.2.1) (h1 : k_one ls = true) (h : k_put j (.int (iI (a + z))) ls = ls') (kk : k_V E M dp (pc + 3) ls' st sh σ k n Q) : k_V E M dp pc ls st sh σ k n Q := by
  intro N0 ad0 p e R s m args below meth c H locs cells slots lsC ad mc ms C X hl
  subst h
  exact lv_iinc (k := q) (v := iI (a + z)) C.1 C.2.1 hd hl (by simp [k_lc, List.getElem?_map, hq, k_cv]) (iI_add a z) hn rfl (fun ls2 hl2 => kk N0 ad0 p e R s m args below meth c H locs cells slots ls2 ad mc ms C X (k_puts (k_fmc C) h1 rfl hl2))

theorem k_ls {ls' : List (Nat × Value)} (h : ∀ q ∈ ls', q ∈ ls) (kk : k_V E M dp pc ls' st sh σ k n Q) : k_V E M dp pc ls st sh σ k n Q := by
  intro N0 ad0 p e R s m args below meth c H locs cells slots lsC ad mc ms C X hl
  refine kk N0 ad0 p e R s m args below meth c H locs cells slots lsC ad mc ms C X ⟨hl.1, hl.2.1, fun q hq => ?_⟩
  obtain ⟨z, hz, rfl⟩ := List.mem_map.mp hq
  exact hl.2.2 _ (List.mem_map.mpr ⟨z, h z hz, rfl⟩)

theorem k_ret_i {x : Int32} (hd : decode M.2.1 pc = .ok (.ireturn, 1)) (hr : M.2.2.2.1 = some .int) (hQ : Q (.inl (some (.int x))) sh σ) : k_V E M dp pc ls [.int x] sh σ k n Q := by
  intro N0 ad0 p e R s m args below meth c H locs cells slots lsC ad mc ms C X hl
  refine W.widen (Nat.le_trans (Nat.le_add_right _ _) X.2.1) (Nat.le_trans (Nat.le_add_right _ _) X.2.2.1) (vx_ret (W.iret C.1 C.2.1 (C.2.2.1.trans hr) (fun t ht hW => ⟨some (.int x), sh, σ, ad, rfl, hQ, X.1, ht ▸ X.2.2.2.2.2.2, X.2.2.2.2.2.1.F ht⟩) X.2.2.2.2.2.1.2.2 hd C.2.2.2.2.2.2.1))

theorem k_ret_v  (hd : decode M.2.1 pc = .ok (.return_, 1)) (hr : M.2.2.2.1 = none) (hQ : Q (.inl (none)) sh σ) : k_V E M dp pc ls [] sh σ k n Q := by
  intro N0 ad0 p e R s m args below meth c H locs cells slots lsC ad mc ms C X hl
  refine W.widen (Nat.le_trans (Nat.le_add_right _ _) X.2.1) (Nat.le_trans (Nat.le_add_right _ _) X.2.2.1) (vx_ret (W.vret C.1 C.2.1 (C.2.2.1.trans hr) (fun t ht hW => ⟨none, sh, σ, ad, rfl, hQ, X.1, ht ▸ X.2.2.2.2.2.2, X.2.2.2.2.2.1.F ht⟩) X.2.2.2.2.2.1.2.2 hd C.2.2.2.2.2.2.1))

theorem k_ret_z {x : Int32} {ty : FieldType} (hd : decode M.2.1 pc = .ok (.ireturn, 1)) (hr : M.2.2.2.1 = some ty) (hn : narrow ty (.int x) = .int x) (hQ : Q (.inl (some (.int x))) sh σ) : k_V E M dp pc ls [.int x] sh σ k n Q := by
  intro N0 ad0 p e R s m args below meth c H locs cells slots lsC ad mc ms C X hl
  refine W.widen (Nat.le_trans (Nat.le_add_right _ _) X.2.1) (Nat.le_trans (Nat.le_add_right _ _) X.2.2.1) (vx_ret (W.zret C.1 C.2.1 (C.2.2.1.trans hr) hn (fun t ht hW => ⟨some (.int x), sh, σ, ad, rfl, hQ, X.1, ht ▸ X.2.2.2.2.2.2, X.2.2.2.2.2.1.F ht⟩) X.2.2.2.2.2.1.2.2 hd C.2.2.2.2.2.2.1))

theorem k_ret_d {x : UInt64} (hd : decode M.2.1 pc = .ok (.dreturn, 1)) (hr : M.2.2.2.1 = some .double) (hQ : Q (.inl (some (.double x))) sh σ) : k_V E M dp pc ls [.double x] sh σ k n Q := by
  intro N0 ad0 p e R s m args below meth c H locs cells slots lsC ad mc ms C X hl
  refine W.widen (Nat.le_trans (Nat.le_add_right _ _) X.2.1) (Nat.le_trans (Nat.le_add_right _ _) X.2.2.1) (vx_ret (W.dret C.1 C.2.1 (C.2.2.1.trans hr) (fun t ht hW => ⟨some (.double x), sh, σ, ad, rfl, hQ, X.1, ht ▸ X.2.2.2.2.2.2, X.2.2.2.2.2.1.F ht⟩) X.2.2.2.2.2.1.2.2 hd C.2.2.2.2.2.2.1))

theorem k_iaddR {x y v : Int32} (hd : decode M.2.1 pc = .ok (.iadd, 1)) (hv : x + y = v) (kk : k_V E M dp (pc + 1) ls (.int v :: st) sh σ k n Q) : k_V E M dp pc ls (.int y :: .int x :: st) sh σ k n Q := by
  intro N0 ad0 p e R s m args below meth c H locs cells slots lsC ad mc ms C X hl
  subst hv
  exact lv_iadd C.1 C.2.1 hd (kk N0 ad0 p e R s m args below meth c H locs cells slots lsC ad mc ms C X hl)

theorem k_isubR {x y v : Int32} (hd : decode M.2.1 pc = .ok (.isub, 1)) (hv : x - y = v) (kk : k_V E M dp (pc + 1) ls (.int v :: st) sh σ k n Q) : k_V E M dp pc ls (.int y :: .int x :: st) sh σ k n Q := by
  intro N0 ad0 p e R s m args below meth c H locs cells slots lsC ad mc ms C X hl
  subst hv
  exact lv_isub C.1 C.2.1 hd (kk N0 ad0 p e R s m args below meth c H locs cells slots lsC ad mc ms C X hl)

theorem k_imulR {x y v : Int32} (hd : decode M.2.1 pc = .ok (.imul, 1)) (hv : x * y = v) (kk : k_V E M dp (pc + 1) ls (.int v :: st) sh σ k n Q) : k_V E M dp pc ls (.int y :: .int x :: st) sh σ k n Q := by
  intro N0 ad0 p e R s m args below meth c H locs cells slots lsC ad mc ms C X hl
  subst hv
  exact lv_imul C.1 C.2.1 hd (kk N0 ad0 p e R s m args below meth c H locs cells slots lsC ad mc ms C X hl)

theorem k_ldc {idx : Nat} {v : Int32} (hd : decode M.2.1 pc = .ok (.ldc idx, 2)) (hw : Cond.constant M.1.cls idx v ∈ k_TBL) (kk : k_V E M dp (pc + 2) ls (.int v :: st) sh σ k n Q) : k_V E M dp pc ls st sh σ k n Q := by
  intro N0 ad0 p e R s m args below meth c H locs cells slots lsC ad mc ms C X hl
  exact lv_ldc C.1 C.2.1 C.2.2.2.2.1 (C.2.2.2.2.2.1 _ (List.mem_cons_of_mem _ hw)) hd (kk N0 ad0 p e R s m args below meth c H locs cells slots lsC ad mc ms C X hl)

theorem k_null (hd : decode M.2.1 pc = .ok (.aconst_null, 1)) (kk : k_V E M dp (pc + 1) ls (.null :: st) sh σ k n Q) : k_V E M dp pc ls st sh σ k n Q := by
  intro N0 ad0 p e R s m args below meth c H locs cells slots lsC ad mc ms C X hl
  exact lv_null C.1 C.2.1 hd (kk N0 ad0 p e R s m args below meth c H locs cells slots lsC ad mc ms C X hl)

theorem k_ifnull {x : Nat} {off : Int} (hd : decode M.2.1 pc = .ok (.ifnull off, 3)) (hx : x ≠ 1000001) (kk : k_V E M dp (pc + 3) ls st sh σ k n Q) : k_V E M dp pc ls (.ref x :: st) sh σ k n Q := by
  intro N0 ad0 p e R s m args below meth c H locs cells slots lsC ad mc ms C X hl
  rw [List.map_cons, k_cv_ref hx]
  exact lv_ifnull C.1 C.2.1 hd (kk N0 ad0 p e R s m args below meth c H locs cells slots lsC ad mc ms C X hl)

theorem k_ifnullN {off : Int} {tgt : Nat} (hd : decode M.2.1 pc = .ok (.ifnull off, 3)) (ht : (pc : Int) + off = (tgt : Int)) (kk : k_V E M dp tgt ls st sh σ k n Q) : k_V E M dp pc ls (.null :: st) sh σ k n Q := by
  intro N0 ad0 p e R s m args below meth c H locs cells slots lsC ad mc ms C X hl
  exact lv_ifnullN C.1 C.2.1 hd ht (kk N0 ad0 p e R s m args below meth c H locs cells slots lsC ad mc ms C X hl)

theorem k_ifnonnull {x : Nat} {off : Int} {tgt : Nat} (hd : decode M.2.1 pc = .ok (.ifnonnull off, 3)) (hx : x ≠ 1000001) (ht : (pc : Int) + off = (tgt : Int)) (kk : k_V E M dp tgt ls st sh σ k n Q) : k_V E M dp pc ls (.ref x :: st) sh σ k n Q := by
  intro N0 ad0 p e R s m args below meth c H locs cells slots lsC ad mc ms C X hl
  rw [List.map_cons, k_cv_ref hx]
  exact lv_ifnonnull C.1 C.2.1 hd ht (kk N0 ad0 p e R s m args below meth c H locs cells slots lsC ad mc ms C X hl)

theorem k_lrw {q j : Nat} {a a' : Int} {ls' : List (Nat × Value)} (hq : ls[q]? = some (j, .int (iI a))) (e : a = a') (hl : ls.set q (j, .int (iI a')) = ls') (kk : k_V E M dp pc ls' st sh σ k n Q) : k_V E M dp pc ls st sh σ k n Q := by
  subst e
  have : ls.set q (j, .int (iI a)) = ls := by
    apply List.ext_getElem?
    intro i
    rw [List.getElem?_set]
    by_cases h : q = i
    · subst h
      obtain ⟨h1, h2⟩ := List.getElem?_eq_some_iff.mp hq
      simp [h1, h2]
    · rw [if_neg h]
  rw [← hl, this] at kk
  exact kk

end K_B
