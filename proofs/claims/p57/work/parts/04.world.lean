/-! ===== THE WORLD: cells by number, whole numbers in them; the judgement k_V over the kit's W; one rule an instruction ===== -/
section K_A
def iI (z : Int) : Int32 := Int32.ofInt z
def iL (z : Int) : Int64 := Int64.ofInt z
theorem iI_add (a b : Int) : iI a + iI b = iI (a + b) := (Int32.ofInt_add a b).symm
theorem iI_sub (a b : Int) : iI a - iI b = iI (a - b) := (Int32.ofInt_sub a b).symm
theorem iI_mul (a b : Int) : iI a * iI b = iI (a * b) := (Int32.ofInt_mul a b).symm
theorem iI_neg (a : Int) : -iI a = iI (-a) := (Int32.ofInt_neg a).symm
abbrev k_r (z : Int) : Prop := -2147483648 ≤ z ∧ z < 2147483648
theorem iI_toInt {z : Int} (h : k_r z) : (iI z).toInt = z := Int32.toInt_ofInt_of_le (by have := h.1; omega) (by have := h.2; omega)
theorem iI_of (x : Int32) : x = iI x.toInt := (Int32.ofInt_toInt x).symm
theorem k_r_toInt (x : Int32) : k_r x.toInt := ⟨by have := Int32.le_toInt x; omega, by have := Int32.toInt_lt x; omega⟩
theorem iI_lt {a b : Int} (ha : k_r a) (hb : k_r b) : iI a < iI b ↔ a < b := by rw [Int32.lt_iff_toInt_lt, iI_toInt ha, iI_toInt hb]
theorem iI_le {a b : Int} (ha : k_r a) (hb : k_r b) : iI a ≤ iI b ↔ a ≤ b := by rw [Int32.le_iff_toInt_le, iI_toInt ha, iI_toInt hb]
theorem iI_eq {a b : Int} (ha : k_r a) (hb : k_r b) : iI a = iI b ↔ a = b := by rw [← Int32.toInt_inj, iI_toInt ha, iI_toInt hb]
theorem iI_clamp {z : Int} (h : k_r z) : (iI z).toNatClampNeg = z.toNat := congrArg Int.toNat (iI_toInt h)
theorem iI_in {z : Int} {n : Nat} (h : k_r z) (h0 : 0 ≤ z) (h1 : z < n) : vp_in (iI z) n := vp_in_iff.mpr (by rw [iI_toInt h]; exact ⟨h0, h1⟩)
abbrev k_E : Type := Launch × State × va_G × (Nat → ClassId) × (Nat → Nat) × Value × Nat × (Nat → Int32)
abbrev k_l (E : k_E) : Launch := E.1
abbrev k_s0 (E : k_E) : State := E.2.1
abbrev k_D (E : k_E) : va_G := E.2.2.1
abbrev k_dA (E : k_E) : Nat → ClassId := E.2.2.2.1
abbrev k_sp (E : k_E) : Nat → Nat := E.2.2.2.2.1
abbrev k_fm (E : k_E) : Value := E.2.2.2.2.2.1
abbrev k_L (E : k_E) : Nat := E.2.2.2.2.2.2.1
abbrev k_xs (E : k_E) : Nat → Int32 := E.2.2.2.2.2.2.2
abbrev k_A (E : k_E) : Nat → Prop := fun q => (k_s0 E).heap.size ≤ q
abbrev k_M : Type := MethodName × ByteArray × Nat × Option FieldType × List (Nat × Nat × Nat × Nat)
def k_TBL : List Cond := lw_tbl.filter goodWord
def k_code (M : k_M) : Cond := match M.2.2.2.2 with
  | [] => .code M.1 M.2.1 M.2.2.1 M.2.2.2.1
  | h :: t => .codeWith M.1 M.2.1 M.2.2.1 M.2.2.2.1 (h :: t)
def k_ws (M : k_M) : List Cond := k_code M :: k_TBL
abbrev k_cls : List vw_C := [(RJ4, TJ4, 4), (RX0, TX0, 6), (RX1, TX1, 4), (RX2, TX2, 5), (RX3, TX3, 3), (RX4, TX4, 6), (RX5, TX5, 12), (RX6, TX6, 5), (RX7, TX7, 14)]
/-- kinds of arrays: 0 int, 1 char, 2 byte, 3 long, 4 double, 5 plans, 6 texts -/
def k_ty : Nat → FieldType := fun k => match k with
  | 0 => .int
  | 1 => .int
  | 2 => .byte
  | 3 => .int
  | 4 => .int
  | 5 => .object RX5
  | _ => .int
def k_tys (E : k_E) : List (ClassId × FieldType) := (List.range 7).map fun k => (k_dA E k, k_ty k)
theorem k_tys_at (E : k_E) {k : Nat} (h : k < 7) : (k_tys E)[k]? = some (k_dA E k, k_ty k) := by
  simp [k_tys, h]
/-- a cell's shape: an array (kind, length) or an object (its class's place, a code a field: 0 a number, 1 a cell that may change, 2 null, c + 3 the cell c) -/
abbrev k_Sh : Type := (Nat × Nat) ⊕ (Nat × List Nat)
def k_cv (E : k_E) (ad : Nat → Nat) (v : Value) : Value := match v with
  | .ref k => if k = 1000001 then k_fm E else .ref (ad k)
  | v => v
def k_fv (c : Nat) (z : Int) : Value := match c with
  | 0 => .int (iI z)
  | 1 => .ref z.toNat
  | 2 => .null
  | j + 3 => .ref j
def k_arr (ad : Nat → Nat) (kd : Nat) (f : Nat → Int) : (Nat → Int32) ⊕ (Nat → Int64) ⊕ (Nat → UInt32) ⊕ (Nat → UInt64) ⊕ (Nat → Option Nat) := match kd with
  | 3 => .inr (.inl fun j => iL (f j))
  | 4 => .inr (.inr (.inr (.inl fun j => UInt64.ofNat (f j).toNat)))
  | 5 => .inr (.inr (.inr (.inr fun j => if f j = 0 then none else some (ad ((f j).toNat - 1)))))
  | 6 => .inr (.inr (.inr (.inr fun j => if f j = 0 then none else some (ad ((f j).toNat - 1)))))
  | _ => .inl fun j => iI (f j)
def k_conc (E : k_E) (ad : Nat → Nat) (x : k_Sh) (f : Nat → Int) : va_E := match x with
  | .inl (kd, n) => .inl (k_dA E kd, n, k_arr ad kd f)
  | .inr (ci, cs) => .inr (ci, cs.mapIdx fun k c => k_cv E ad (k_fv c (f k)))
def k_cw (E : k_E) (ad : Nat → Nat) (sh : List k_Sh) (σ : Nat → Nat → Int) : va_W := sh.mapIdx fun i x => (ad i, k_conc E ad x (σ i))
def k_up (σ : Nat → Nat → Int) (a : Nat) (f : Nat → Int) : Nat → Nat → Int := fun i => if i = a then f else σ i
def k_u1 (f : Nat → Int) (k : Nat) (v : Int) : Nat → Int := fun j => if j = k then v else f j
theorem k_cw_get {E : k_E} {ad : Nat → Nat} {sh : List k_Sh} {σ : Nat → Nat → Int} {a : Nat} {x : k_Sh} (h : sh[a]? = some x) : (k_cw E ad sh σ)[a]? = some (ad a, k_conc E ad x (σ a)) := by
  simp [k_cw, List.getElem?_mapIdx, h]
theorem k_up_same {σ : Nat → Nat → Int} {a : Nat} {f : Nat → Int} : k_up σ a f a = f := if_pos rfl
theorem k_up_ne {σ : Nat → Nat → Int} {a i : Nat} {f : Nat → Int} (h : i ≠ a) : k_up σ a f i = σ i := if_neg h
theorem k_cw_set {E : k_E} {ad : Nat → Nat} {sh : List k_Sh} {σ : Nat → Nat → Int} {a : Nat} {x : k_Sh} {f : Nat → Int} : (k_cw E ad sh σ).set a (ad a, k_conc E ad x f) = k_cw E ad (sh.set a x) (k_up σ a f) := by
  apply List.ext_getElem?
  intro i
  simp only [k_cw, List.getElem?_set, List.getElem?_mapIdx, List.length_mapIdx]
  by_cases h : a = i
  · subst h
    by_cases h2 : a < sh.length
    · simp [h2, k_up_same]
    · simp [h2]
  · rw [if_neg h, if_neg h, k_up_ne (Ne.symm h)]
theorem k_set_self {sh : List k_Sh} {a : Nat} {x : k_Sh} (h : sh[a]? = some x) : sh.set a x = sh := by
  apply List.ext_getElem?
  intro i
  rw [List.getElem?_set]
  by_cases e : a = i
  · subst e
    obtain ⟨h1, h2⟩ := List.getElem?_eq_some_iff.mp h
    simp [h1, h2]
  · rw [if_neg e]
theorem k_cw_set1 {E : k_E} {ad : Nat → Nat} {sh : List k_Sh} {σ : Nat → Nat → Int} {a : Nat} {x : k_Sh} {f : Nat → Int} (h : sh[a]? = some x) : (k_cw E ad sh σ).set a (ad a, k_conc E ad x f) = k_cw E ad sh (k_up σ a f) := by
  rw [k_cw_set, k_set_self h]
/-- which refs a value holds -/
def k_okv (N : Nat) (v : Value) : Prop := match v with
  | .ref k => k < N ∨ 1000000 ≤ k
  | _ => True
def k_okc (N : Nat) (x : k_Sh) (f : Nat → Int) : Prop := match x with
  | .inl (5, _) => ∀ j, f j = 0 ∨ k_okv N (.ref ((f j).toNat - 1))
  | .inl (6, _) => ∀ j, f j = 0 ∨ k_okv N (.ref ((f j).toNat - 1))
  | .inl _ => True
  | .inr (_, cs) => ∀ (k c : Nat), cs[k]? = some c → k_okv N (k_fv c (f k))
def k_ok (sh : List k_Sh) (σ : Nat → Nat → Int) : Prop := ∀ (i : Nat) (x : k_Sh), sh[i]? = some x → k_okc sh.length x (σ i)
theorem k_ne {k N : Nat} (hN : N < 1000000) (h : k < N ∨ 1000000 ≤ k) : ¬ k = N := by omega
theorem k_cv_up {E : k_E} {ad : Nat → Nat} {N q : Nat} {v : Value} (hN : N < 1000000) (h : k_okv N v) : k_cv E (va_up ad N q) v = k_cv E ad v := by
  cases v with
  | ref k =>
    have h : k < N ∨ 1000000 ≤ k := h
    show (if k = 1000001 then k_fm E else .ref (va_up ad N q k)) = (if k = 1000001 then k_fm E else .ref (ad k))
    have : va_up ad N q k = ad k := if_neg (k_ne hN h)
    rw [this]
  | _ => rfl
theorem k_conc_up {E : k_E} {ad : Nat → Nat} {N q : Nat} {x : k_Sh} {f : Nat → Int} (hN : N < 1000000) (h : k_okc N x f) : k_conc E (va_up ad N q) x f = k_conc E ad x f := by
  match x, h with
  | .inr (ci, cs), h =>
    show (Sum.inr (ci, _) : va_E) = Sum.inr (ci, _)
    congr 2
    apply List.ext_getElem?
    intro i
    rw [List.getElem?_mapIdx, List.getElem?_mapIdx]
    cases hc : cs[i]? with
    | none => rfl
    | some c => exact congrArg some (k_cv_up hN (h i c hc))
  | .inl (kd, n), h =>
    show (Sum.inl (k_dA E kd, n, _) : va_E) = Sum.inl (k_dA E kd, n, _)
    have aux : (∀ j, f j = 0 ∨ k_okv N (.ref ((f j).toNat - 1))) → (fun j => if f j = 0 then none else some (va_up ad N q ((f j).toNat - 1))) = (fun j => if f j = 0 then none else some (ad ((f j).toNat - 1))) := by
      intro h
      funext j
      by_cases e : f j = 0
      · rw [if_pos e, if_pos e]
      · have h2 : (f j).toNat - 1 < N ∨ 1000000 ≤ (f j).toNat - 1 := (h j).resolve_left e
        rw [if_neg e, if_neg e]
        have h3 : va_up ad N q ((f j).toNat - 1) = ad ((f j).toNat - 1) := if_neg (show ¬ (f j).toNat - 1 = N by omega)
        rw [h3]
    have : k_arr (va_up ad N q) kd f = k_arr ad kd f := by
      unfold k_arr
      split
      · rfl
      · rfl
      · rw [aux h]
      · rw [aux h]
      · rfl
    rw [this]
theorem k_cw_push {E : k_E} {ad : Nat → Nat} {sh : List k_Sh} {σ : Nat → Nat → Int} {q : Nat} {x : k_Sh} {f : Nat → Int} (hN : sh.length < 1000000) (h : k_ok sh σ) : k_cw E ad sh σ ++ [(q, k_conc E (va_up ad sh.length q) x f)] = k_cw E (va_up ad sh.length q) (sh ++ [x]) (k_up σ sh.length f) := by
  unfold k_cw
  rw [List.mapIdx_concat]
  congr 1
  · apply List.ext_getElem?
    intro i
    rw [List.getElem?_mapIdx, List.getElem?_mapIdx]
    cases hx : sh[i]? with
    | none => rfl
    | some y =>
      have hi : i < sh.length := (List.getElem?_eq_some_iff.mp hx).1
      have e1 : va_up ad sh.length q i = ad i := if_neg (show ¬ i = sh.length by omega)
      show some (ad i, k_conc E ad y (σ i)) = some (va_up ad sh.length q i, k_conc E (va_up ad sh.length q) y (k_up σ sh.length f i))
      rw [e1, k_up_ne (by omega), k_conc_up hN (h i y hx)]
  · rw [k_up_same]
    have : va_up ad sh.length q sh.length = q := by
      unfold va_up
      rw [if_pos rfl]
    rw [this]
def k_Hp (E : k_E) (ad : Nat → Nat) (sh : List k_Sh) (σ : Nat → Nat → Int) (H : Heap) : Prop := va_P (k_D E) k_cls (k_cw E ad sh σ) H ∧ va_D (k_A E) (k_cw E ad sh σ) ∧ ∀ j, 1000000 ≤ j → ad j = k_sp E j
/-- words that a way of their own keeps: links of nest mates, casts -/
def k_nw : Cond → Bool
  | .fieldLinkNest .. => true
  | .methodLinkNest .. => true
  | .castable .. => true
  | .declares _ => true
  | .arrayOver (.object _) => true
  | _ => false
def k_NW : List Cond := lw_tbl.filter k_nw
def k_exs : List String := ["java/lang/IndexOutOfBoundsException", "java/lang/IllegalArgumentException", "java/lang/IllegalStateException", "java/lang/UnsupportedOperationException", "java/util/NoSuchElementException"]
/-- the texts that are read: whose, at which entry, what, its bytes -/
def k_strs : List (String × Nat × String × List Int32) := []
/-- private methods of AbstractStringBuilder, called on a StringBuilder -/
def k_privs : List MethodName := []
/-- what the start gives of texts and of statics: COMPACT_STRINGS, the formatter, the digits -/
def k_Ok3 (E : k_E) : Prop := va_Z "java/lang/String" "COMPACT_STRINGS" "Z" (.int 1) (k_A E) (k_s0 E) (k_s0 E).heap ∧ True
/-- what the law's start gives, second part -/
def k_Ok2 (E : k_E) : Prop := (∀ own k tx, Cond.stringRef own k tx ∈ lw_tbl → ∃ a, vk_R own k tx a (k_s0 E)) ∧ (∀ w ∈ k_NW, va_Nw w (k_s0 E)) ∧ (∀ X ∈ k_exs, ∀ Y ∈ k_exs, X ≠ Y → va_Nc X Y (k_s0 E)) ∧ k_Ok3 E
/-- what the law's start gives -/
def k_Ok (E : k_E) : Prop := va_K (k_D E) k_cls (k_tys E) (k_s0 E) ∧ (k_l E).stackTraces = false ∧ vx_Zq Bundle.tN "UNASSIGNED_STACK" Bundle.steD (k_A E) (k_s0 E) (k_s0 E).heap ∧ vx_Zq Bundle.tN "SUPPRESSED_SENTINEL" Bundle.listD (k_A E) (k_s0 E) (k_s0 E).heap ∧
  va_X (k_sp E 1000000) (k_L E) (k_xs E) (k_s0 E) (k_s0 E).heap ∧ k_sp E 1000000 < (k_s0 E).heap.size ∧ (k_fm E).category = 1 ∧ k_Ok2 E
def k_At (E : k_E) (U : State) : Prop := (k_s0 E).WarmedH U.vm ∧ (k_s0 E).heap.size ≤ U.heap.size ∧ (∀ q, q < (k_s0 E).heap.size → U.heap[q]? = (k_s0 E).heap[q]?) ∧ k_Ok E
abbrev k_Q : Type := Option Value ⊕ String → List k_Sh → (Nat → Nat → Int) → Prop
def k_Ext (ad ad' : Nat → Nat) (N N' : Nat) : Prop := N ≤ N' ∧ ∀ i, i < N ∨ N' ≤ i → ad' i = ad i
def k_Pc (E : k_E) (ad : Nat → Nat) (as : List Value) (sh : List k_Sh) (σ : Nat → Nat → Int) : Array Value → State → Prop := fun v U => v = (as.map (k_cv E ad)).toArray ∧ k_At E U ∧ k_Hp E ad sh σ U.heap
def k_Qc (E : k_E) (ad : Nat → Nat) (N : Nat) (Q : k_Q) : Array Value → State → Outcome → State → Prop := fun _ st o t => ∃ v sh σ ad', o = .returned (v.map (k_cv E ad')) ∧ Q (.inl v) sh σ ∧ k_Ext ad ad' N sh.length ∧ k_Hp E ad' sh σ t.heap ∧ va_F (k_A E) st t
def k_XC (E : k_E) (ad : Nat → Nat) (N : Nat) (Q : k_Q) : String → State → State → Prop := fun X st t => ∃ sh σ ad', Q (.inr X) sh σ ∧ k_Ext ad ad' N sh.length ∧ k_Hp E ad' sh σ t.heap ∧ va_F (k_A E) st t
def k_rm (dp k n : Nat) : Room := { frames := dp, cells := k, slots := n, locals := 64 * dp }
/-- a method's contract over the world -/
def k_C (E : k_E) (M : k_M) (dp : Nat) (as : List Value) (sh : List k_Sh) (σ : Nat → Nat → Int) (k n : Nat) (Q : k_Q) : Prop := ∀ ad, vx_Met (k_l E) M.1 (k_ws M) (k_rm dp k n) (k_Pc E ad as sh σ) (k_Qc E ad sh.length Q) (k_XC E ad sh.length Q) k n (k_A E)
def k_Ctx (E : k_E) (M : k_M) (dp : Nat) (p : Program) (R : Room) (s : State) (m : MethodId) (args : Array Value) (meth : Method) (c : Code) : Prop :=
  p.tables.exec = Jvm.exec ∧ c.code = M.2.1 ∧ meth.sig.returnType = M.2.2.2.1 ∧ c.maxLocals = M.2.2.1 ∧ s.vm.findClass M.1.cls = some m.cls ∧ (∀ w ∈ k_ws M, w.before args s = true) ∧ meth.locks = false ∧ c.exceptionTable.toList = tableOf M.2.2.2.2 ∧ meth.name = M.1.name ∧ k_At E s ∧ dp ≤ R.frames ∧ 64 * dp ≤ R.locals
def k_In (E : k_E) (N0 : Nat) (ad0 ad : Nat → Nat) (sh : List k_Sh) (σ : Nat → Nat → Int) (R : Room) (s : State) (H : Heap) (locs : List Loc) (cells slots k n mc ms : Nat) : Prop :=
  k_Ext ad0 ad N0 sh.length ∧ cells + k ≤ mc ∧ slots + n ≤ ms ∧ mc ≤ R.cells ∧ ms ≤ R.slots ∧ va_S (k_A E) s.heap H locs ∧ k_Hp E ad sh σ H
def k_lc (E : k_E) (ad : Nat → Nat) (ls : List (Nat × Value)) : List (Nat × Value) := ls.map fun q => (q.1, k_cv E ad q.2)
/-- the judgement: from here the method M comes to its end with Q -/
def k_V (E : k_E) (M : k_M) (dp pc : Nat) (ls : List (Nat × Value)) (st : List Value) (sh : List k_Sh) (σ : Nat → Nat → Int) (k n : Nat) (Q : k_Q) : Prop :=
  ∀ (N0 : Nat) (ad0 : Nat → Nat) (p : Program) (e : Env) (R : Room) (s : State) (m : MethodId) (args : Array Value) (below : List Frame) (meth : Method) (c : Code) (H : Heap) (locs : List Loc) (cells slots : Nat) (lsC : Array Slot) (ad : Nat → Nat) (mc ms : Nat),
    k_Ctx E M dp p R s m args meth c → k_In E N0 ad0 ad sh σ R s H locs cells slots k n mc ms → lv_has lsC M.2.2.1 (k_lc E ad ls) →
    W p (k_l E) e R s m args below meth c H locs cells slots (vx_MQ below (k_Qc E ad0 N0 Q) (k_XC E ad0 N0 Q) args s mc ms (k_A E)) (F0 m pc lsC (st.map (k_cv E ad)))
end K_A
