/-! ===== RULES OF CALLS: a contract out of the judgement, the judgement behind a call; what is thrown and caught ===== -/
section K_F
variable {E : k_E} {M : k_M} {dp pc k n : Nat} {ls : List (Nat × Value)} {st : List Value} {sh : List k_Sh} {σ : Nat → Nat → Int} {Q : k_Q}
def k_lv : Nat → List Value → List (Nat × Value)
  | _, [] => []
  | i, v :: vs => (i, v) :: k_lv (i + 1) vs
theorem k_lv_args {ad : Nat → Nat} (hf : (k_fm E).category = 1) : ∀ (as : List Value) (i : Nat), (∀ v ∈ as, v.category = 1) → lv_args i (as.map (k_cv E ad)) = k_lc E ad (k_lv i as)
  | [], _, _ => rfl
  | v :: vs, i, h => by
    have hc : (k_cv E ad v).category = 1 := (k_cat hf v).trans (h v List.mem_cons_self)
    show (i, k_cv E ad v) :: lv_args (if (k_cv E ad v).category = 2 then i + 2 else i + 1) (vs.map (k_cv E ad)) = (i, k_cv E ad v) :: k_lc E ad (k_lv (i + 1) vs)
    rw [if_neg (by rw [hc]; decide), k_lv_args hf vs (i + 1) (fun w hw => h w (List.mem_cons_of_mem _ hw))]
theorem k_sl_len : ∀ (vs : List Value), (∀ v ∈ vs, v.category = 1) → (lg_sl vs).length = vs.length
  | [], _ => rfl
  | v :: vs, h => by
    have hc := h v List.mem_cons_self
    have ih := k_sl_len vs (fun w hw => h w (List.mem_cons_of_mem _ hw))
    unfold lg_sl at ih ⊢
    rw [List.flatMap_cons, List.length_append, ih, hc]
    simp
    omega
theorem k_code_nil (h : M.2.2.2.2 = []) : k_code M = .code M.1 M.2.1 M.2.2.1 M.2.2.2.1 := by unfold k_code; rw [h]
theorem k_code_cons {a : Nat × Nat × Nat × Nat} {t : List (Nat × Nat × Nat × Nat)} (h : M.2.2.2.2 = a :: t) : k_code M = .codeWith M.1 M.2.1 M.2.2.1 M.2.2.2.1 (a :: t) := by unfold k_code; rw [h]
/-- the contract out of the judgement at the method's start -/
theorem k_C_of {as : List Value} {ls0 : List (Nat × Value)} (hh : M.2.2.2.2 = []) (hy : plainName M.1.cls = true) (hcat : ∀ v ∈ as, v.category = 1) (hn : as.length ≤ M.2.2.1) (hls : k_lv 0 as = ls0) (kk : k_V E M dp 0 ls0 [] sh σ k n Q) : k_C E M dp as sh σ k n Q := by
  intro ad
  refine vx_ofW (cc := M.2.1) (maxL := M.2.2.1) (ret := M.2.2.2.1) hy (by rw [k_ws, k_code_nil hh]) ?_
  intro p e s m args below meth c s₁ B hml ht hv
  obtain ⟨rfl, hat, hP, hD, hsp⟩ := hv
  have hf : (k_fm E).category = 1 := hat.2.2.2.2.2.2.2.2.2.1
  have hcm : ∀ v ∈ as.map (k_cv E ad), v.category = 1 := fun v hv => by
    obtain ⟨w, hw, rfl⟩ := List.mem_map.mp hv
    exact (k_cat hf w).trans (hcat w hw)
  have hl := lv_entry (as.map (k_cv E ad)) (n := M.2.2.1) (by rw [k_sl_len _ hcm, List.length_map]; exact hn)
  rw [k_lv_args hf as 0 hcat, hls] at hl
  rw [lg_entry_eq]
  refine kk sh.length ad p e _ s m _ below meth c s.heap [] 0 0 _ ad k n ⟨B.exec, B.bytes, B.returns, hml, findClass_of_methodNamed B.named, atoms_spec (ws := k_ws M) B.pre, B.notSynchronized, ?_, (name_of_methodNamed B.named B.method).1, hat, Nat.le_refl _, Nat.le_refl _⟩ ⟨⟨Nat.le_refl _, fun _ _ => rfl⟩, by omega, by omega, Nat.le_refl _, Nat.le_refl _, va_S.rf, hP, hD, hsp⟩ hl
  rw [hh]
  exact List.eq_nil_iff_forall_not_mem.mpr fun x hx => ht x hx
theorem k_C_ofW {as : List Value} {ls0 : List (Nat × Value)} {a0 : Nat × Nat × Nat × Nat} {t0 : List (Nat × Nat × Nat × Nat)} (hh : M.2.2.2.2 = a0 :: t0) (hy : plainName M.1.cls = true) (hcat : ∀ v ∈ as, v.category = 1) (hn : as.length ≤ M.2.2.1) (hls : k_lv 0 as = ls0) (kk : k_V E M dp 0 ls0 [] sh σ k n Q) : k_C E M dp as sh σ k n Q := by
  intro ad
  refine vx_ofWH (cc := M.2.1) (maxL := M.2.2.1) (ret := M.2.2.2.1) (hh := M.2.2.2.2) hy (by rw [k_ws, k_code_cons hh, hh]) ?_
  intro p e s m args below meth c s₁ B hml hv
  obtain ⟨rfl, hat, hP, hD, hsp⟩ := hv
  have hf : (k_fm E).category = 1 := hat.2.2.2.2.2.2.2.2.2.1
  have hcm : ∀ v ∈ as.map (k_cv E ad), v.category = 1 := fun v hv => by
    obtain ⟨w, hw, rfl⟩ := List.mem_map.mp hv
    exact (k_cat hf w).trans (hcat w hw)
  have hl := lv_entry (as.map (k_cv E ad)) (n := M.2.2.1) (by rw [k_sl_len _ hcm, List.length_map]; exact hn)
  rw [k_lv_args hf as 0 hcat, hls] at hl
  rw [lg_entry_eq]
  have hws := atoms_spec (ws := k_ws M) B.pre
  refine kk sh.length ad p e _ s m _ below meth c s.heap [] 0 0 _ ad k n ⟨B.exec, B.bytes, B.returns, hml, findClass_of_methodNamed B.named, hws, B.notSynchronized, ?_, (name_of_methodNamed B.named B.method).1, hat, Nat.le_refl _, Nat.le_refl _⟩ ⟨⟨Nat.le_refl _, fun _ _ => rfl⟩, by omega, by omega, Nat.le_refl _, Nat.le_refl _, va_S.rf, hP, hD, hsp⟩ hl
  have h1 := hws (k_code M) List.mem_cons_self
  rw [k_code_cons hh] at h1
  rw [hh]
  exact vx_table (x := M.1) B h1
theorem k_met {as : List Value} (h : k_C E M dp as sh σ k n Q) (hno : ∀ X sh' σ', ¬ Q (.inr X) sh' σ') (ad : Nat → Nat) : Met (k_l E) M.1 (k_ws M) (k_rm dp k n) (k_Pc E ad as sh σ) (k_Qc E ad sh.length Q) k n (k_A E) :=
  MetFree.mono (h ad) (fun _ _ h => h) (fun _ _ _ _ _ h => h) (fun a s o t _ hq => by
    rcases hq with hq | ⟨q, _, X, ce, L, ⟨sh', σ', ad', h2, _⟩, _⟩
    · exact hq
    · exact absurd h2 (hno _ _ _))
/-- X thrown over the frame at pc -/
def k_VX (E : k_E) (M : k_M) (dp pc : Nat) (ls : List (Nat × Value)) (X : String) (sh : List k_Sh) (σ : Nat → Nat → Int) (k n : Nat) (Q : k_Q) : Prop :=
  ∀ (N0 : Nat) (ad0 : Nat → Nat) (p : Program) (e : Env) (R : Room) (s : State) (m : MethodId) (args : Array Value) (below : List Frame) (meth : Method) (c : Code) (H : Heap) (locs : List Loc) (cells slots : Nat) (lsC : Array Slot) (ad : Nat → Nat) (mc ms : Nat) (q9 : Addr) (ce : Cell) (rest : List Value),
    k_Ctx E M dp p R s m args meth c → k_In E N0 ad0 ad sh σ R s H locs cells slots k n mc ms → lv_has lsC M.2.2.1 (k_lc E ad ls) → H[q9]? = some ce → ce.vm = .none → s.vm.findClass X = some ce.cls →
    vx_W p (k_l E) e R s m args below meth c H locs cells slots (vx_MQ below (k_Qc E ad0 N0 Q) (k_XC E ad0 N0 Q) args s mc ms (k_A E)) (F0 m pc lsC rest) q9
def k_okl (N : Nat) (ls : List (Nat × Value)) (st : List Value) : Prop := (∀ z ∈ ls, k_okv N z.2) ∧ ∀ v ∈ st, k_okv N v
theorem k_okl_up {ad ad' : Nat → Nat} {N N' : Nat} (h : k_Ext ad ad' N N') (hs : ∀ j, 1000000 ≤ j → ad j = k_sp E j) (hs' : ∀ j, 1000000 ≤ j → ad' j = k_sp E j) {v : Value} (hv : k_okv N v) : k_cv E ad' v = k_cv E ad v := by
  cases v with
  | ref j =>
    have hv : j < N ∨ 1000000 ≤ j := hv
    show (if j = 1000001 then k_fm E else .ref (ad' j)) = (if j = 1000001 then k_fm E else .ref (ad j))
    have : ad' j = ad j := by
      rcases hv with hv | hv
      · exact h.2 j (Or.inl hv)
      · rw [hs' j hv, hs j hv]
    rw [this]
  | _ => rfl
theorem k_run {p : Program} {e : Env} {R : Room} {s : State} {m : MethodId} {args a1 : Array Value} {below : List Frame} {meth : Method} {c : Code} {H : Heap} {locs : List Loc} {cells slots N0 k1 n1 mc ms : Nat} {lsC : Array Slot} {ad ad0 : Nat → Nat} {stC : List Value} {Q1 : k_Q}
    (C : k_Ctx E M dp p R s m args meth c) (X : k_In E N0 ad0 ad sh σ R s H locs cells slots (k1 + k) (n1 + n) mc ms) (hl : lv_has lsC M.2.2.1 (k_lc E ad ls))
    (hr : vx_Run p (k_l E) e R s m args below meth c H locs cells slots k1 n1 (F0 m pc lsC stC) (st.map (k_cv E ad)) (k_Qc E ad sh.length Q1 a1) (k_XC E ad sh.length Q1) (k_A E))
    (hok : k_okl sh.length ls st ∨ ∀ r sh' σ', Q1 r sh' σ' → sh'.length = sh.length)
    (kx : ∀ Xn sh' σ', Q1 (.inr Xn) sh' σ' → k_VX E M dp pc ls Xn sh' σ' k n Q)
    (kk : ∀ v sh' σ', Q1 (.inl v) sh' σ' → k_V E M dp (pc + 3) ls (v.toList ++ st) sh' σ' k n Q) :
    W p (k_l E) e R s m args below meth c H locs cells slots (vx_MQ below (k_Qc E ad0 N0 Q) (k_XC E ad0 N0 Q) args s mc ms (k_A E)) (F0 m pc lsC stC) := by
  obtain ⟨x1, x2, x3, x4, x5, hS, hP, hD, hsp⟩ := X
  have hAA : ∀ q, q < H.size → k_A E q → k_A E q := fun _ _ h => h
  have hlsu : ∀ ad' sh' r σ', k_Ext ad ad' sh.length sh'.length → (∀ j, 1000000 ≤ j → ad' j = k_sp E j) → Q1 r sh' σ' → k_lc E ad' ls = k_lc E ad ls ∧ st.map (k_cv E ad') = st.map (k_cv E ad) := by
    intro ad' sh' r σ' hx hs' hq
    rcases hok with hok | hok
    · exact ⟨List.map_congr_left fun z hz => by rw [k_okl_up hx hsp hs' (hok.1 z hz)], List.map_congr_left fun v hv => k_okl_up hx hsp hs' (hok.2 v hv)⟩
    · have he : ad' = ad := funext fun i => hx.2 i (by have := hok _ _ _ hq; omega)
      rw [he]
      exact ⟨rfl, rfl⟩
  have hext : ∀ (ad' : Nat → Nat) (N' : Nat), k_Ext ad ad' sh.length N' → k_Ext ad0 ad' N0 N' := fun ad' N' h => ⟨Nat.le_trans x1.1 h.1, fun i hi => (h.2 i (by have := x1.1; have := h.1; omega)).trans (x1.2 i (by have := h.1; omega))⟩
  intro T hT Y
  rcases hr T hT Y with ⟨v, st₀, t, T', L, h0, Y', hL, e1, e2, ⟨v', sh', σ', ad', hv, hq, hx, ⟨hP', hD', hsp'⟩, hF⟩, stp⟩ | ⟨q, st₀, t, T', L, Xn, ce, h0, Y', hL, e1, e2, ⟨sh', σ', ad', hq, hx, ⟨hP', hD', hsp'⟩, hF⟩, hce, hcv, hcl, stp⟩
  · cases hv
    obtain ⟨k1', k2', k3'⟩ := vx_keep h0 e1 hS hAA (fun _ h => h) hL hF
    obtain ⟨u1, u2⟩ := hlsu ad' sh' _ σ' hx hsp' hq
    rw [← e1] at hP'
    obtain ⟨t2, a1, b1⟩ := kk v' sh' σ' hq N0 ad0 p e R s m args below meth c T'.heap (locs ++ L) (cells + k1) (slots + n1) lsC ad' mc ms C ⟨hext ad' _ hx, by omega, by omega, x4, x5, k3', hP', hD', hsp'⟩ (by rw [u1]; exact hl) T' rfl Y'
    refine ⟨t2, stp t2 ?_, b1⟩
    have hst : (v'.toList ++ st).map (k_cv E ad') = (v'.map (k_cv E ad')).toList ++ st.map (k_cv E ad) := by
      rw [List.map_append, u2]
      cases v' <;> rfl
    rw [hst] at a1
    exact a1
  · obtain ⟨k1', k2', k3'⟩ := vx_keep h0 e1 hS hAA (fun _ h => h) hL hF
    obtain ⟨u1, u2⟩ := hlsu ad' sh' _ σ' hx hsp' hq
    rw [← e1] at hP' hce
    obtain ⟨t2, a1, b1⟩ := kx Xn sh' σ' hq N0 ad0 p e R s m args below meth c T'.heap (locs ++ L) (cells + k1) (slots + n1) lsC ad' mc ms q ce (st.map (k_cv E ad)) C ⟨hext ad' _ hx, by omega, by omega, x4, x5, k3', hP', hD', hsp'⟩ (by rw [u1]; exact hl) hce hcv hcl T' rfl Y'
    exact ⟨t2, stp.trans a1, b1⟩
end K_F
