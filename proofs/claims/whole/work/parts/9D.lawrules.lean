/-! ===== RULES that the law's own body wants ===== -/
section K_LW
variable {E : k_E} {M M1 : k_M} {dp d1 pc k n k1 n1 na : Nat} {ls : List (Nat × Value)} {st as : List Value} {sh : List k_Sh} {σ : Nat → Nat → Int} {Q Q1 : k_Q}
/-- invokestatic of a method with handlers, which lets nothing through -/
theorem k_callSW {idx : Nat} {h1 : Nat × Nat × Nat × Nat} {t1 : List (Nat × Nat × Nat × Nat)} (hd : decode M.2.1 pc = .ok (.invokestatic idx, 3)) (hM : k_MOk M1 na) (hh : M1.2.2.2.2 = h1 :: t1) (hl : Cond.methodLink M.1.cls idx M1.1 ∈ k_TBL) (hs : Cond.static M1.1 ∈ k_TBL) (hdp : d1 + 1 ≤ dp) (hn : as.length = na) (hcat : (st.map fun v => v.category).sum ≤ 8)
    (hC : k_C E M1 d1 as sh σ k1 n1 Q1) (hno : ∀ X sh' σ', ¬ Q1 (.inr X) sh' σ') (hok : k_okl sh.length ls st ∨ ∀ r sh' σ', Q1 r sh' σ' → sh'.length = sh.length)
    (kk : ∀ v sh' σ', Q1 (.inl v) sh' σ' → k_V E M dp (pc + 3) ls (v.toList ++ st) sh' σ' k n Q) : k_V E M dp pc ls (as.reverse ++ st) sh σ (k1 + k) (n1 + n) Q := by
  intro N0 ad0 p e R s m args below meth c H locs cells slots lsC ad mc ms C X hl0
  rw [k_revmap]
  have hc := k_code_cons hh
  have h1 := hM.1
  rw [hc] at h1
  have d2 := C.2.2.2.2.2.2.2.2.2.2.1
  have d3 := C.2.2.2.2.2.2.2.2.2.2.2
  have d4 := hM.2.2.1
  have cw : vx_CSW R s args M.1.cls idx M1.1 M1.2.1 M1.2.2.1 M1.2.2.2.1 (_ :: t1) (k_ws M1) (k_rm d1 k1 n1) k1 n1 na := ⟨⟨rfl, rfl, by show d1 + 1 ≤ R.frames; omega, by show 8 + (M1.2.2.1 + 11) + 64 * d1 ≤ R.locals; omega, k_pay C hM.1, by rw [k_ws, hc]; exact List.mem_cons_self⟩, C.2.2.2.2.2.1 _ (k_cws h1), C.2.2.2.2.2.1 _ (k_cws hM.2.1), hM.2.2.2.1, k_lens hM.2.2.2.2, C.2.2.2.2.2.1 _ (k_cws hl), C.2.2.2.2.2.1 _ (k_cws hs)⟩
  have hr := vx_runSW (As := as.map (k_cv E ad)) (rest := st.map (k_cv E ad)) (l := k_l E) (e := e) (below := below) (meth := meth) (H := H) (locs := locs) (cells := cells) (slots := slots) (g := F0 m pc lsC ((as.map (k_cv E ad)).reverse ++ st.map (k_cv E ad))) (k_fix C) (k_met hC hno ad) cw ⟨k_blind, k_pre C X⟩ rfl (by rw [List.length_map]; exact hn) hl0.1 rfl (k_room (k_fmc C) hcat) hd ⟨by have := X.2.1; have := X.2.2.2.1; omega, by have := X.2.2.1; have := X.2.2.2.2.1; omega⟩
  exact k_run C X hl0 (fun T hT Y => Or.inl (hr T hT Y)) hok (fun Xn sh' σ' h => absurd h (hno _ _ _)) kk
theorem k_scr {N0 : Nat} {ad0 ad : Nat → Nat} {p : Program} {R : Room} {s : State} {m : MethodId} {args : Array Value} {meth : Method} {c : Code} {H : Heap} {locs : List Loc} {cells slots mc ms : Nat} (C : k_Ctx E M dp p R s m args meth c) (X : k_In E N0 ad0 ad sh σ R s H locs cells slots k n mc ms) : ad 1000000 = k_sp E 1000000 ∧ va_X (k_sp E 1000000) (k_L E) (k_xs E) s s.heap ∧ k_sp E 1000000 < s.heap.size ∧ ¬ k_A E (k_sp E 1000000) := by
  obtain ⟨hW, hz, hh, hO⟩ := C.2.2.2.2.2.2.2.2.2.1
  have h1 := hO.2.2.2.2.1
  have h2 := hO.2.2.2.2.2.1
  exact ⟨X.2.2.2.2.2.2.2.2 1000000 (Nat.le_refl _), (va_X.moved hW.alike h1).kept (hh _ h2), Nat.lt_of_lt_of_le h2 hz, Nat.not_le.mpr h2⟩
/-- a number of the script -/
theorem k_sld {i : Int} (hd : decode M.2.1 pc = .ok (.iaload, 1)) (h0 : 0 ≤ i) (h1 : i < k_L E) (hL : k_L E ≤ 2048) (kk : k_V E M dp (pc + 1) ls (.int (iI (k_xs E i.toNat).toInt) :: st) sh σ k n Q) : k_V E M dp pc ls (.int (iI i) :: .ref 1000000 :: st) sh σ k n Q := by
  intro N0 ad0 p e R s m args below meth c H locs cells slots lsC ad mc ms C X hl
  obtain ⟨e1, hX, hb, hA⟩ := k_scr C X
  have hr : k_r i := k_r_in h0 h1 (by omega)
  rw [List.map_cons, List.map_cons, k_cv_ref (by decide), e1]
  have h := kk N0 ad0 p e R s m args below meth c H locs cells slots lsC ad mc ms C X hl
  rw [← iI_of] at h
  rw [← iI_clamp hr] at h
  exact va_sld C.1 C.2.1 hX hb hA X.2.2.2.2.2.1 (iI_in hr h0 h1) hd h
theorem k_slen (hd : decode M.2.1 pc = .ok (.arraylength, 1)) (kk : k_V E M dp (pc + 1) ls (.int (iI (k_L E : Int)) :: st) sh σ k n Q) : k_V E M dp pc ls (.ref 1000000 :: st) sh σ k n Q := by
  intro N0 ad0 p e R s m args below meth c H locs cells slots lsC ad mc ms C X hl
  obtain ⟨e1, hX, hb, hA⟩ := k_scr C X
  rw [List.map_cons, k_cv_ref (by decide), e1]
  exact va_slen C.1 C.2.1 hX hb hA X.2.2.2.2.2.1 hd (kk N0 ad0 p e R s m args below meth c H locs cells slots lsC ad mc ms C X hl)
theorem k_dload {j : Nat} {x : UInt64} (hd : decode M.2.1 pc = .ok (.dload j, 2)) (q : Nat) (h : ls[q]? = some (j, .double x)) (kk : k_V E M dp (pc + 2) ls (.double x :: st) sh σ k n Q) : k_V E M dp pc ls st sh σ k n Q := by
  intro N0 ad0 p e R s m args below meth c H locs cells slots lsC ad mc ms C X hl
  exact lv_dload C.1 C.2.1 hd (k_at hl h) (kk N0 ad0 p e R s m args below meth c H locs cells slots lsC ad mc ms C X hl)
theorem k_dcmp {x y : UInt64} {op : CmpOp} (hd : decode M.2.1 pc = .ok (.dcmp op, 1)) (kk : k_V E M dp (pc + 1) ls (.int (iI (Op.cmpValue (FP.dcmp x y) op).toInt) :: st) sh σ k n Q) : k_V E M dp pc ls (.double y :: .double x :: st) sh σ k n Q := by
  intro N0 ad0 p e R s m args below meth c H locs cells slots lsC ad mc ms C X hl
  have h := kk N0 ad0 p e R s m args below meth c H locs cells slots lsC ad mc ms C X hl
  rw [← iI_of] at h
  exact lv_dcmp C.1 C.2.1 hd h
/-- dstore behind all that the locals hold -/
theorem k_dstore {j : Nat} {x : UInt64} (hd : decode M.2.1 pc = .ok (.dstore j, 2)) (hn : j + 1 < M.2.2.1) (h1 : k_one ls = true) (hj : ∀ q ∈ ls, q.1 < j) (kk : k_V E M dp (pc + 2) (ls ++ [(j, .double x)]) st sh σ k n Q) : k_V E M dp pc ls (.double x :: st) sh σ k n Q := by
  intro N0 ad0 p e R s m args below meth c H locs cells slots lsC ad mc ms C X hl
  refine lv_dstore C.1 C.2.1 hd hl hn rfl (fun ls2 hl2 => kk N0 ad0 p e R s m args below meth c H locs cells slots ls2 ad mc ms C X ⟨hl2.1, hl2.2.1, fun q hq => ?_⟩)
  have hq : q ∈ k_lc E ad (ls ++ [(j, .double x)]) := hq
  unfold k_lc at hq
  rw [List.map_append, List.mem_append] at hq
  rcases hq with hq | hq
  · refine hl2.2.2 q (List.mem_cons_of_mem _ (List.mem_filter.mpr ⟨hq, ?_⟩))
    obtain ⟨z, hz, rfl⟩ := List.mem_map.mp hq
    have h2 := hj z hz
    have h3 := k_one_at h1 z hz
    have h4 : (k_cv E ad z.2).category = z.2.category := k_cat (k_fmc C) z.2
    simp [h4, h3]
    omega
  · have : q = (j, .double x) := by
      rcases List.mem_singleton.mp hq with rfl
      rfl
    rw [this]
    exact hl2.2.2 _ List.mem_cons_self
end K_LW
