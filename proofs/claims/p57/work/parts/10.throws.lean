/-! ===== what is thrown, what goes on, what is caught ===== -/
section K_H
variable {E : k_E} {M : k_M} {dp pc k n : Nat} {ls : List (Nat × Value)} {st : List Value} {sh : List k_Sh} {σ : Nat → Nat → Int} {Q : k_Q}
theorem k_out {X : String} (hh : M.2.2.2.2 = []) (hQ : Q (.inr X) sh σ) : k_VX E M dp pc ls X sh σ k n Q := by
  intro N0 ad0 p e R s m args below meth c H locs cells slots lsC ad mc ms q9 ce rest C X1 hl hce hcv hcl
  refine vx_out (fun x hx => ?_) C.2.2.2.2.2.2.1 hce hcv hcl (fun t ht hW => ⟨sh, σ, ad, hQ, X1.1, ht ▸ X1.2.2.2.2.2.2, X1.2.2.2.2.2.1.F ht⟩) X1.2.2.2.2.2.1.2.2 (Nat.le_trans (Nat.le_add_right _ _) X1.2.1) (Nat.le_trans (Nat.le_add_right _ _) X1.2.2.1)
  rw [C.2.2.2.2.2.2.2.1, hh] at hx
  cases hx
theorem k_Zq {C0 n0 d0 : String} {p : Program} {R : Room} {s : State} {m : MethodId} {args : Array Value} {meth : Method} {c : Code} (C : k_Ctx E M dp p R s m args meth c) (h : vx_Zq C0 n0 d0 (k_A E) (k_s0 E) (k_s0 E).heap) : vx_Zq C0 n0 d0 (k_A E) s s.heap := by
  obtain ⟨hW, hz, hh, -⟩ := C.2.2.2.2.2.2.2.2.2.1
  exact vx_Zq.moved hW.alike (vx_Zq.kept h fun a ha _ => hh a ha)
/-- the words of a throw -/
def k_thr (own : String) (ik ic : Nat) (cls : String) (names : List String) : Bool := (Cond.classLink own ik cls :: Cond.initialized cls :: vx_atS own ic cls names).all (fun w => lw_tbl.contains w && vx_ot w && (goodWord w || k_nw w)) && Bundle.fit cls && names.all Bundle.fit
theorem k_thr_at {own cls : String} {ik ic : Nat} {names : List String} {p : Program} {R : Room} {s : State} {m : MethodId} {args : Array Value} {meth : Method} {c : Code} (C : k_Ctx E M dp p R s m args meth c) (h : k_thr own ik ic cls names = true) : ∀ w ∈ Cond.classLink own ik cls :: Cond.initialized cls :: vx_atS own ic cls names, w.before args s = true ∧ vx_ot w = true := by
  intro w hw
  unfold k_thr at h
  simp only [Bool.and_eq_true] at h
  have h1 := List.all_eq_true.mp h.1.1 w hw
  simp only [Bool.and_eq_true, Bool.or_eq_true, List.contains_iff_mem] at h1
  obtain ⟨⟨h2, h3⟩, h4⟩ := h1
  refine ⟨?_, h3⟩
  rcases h4 with h4 | h4
  · exact C.2.2.2.2.2.1 _ (k_cws (List.mem_filter.mpr ⟨h2, h4⟩))
  · exact k_nwat C (List.mem_filter.mpr ⟨h2, h4⟩)
/-- throw new X("text"), the text by ldc -/
theorem k_throw {ik is ic : Nat} {cls text : String} {names : List String} (d0 : decode M.2.1 pc = .ok (.new ik, 3)) (d3 : decode M.2.1 (pc + 3) = .ok (.dup, 1)) (d4 : decode M.2.1 (pc + 4) = .ok (.ldc is, 2)) (d6 : decode M.2.1 (pc + 6) = .ok (.invokespecial ic, 3)) (d9 : decode M.2.1 (pc + 9) = .ok (.athrow, 1))
    (hh : M.2.2.2.2 = []) (ht : k_thr M.1.cls ik ic cls names = true) (hs : Cond.stringRef M.1.cls is text ∈ lw_tbl) (hdp : names.length + 3 < dp ∧ 13 * (names.length + 1) + 51 ≤ 64 * dp) (hcat : (st.map fun v => v.category).sum ≤ 8) (hQ : Q (.inr cls) sh σ) : k_V E M dp pc ls st sh σ (k + 1) (n + 6) Q := by
  intro N0 ad0 p e R s m args below meth c H locs cells slots lsC ad mc ms C X hl
  have hw := k_thr_at C ht
  have hO := C.2.2.2.2.2.2.2.2.2.1.2.2.2
  obtain ⟨a, ha⟩ := hO.2.2.2.2.2.2.2.1 _ _ _ hs
  have hW := C.2.2.2.2.2.2.2.2.2.1.1
  have e1 := X.2.1; have e2 := X.2.2.1; have e3 := X.2.2.2.1; have e4 := X.2.2.2.2.1
  have r1 := C.2.2.2.2.2.2.2.2.2.2.1
  have r2 := C.2.2.2.2.2.2.2.2.2.2.2
  have hst : ((st.map (k_cv E ad)).map fun v => v.category).sum ≤ 8 := by
    rw [List.map_map]
    refine Nat.le_trans (Nat.le_of_eq ?_) hcat
    congr 1
    exact List.map_congr_left fun v _ => k_cat (k_fmc C) v
  have hf : Bundle.fit cls = true ∧ ∀ x ∈ names, Bundle.fit x = true := by
    unfold k_thr at ht
    simp only [Bool.and_eq_true] at ht
    exact ⟨ht.1.2, fun x hx => List.all_eq_true.mp ht.2 x hx⟩
  refine vx_throwS (A := k_A E) (names := names) C.1 C.2.1 hO.2.1 C.2.2.2.2.1 hf.1 hf.2 (hw _ List.mem_cons_self).1 (hw _ (List.mem_cons_of_mem _ List.mem_cons_self)).1 (vk_R.warm hW ha) (fun w h => (hw w (List.mem_cons_of_mem _ (List.mem_cons_of_mem _ h))).1) (fun w h => (hw w h).2) (k_Zq C hO.2.2.1) (k_Zq C hO.2.2.2.1) X.2.2.2.2.2.1 (hl.1.trans C.2.2.2.1.symm) d0 d3 d4 d6 d9 (fun x hx => ?_) (by omega) (by omega) (by omega) (by omega) C.2.2.2.2.2.2.1 (fun t hA hz hk => ?_) X.2.2.2.2.2.1.2.2 (by omega) (by omega)
  · rw [C.2.2.2.2.2.2.2.1, hh] at hx
    cases hx
  · obtain ⟨s1, s2, -⟩ := X.2.2.2.2.2.1
    obtain ⟨hP, hD, hsp⟩ := X.2.2.2.2.2.2
    exact ⟨sh, σ, ad, hQ, X.1, ⟨hP.kept fun k q hq => hk _ ((hP k q hq).lt), hD, hsp⟩, Nat.le_trans s1 hz, fun q h1 h2 => (hk q (Nat.lt_of_lt_of_le h1 s1)).trans (s2 q h1 h2)⟩
theorem k_throwW {ik is ic : Nat} {cls text : String} {names : List String} (d0 : decode M.2.1 pc = .ok (.new ik, 3)) (d3 : decode M.2.1 (pc + 3) = .ok (.dup, 1)) (d4 : decode M.2.1 (pc + 4) = .ok (.ldc_w is, 3)) (d7 : decode M.2.1 (pc + 7) = .ok (.invokespecial ic, 3)) (d10 : decode M.2.1 (pc + 10) = .ok (.athrow, 1))
    (hh : M.2.2.2.2 = []) (ht : k_thr M.1.cls ik ic cls names = true) (hs : Cond.stringRef M.1.cls is text ∈ lw_tbl) (hdp : names.length + 3 < dp ∧ 13 * (names.length + 1) + 51 ≤ 64 * dp) (hcat : (st.map fun v => v.category).sum ≤ 8) (hQ : Q (.inr cls) sh σ) : k_V E M dp pc ls st sh σ (k + 1) (n + 6) Q := by
  intro N0 ad0 p e R s m args below meth c H locs cells slots lsC ad mc ms C X hl
  have hw := k_thr_at C ht
  have hO := C.2.2.2.2.2.2.2.2.2.1.2.2.2
  obtain ⟨a, ha⟩ := hO.2.2.2.2.2.2.2.1 _ _ _ hs
  have hW := C.2.2.2.2.2.2.2.2.2.1.1
  have e1 := X.2.1; have e2 := X.2.2.1; have e3 := X.2.2.2.1; have e4 := X.2.2.2.2.1
  have r1 := C.2.2.2.2.2.2.2.2.2.2.1
  have r2 := C.2.2.2.2.2.2.2.2.2.2.2
  have hst : ((st.map (k_cv E ad)).map fun v => v.category).sum ≤ 8 := by
    rw [List.map_map]
    refine Nat.le_trans (Nat.le_of_eq ?_) hcat
    congr 1
    exact List.map_congr_left fun v _ => k_cat (k_fmc C) v
  have hf : Bundle.fit cls = true ∧ ∀ x ∈ names, Bundle.fit x = true := by
    unfold k_thr at ht
    simp only [Bool.and_eq_true] at ht
    exact ⟨ht.1.2, fun x hx => List.all_eq_true.mp ht.2 x hx⟩
  refine vx_throwSW (A := k_A E) (names := names) C.1 C.2.1 hO.2.1 C.2.2.2.2.1 hf.1 hf.2 (hw _ List.mem_cons_self).1 (hw _ (List.mem_cons_of_mem _ List.mem_cons_self)).1 (vk_R.warm hW ha) (fun w h => (hw w (List.mem_cons_of_mem _ (List.mem_cons_of_mem _ h))).1) (fun w h => (hw w h).2) (k_Zq C hO.2.2.1) (k_Zq C hO.2.2.2.1) X.2.2.2.2.2.1 (hl.1.trans C.2.2.2.1.symm) d0 d3 d4 d7 d10 (fun x hx => ?_) (by omega) (by omega) (by omega) (by omega) C.2.2.2.2.2.2.1 (fun t hA hz hk => ?_) X.2.2.2.2.2.1.2.2 (by omega) (by omega)
  · rw [C.2.2.2.2.2.2.2.1, hh] at hx
    cases hx
  · obtain ⟨s1, s2, -⟩ := X.2.2.2.2.2.1
    obtain ⟨hP, hD, hsp⟩ := X.2.2.2.2.2.2
    exact ⟨sh, σ, ad, hQ, X.1, ⟨hP.kept fun k q hq => hk _ ((hP k q hq).lt), hD, hsp⟩, Nat.le_trans s1 hz, fun q h1 h2 => (hk q (Nat.lt_of_lt_of_le h1 s1)).trans (s2 q h1 h2)⟩
/-- caught, and put away into the local j -/
theorem k_catch {X name : String} {i : Fin 4} {j hpc : Nat} {ls' : List (Nat × Value)} (pre suf : List (Nat × Nat × Nat × Nat)) (x : Nat × Nat × Nat × Nat) (hsplit : M.2.2.2.2 = pre ++ x :: suf)
    (hpass : ∀ z ∈ pre, ∃ nm, z.2.2.2 ≠ 0 ∧ Cond.classLink M.1.cls z.2.2.2 nm ∈ k_TBL ∧ X ∈ k_exs ∧ nm ∈ k_exs ∧ X ≠ nm) (hx : x.1 ≤ pc ∧ pc < x.2.1) (h0 : x.2.2.2 ≠ 0) (hlink : Cond.classLink M.1.cls x.2.2.2 name ∈ k_TBL) (hcast : Cond.castable X name ∈ k_NW) (hp : x.2.2.1 = hpc)
    (hd : decode M.2.1 hpc = .ok (.astore_n i, 1)) (hi : (i : Nat) = j) (hn : j < M.2.2.1) (h1 : k_one ls = true) (hls : ls.filter (fun q => !(q.1 == j)) = ls') (kk : k_V E M dp (hpc + 1) ls' [] sh σ k n Q) : k_VX E M dp pc ls X sh σ k n Q := by
  intro N0 ad0 p e R s m args below meth c H locs cells slots lsC ad mc ms q9 ce rest C X1 hl hce hcv hcl
  subst hls hp
  have ht := C.2.2.2.2.2.2.2.1
  rw [hsplit] at ht
  refine vx_catch (own := M.1.cls) (name := name) C.2.2.2.2.1 (tableOf pre) ⟨x.1, x.2.1, x.2.2.1, x.2.2.2⟩ (tableOf suf) (by rw [ht]; simp [tableOf]) (fun z hz => ?_) ?_ h0 (C.2.2.2.2.2.1 _ (k_cws hlink)) (k_nwat C hcast) hce hcv hcl ?_
  · obtain ⟨y, hy, rfl⟩ := List.mem_map.mp hz
    obtain ⟨nm, g1, g2, g3, g4, g5⟩ := hpass y hy
    exact Or.inr ⟨g1, nm, C.2.2.2.2.2.1 _ (k_cws g2), va_Nc.moved C.2.2.2.2.2.2.2.2.2.1.1.alike (C.2.2.2.2.2.2.2.2.2.1.2.2.2.2.2.2.2.2.2.2.2.2.1 _ g3 _ g4 g5)⟩
  · simp [covers, hx.1, hx.2]
  · refine lv_astore_n C.1 C.2.1 hd hi hl hn rfl (fun ls2 hl2 => kk N0 ad0 p e R s m args below meth c H locs cells slots ls2 ad mc ms C X1 ⟨hl2.1, hl2.2.1, fun q hq => ?_⟩)
    obtain ⟨z, hz, rfl⟩ := List.mem_map.mp hq
    obtain ⟨z1, z2⟩ := List.mem_filter.mp hz
    refine hl2.2.2 _ (List.mem_cons_of_mem _ (List.mem_filter.mpr ⟨List.mem_map.mpr ⟨z, z1, rfl⟩, ?_⟩))
    have hc : (k_cv E ad z.2).category = 1 := (k_cat (k_fmc C) z.2).trans (k_one_at h1 z z1)
    simp only [hc]
    simpa using z2
end K_H
