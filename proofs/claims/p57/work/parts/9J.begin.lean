/-! ===== THE START: the world's constants ===== -/
section P_R
variable {s : State} {args : Array Value} {A : Nat → Prop}
theorem k_st_cls (hts : ∀ w ∈ lw_tbl, w.before args s = true) : ∃ D : va_G, ∀ (c : Nat) (q : vw_C), k_cls[c]? = some q → u_Kn s q.1 q.2.1 q.2.2 (D.1 c) (D.2 c) := by
  have hT : ∀ w ∈ k_TBL, w.before args s = true := fun w h => hts w (List.mem_filter.mp h).1
  have key : ∀ {ci N n : Nat} {C : String} {T : u_T} {ty : Nat → FieldType}, k_Cls ci C T N ty → Cond.instantiable C n ∈ k_TBL → ∃ x : ClassId × (Nat → Nat), ∀ q : vw_C, k_cls[ci]? = some q → u_Kn s q.1 q.2.1 q.2.2 x.1 x.2 := by
    intro ci N n C T ty hk hi
    obtain ⟨cC, iS, h⟩ := u_known (ws := k_TBL) hT hk.2.1 (hT _ hi)
    refine ⟨(cC, iS), fun q hq => ?_⟩
    have : q = (C, T, N) := Option.some.inj (hq.symm.trans hk.1)
    subst this
    exact h
  have h0 : ∀ c : Nat, ∃ x : ClassId × (Nat → Nat), ∀ q : vw_C, k_cls[c]? = some q → u_Kn s q.1 q.2.1 q.2.2 x.1 x.2 := by
    intro c
    by_cases hc : c < 9
    · have hc2 : c = 0 ∨ c = 1 ∨ c = 2 ∨ c = 3 ∨ c = 4 ∨ c = 5 ∨ c = 6 ∨ c = 7 ∨ c = 8 := by omega
      rcases hc2 with rfl | rfl | rfl | rfl | rfl | rfl | rfl | rfl | rfl
      · exact key kcJ4 w_306
      · exact key kcX0 w_232
      · exact key kcX1 w_213
      · exact key kcX2 w_257
      · exact key kcX3 w_280
      · exact key kcX4 w_188
      · exact key kcX5 w_126
      · exact key kcX6 w_300
      · exact key kcX7 w_118
    · obtain ⟨x, -⟩ := key kcJ4 w_306
      refine ⟨x, fun q hq => ?_⟩
      have h1 := (List.getElem?_eq_some_iff.mp hq).1
      have h2 : k_cls.length = 9 := rfl
      omega
  obtain ⟨f, hf⟩ := Classical.axiomOfChoice h0
  exact ⟨(fun c => (f c).1, fun c => (f c).2), hf⟩
theorem k_st_arr (hts : ∀ w ∈ lw_tbl, w.before args s = true) : ∃ dA : Nat → ClassId, ∀ k : Nat, k < 7 → ArrOfT s (dA k) (k_ty k) ∧ va_RA s (dA k) (k_ty k) := by
  have hp : ∀ t : FieldType, (Cond.arrayClass t).before args s = true → (∀ c, va_RA s c t = (s.vm.findClass ("[" ++ t.toString) = some c)) → ∃ c, ArrOfT s c t ∧ va_RA s c t := by
    intro t h hr
    obtain ⟨c, kA, comp, h1, h2, h3⟩ := Cond.arrayClass_spec h
    exact ⟨c, fun n z => ⟨fun k h => (by cases h), kA, h2, comp, h3⟩, by rw [hr]; exact h1⟩
  have ho : ∀ n : String, (Cond.arrayOver (.object n)).before args s = true → ∃ c, ArrOfT s c (.object n) ∧ va_RA s c (.object n) := by
    intro n h
    obtain ⟨comp, c, kA, h1, -, h2, h3, h4⟩ := Cond.arrayOver_spec h
    exact ⟨c, fun n z => ⟨fun k h => (by cases h), kA, h2, comp, h3⟩, kA, comp, h2, h3, h1, h4⟩
  have h0 : ∀ k : Nat, ∃ c : ClassId, k < 7 → ArrOfT s c (k_ty k) ∧ va_RA s c (k_ty k) := by
    intro k
    by_cases hk : k < 7
    · have hk2 : k = 0 ∨ k = 1 ∨ k = 2 ∨ k = 3 ∨ k = 4 ∨ k = 5 ∨ k = 6 := by omega
      rcases hk2 with rfl | rfl | rfl | rfl | rfl | rfl | rfl
      · exact (hp .int (hts _ (List.mem_of_getElem? v_186)) (fun _ => rfl)).imp fun _ h _ => h
      · exact (hp .int (hts _ (List.mem_of_getElem? v_186)) (fun _ => rfl)).imp fun _ h _ => h
      · exact (hp .byte (hts _ (List.mem_of_getElem? v_337)) (fun _ => rfl)).imp fun _ h _ => h
      · exact (hp .int (hts _ (List.mem_of_getElem? v_186)) (fun _ => rfl)).imp fun _ h _ => h
      · exact (hp .int (hts _ (List.mem_of_getElem? v_186)) (fun _ => rfl)).imp fun _ h _ => h
      · exact (ho "OptionBlockPlanner$Plan" (hts _ (List.mem_filter.mp k_ao5).1)).imp fun _ h _ => h
      · exact (hp .int (hts _ (List.mem_of_getElem? v_186)) (fun _ => rfl)).imp fun _ h _ => h
    · obtain ⟨c, -⟩ := hp .int (hts _ (List.mem_of_getElem? v_186)) (fun _ => rfl)
      exact ⟨c, fun h => absurd h hk⟩
  exact Classical.axiomOfChoice h0
theorem k_st_nw {w : Cond} (hw : w ∈ k_NW) (h : w.before args s = true) : va_Nw w s := by
  have h1 : k_nw w = true := (List.mem_filter.mp hw).2
  cases w with
  | fieldLinkNest _ _ _ _ _ _ => exact va_Nw.of rfl h
  | methodLinkNest _ _ _ _ => exact va_Nw.of rfl h
  | castable _ _ => exact va_Nw.of rfl h
  | declares _ => exact va_Nw.of rfl h
  | arrayOver t => exact h
  | _ => cases h1
theorem k_begin {p : Program} {m : MethodId} {meth : Method} {c : Code} (l : Launch) (hflags : l.flags = flags0) {b L : Nat} {xs : Nat → Int32} (C0 : lw_At p s m meth c b L xs) : ∃ E : k_E, k_l E = l ∧ k_s0 E = s ∧ k_L E = L ∧ k_xs E = xs ∧ k_sp E 1000000 = b ∧ k_Ok E := by
  obtain ⟨-, -, -, -, -, hts, hX, hb, -, hgv⟩ := C0
  have hf : ∀ c ∈ k_FL, c.before #[Value.ref b] s = true := flat_of_before _ hgv
  have hA : ∀ a : Nat, a < s.heap.size → ¬ (fun q => s.heap.size ≤ q) a := fun a h => Nat.not_le_of_lt h
  obtain ⟨D, hD⟩ := k_st_cls hts
  obtain ⟨dA, hdA⟩ := k_st_arr hts
  have hini1 : (Cond.initialized "java/lang/String").before #[Value.ref b] s = true := hts _ (List.mem_of_getElem? v_95)
  have hini3 : (Cond.initialized Bundle.tN).before #[Value.ref b] s = true := hts _ (List.mem_of_getElem? v_100)
  have l1 : (Cond.laysStatic "java/lang/String" "COMPACT_STRINGS" "Z").before #[Value.ref b] s = true := hts _ (List.mem_of_getElem? (by decide +kernel : lw_tbl[245]? = some (Cond.laysStatic "java/lang/String" "COMPACT_STRINGS" "Z")))
  have l2 : (Cond.laysStatic Bundle.tN "UNASSIGNED_STACK" Bundle.steD).before #[Value.ref b] s = true := hts _ (List.mem_of_getElem? (by decide +kernel : lw_tbl[583]? = some (Cond.laysStatic Bundle.tN "UNASSIGNED_STACK" Bundle.steD)))
  have l3 : (Cond.laysStatic Bundle.tN "SUPPRESSED_SENTINEL" Bundle.listD).before #[Value.ref b] s = true := hts _ (List.mem_of_getElem? (by decide +kernel : lw_tbl[585]? = some (Cond.laysStatic Bundle.tN "SUPPRESSED_SENTINEL" Bundle.listD)))
  have f1 := hf _ k_FL_1
  have f2 := hf _ k_FL_2
  have f3 := hf _ k_FL_3
  have htr : l.stackTraces = false := by unfold Launch.stackTraces; rw [hflags]; decide
  refine ⟨(l, s, D, dA, fun _ => b, .null, L, xs), rfl, rfl, rfl, rfl, rfl, ⟨hD, fun k q hq => ?_⟩, htr, vx_Zqof l2 hini3 f2 hA, vx_Zqof l3 hini3 f3 hA, hX, hb, rfl, ⟨fun own k tx h => ?_, fun w hw => k_st_nw hw (hts w (List.mem_filter.mp hw).1), fun X hX Y hY hne => va_Nc.of (hf _ (k_FL_c X hX Y hY hne)), va_Zof l1 hini1 (va_eqt f1) hA, True.intro⟩⟩
  · have hk : k < 7 := by
      have h1 := (List.getElem?_eq_some_iff.mp hq).1
      rw [show (k_tys (l, s, D, dA, fun _ => b, .null, L, xs)).length = 7 from by simp [k_tys]] at h1
      exact h1
    have hq2 : q = (dA k, k_ty k) := Option.some.inj (hq.symm.trans (k_tys_at (l, s, D, dA, fun _ => b, .null, L, xs) hk))
    subst hq2
    exact hdA k hk
  · obtain ⟨a, cc, cA, kA, q1, -⟩ := Cond.exactly_spec (args := #[Value.ref b]) (first := s) (o := none) (s := s) (idx := []) (t := .string own k) (cls := "java/lang/String") (hf _ (k_FL_sr h))
    exact ⟨a, vk_R.of (hts _ h) q1⟩
end P_R
