/-! ===== THE START: the world's constants ===== -/
section K_BG
variable {s : State} {args : Array Value} {A : Nat → Prop}
theorem k_st_sel (hts : ∀ w ∈ lw_tbl, w.before args s = true) : ∀ y ∈ k_privs, (Cond.selects "java/lang/StringBuilder" y y).before #[] s = true := by
  obtain ⟨c, r, mg, hc, hr, hmg, hsel, mk, hmk, hni⟩ := Cond.selects_spec (hts _ (List.mem_of_getElem? v_1469))
  have hg := findClass_of_methodNamed hmg
  have key : ∀ y : MethodName, y.cls = "java/lang/AbstractStringBuilder" → (y.cls ≠ "java/lang/invoke/MethodHandle" ∧ y.cls ≠ "java/lang/invoke/VarHandle") → (Cond.privateMethod y).before args s = true → (Cond.instanceMethod y).before args s = true → (Cond.selects "java/lang/StringBuilder" y y).before #[] s = true := by
    intro y hyc hy hp hi
    obtain ⟨m, meth, hn, hm, -, -⟩ := Cond.instanceMethod_spec hi
    have hfound := State.methodFound?_of_named hn hy
    have hcls : m.cls = mg.cls := by
      have h1 := findClass_of_methodNamed hn
      rw [hyc] at h1
      exact Option.some.inj (h1.symm.trans hg)
    have hsl : selectMethod {} s.vm c m = .method m := selectMethod_private hm (Cond.privateMethod_at hp m meth hn hm)
    simp only [Cond.before, Cond.holds, Cond.value, hc, hfound, hn, hsl, hcls, hmk]
    simp; exact hni
  intro y hy
  have hy2 : y = yJ5_ensureCapacityInternal_d00df ∨ y = yJ5_newCapacity_0f7a4 := by simpa [k_privs] using hy
  rcases hy2 with rfl | rfl
  · exact key _ rfl ⟨by decide, by decide⟩ (hts _ (List.mem_of_getElem? (by decide +kernel : lw_tbl[1327]? = some (Cond.privateMethod yJ5_ensureCapacityInternal_d00df)))) (hts _ (List.mem_of_getElem? v_1328))
  · exact key _ rfl ⟨by decide, by decide⟩ (hts _ (List.mem_of_getElem? (by decide +kernel : lw_tbl[1331]? = some (Cond.privateMethod yJ5_newCapacity_0f7a4)))) (hts _ (List.mem_of_getElem? v_1332))
theorem k_st_cls (hts : ∀ w ∈ lw_tbl, w.before args s = true) : ∃ D : va_G, ∀ (c : Nat) (q : vw_C), k_cls[c]? = some q → u_Kn s q.1 q.2.1 q.2.2 (D.1 c) (D.2 c) := by
  have hT : ∀ w ∈ k_TBL, w.before args s = true := fun w h => hts w (List.mem_filter.mp h).1
  have key : ∀ {ci N n : Nat} {C : String} {T : u_T} {ty : Nat → FieldType}, k_Cls ci C T N ty → Cond.instantiable C n ∈ k_TBL → ∃ x : ClassId × (Nat → Nat), ∀ q : vw_C, k_cls[ci]? = some q → u_Kn s q.1 q.2.1 q.2.2 x.1 x.2 := by
    intro ci N n C T ty hk hi
    obtain ⟨cC, iS, h⟩ := u_known (ws := k_TBL) hT hk.2.1 (hT _ hi)
    refine ⟨(cC, iS), fun q hq => ?_⟩
    have : q = (C, T, N) := Option.some.inj (hq.symm.trans hk.1)
    subst this
    exact h
  have h0 : ∀ c : Nat, ∃ x : ClassId × (Nat → Nat), ∀ q : vw_C, k_cls[c]? = some q → u_Kn s q.1 q.2.1 q.2.2 x.1 x.2 := by
    intro c
    by_cases hc : c < 10
    · have hc2 : c = 0 ∨ c = 1 ∨ c = 2 ∨ c = 3 ∨ c = 4 ∨ c = 5 ∨ c = 6 ∨ c = 7 ∨ c = 8 ∨ c = 9 := by omega
      rcases hc2 with rfl | rfl | rfl | rfl | rfl | rfl | rfl | rfl | rfl | rfl
      · exact key kcJ4 w_306
      · exact key kcX0 w_232
      · exact key kcX1 w_213
      · exact key kcX2 w_257
      · exact key kcX3 w_280
      · exact key kcX4 w_188
      · exact key kcX5 w_126
      · exact key kcX6 w_300
      · exact key kcX7 w_118
      · exact key kcX8 w_1728
    · obtain ⟨x, -⟩ := key kcJ4 w_306
      refine ⟨x, fun q hq => ?_⟩
      have h1 := (List.getElem?_eq_some_iff.mp hq).1
      have h2 : k_cls.length = 10 := rfl
      omega
  obtain ⟨f, hf⟩ := Classical.axiomOfChoice h0
  exact ⟨(fun c => (f c).1, fun c => (f c).2), hf⟩
theorem k_st_arr (hts : ∀ w ∈ lw_tbl, w.before args s = true) : ∃ dA : Nat → ClassId, ∀ k : Nat, k < 7 → ArrOfT s (dA k) (k_ty k) ∧ va_RA s (dA k) (k_ty k) := by
  have hp : ∀ t : FieldType, (Cond.arrayClass t).before args s = true → (∀ c, va_RA s c t = (s.vm.findClass ("[" ++ t.toString) = some c)) → ∃ c, ArrOfT s c t ∧ va_RA s c t := by
    intro t h hr
    obtain ⟨c, kA, comp, h1, h2, h3⟩ := Cond.arrayClass_spec h
    exact ⟨c, fun n z => ⟨fun k h => (by cases h), kA, h2, comp, h3⟩, by rw [hr]; exact h1⟩
  have ho : ∀ n : String, (Cond.arrayOver (.object n)).before args s = true → ∃ c, ArrOfT s c (.object n) ∧ va_RA s c (.object n) := by
    intro n h
    obtain ⟨comp, c, kA, h1, -, h2, h3, h4⟩ := Cond.arrayOver_spec h
    exact ⟨c, fun n z => ⟨fun k h => (by cases h), kA, h2, comp, h3⟩, kA, comp, h2, h3, h1, h4⟩
  have h0 : ∀ k : Nat, ∃ c : ClassId, k < 7 → ArrOfT s c (k_ty k) ∧ va_RA s c (k_ty k) := by
    intro k
    by_cases hk : k < 7
    · have hk2 : k = 0 ∨ k = 1 ∨ k = 2 ∨ k = 3 ∨ k = 4 ∨ k = 5 ∨ k = 6 := by omega
      rcases hk2 with rfl | rfl | rfl | rfl | rfl | rfl | rfl
      · exact (hp .int (hts _ (List.mem_of_getElem? v_186)) (fun _ => rfl)).imp fun _ h _ => h
      · exact (hp .char (hts _ (List.mem_of_getElem? v_1841)) (fun _ => rfl)).imp fun _ h _ => h
      · exact (hp .byte (hts _ (List.mem_of_getElem? v_337)) (fun _ => rfl)).imp fun _ h _ => h
      · exact (hp .long (hts _ (List.mem_of_getElem? v_2282)) (fun _ => rfl)).imp fun _ h _ => h
      · exact (hp .double (hts _ (List.mem_of_getElem? v_2283)) (fun _ => rfl)).imp fun _ h _ => h
      · exact (ho "OptionBlockPlanner$Plan" (hts _ (List.mem_filter.mp k_ao5).1)).imp fun _ h _ => h
      · exact (ho "java/lang/String" (hts _ (List.mem_filter.mp k_ao6).1)).imp fun _ h _ => h
    · obtain ⟨c, -⟩ := hp .int (hts _ (List.mem_of_getElem? v_186)) (fun _ => rfl)
      exact ⟨c, fun h => absurd h hk⟩
  exact Classical.axiomOfChoice h0
def k_gsr (q : String × Nat × String × List Int32) : Cond := .stringRef q.1 q.2.1 q.2.2.1
theorem k_sr_p : (lw_tbl.drop 1623).take 12 = (k_strs.take 12).map k_gsr := by decide +kernel
theorem k_sr_m : (lw_tbl.drop 1735).take 12 = (k_strs.drop 12).map k_gsr := by decide +kernel
theorem k_sr_in {q : String × Nat × String × List Int32} (hm : q ∈ k_strs) : Cond.stringRef q.1 q.2.1 q.2.2.1 ∈ lw_tbl := by
  rw [← List.take_append_drop 12 k_strs] at hm
  rcases List.mem_append.mp hm with hm | hm
  · have h : k_gsr q ∈ (lw_tbl.drop 1623).take 12 := by
      rw [k_sr_p]
      exact List.mem_map_of_mem hm
    exact List.mem_of_mem_drop (List.mem_of_mem_take h)
  · have h : k_gsr q ∈ (lw_tbl.drop 1735).take 12 := by
      rw [k_sr_m]
      exact List.mem_map_of_mem hm
    exact List.mem_of_mem_drop (List.mem_of_mem_take h)
theorem k_st_len : ∀ q ∈ k_strs, q.2.2.2.length < 100 := by decide +kernel
theorem k_st_n : k_strs.length = 24 := rfl
def k_TX (A : Nat → Prop) (s : State) (q : String × Nat × String × List Int32) (a t : Nat) : Prop := vk_R q.1 q.2.1 q.2.2.1 a s ∧ va_O "java/lang/String" a A s s.heap ∧ va_OF "java/lang/String" "coder" "B" (.int 0) a A s s.heap ∧ va_OF "java/lang/String" "value" "[B" (.ref t) a A s s.heap ∧ va_T .byte t q.2.2.2.length (fun j => .int (q.2.2.2.getD j 0)) A s s.heap
theorem k_st_txt (hts : ∀ w ∈ lw_tbl, w.before args s = true) (hf : ∀ c ∈ k_FL, c.before args s = true) (hA : ∀ a : Nat, a < s.heap.size → ¬ A a) : ∃ ad : Nat → Nat × Nat, ∀ (i : Nat) (q : String × Nat × String × List Int32), k_strs[i]? = some q → k_TX A s q (ad i).1 (ad i).2 := by
  have h0 : ∀ i : Nat, ∃ x : Nat × Nat, ∀ q : String × Nat × String × List Int32, k_strs[i]? = some q → k_TX A s q x.1 x.2 := by
    intro i
    cases hq : k_strs[i]? with
    | none => exact ⟨(0, 0), fun q h => by cases h⟩
    | some q =>
      have hm : q ∈ k_strs := List.mem_of_getElem? hq
      have hx : (Cond.exactly (k_tmS q) "java/lang/String").before args s = true := hf _ (k_FL_tx hq List.mem_cons_self)
      have hc : (Cond.eq (.field (k_tmS q) "java/lang/String" "coder" "B") (.int 0)).before args s = true := hf _ (k_FL_tx hq (List.mem_cons_of_mem _ List.mem_cons_self))
      have ha : (Cond.arrayOf (k_tmV q) .byte).before args s = true := hf _ (k_FL_tx hq (List.mem_cons_of_mem _ (List.mem_cons_of_mem _ List.mem_cons_self)))
      have hl : (Cond.eq (.length (k_tmV q)) (.int (Int32.ofNat q.2.2.2.length))).before args s = true := hf _ (k_FL_tx hq (List.mem_cons_of_mem _ (List.mem_cons_of_mem _ (List.mem_cons_of_mem _ List.mem_cons_self))))
      have he : ∀ j : Nat, j < q.2.2.2.length → (Cond.eq (.elem (k_tmV q) (.int (Int32.ofNat j))) (.int (q.2.2.2.getD j 0))).before args s = true := fun j hj => hf _ (k_FL_tx hq (List.mem_cons_of_mem _ (List.mem_cons_of_mem _ (List.mem_cons_of_mem _ (List.mem_cons_of_mem _ (List.mem_map.mpr ⟨j, List.mem_range.mpr hj, rfl⟩))))))
      have hN : q.2.2.2.length < 2 ^ 31 := Nat.lt_trans (k_st_len q hm) (by decide)
      obtain ⟨a, c, cA, kA, q1, -⟩ := Cond.exactly_spec (args := args) (first := s) (o := none) (s := s) (idx := []) (t := k_tmS q) (cls := "java/lang/String") hx
      obtain ⟨t, ht, hT⟩ := va_Tof (tm := k_tmV q) (ty := .byte) (N := q.2.2.2.length) (f := fun j => .int (q.2.2.2.getD j 0)) (A := A) hN ha (va_eqt hl) (fun j hj => va_eqt (he j hj)) hA
      refine ⟨(a, t), fun q2 h => ?_⟩
      cases h
      exact ⟨vk_R.of (hts _ (k_sr_in hm)) q1, va_Oof hx q1 hA, vk_OFof q1 (va_eqt hc) hA, vk_OFof q1 ht hA, hT⟩
  exact Classical.axiomOfChoice h0
theorem k_st_dig {n : String} {f : Nat → Nat} (hs : ∀ c ∈ k_gdg n f, c ∈ k_FL) (hf : ∀ c ∈ k_FL, c.before args s = true) (hA : ∀ a : Nat, a < s.heap.size → ¬ A a) : ∃ t : Nat, (k_tmD n).eval args s none [] s = some (.ref t) ∧ va_T .byte t 100 (fun j => .int (Int32.ofNat (48 + f j))) A s s.heap := by
  have ha : (Cond.arrayOf (k_tmD n) .byte).before args s = true := hf _ (hs _ (List.mem_cons_of_mem _ List.mem_cons_self))
  have hl : (Cond.eq (.length (k_tmD n)) (.int (Int32.ofNat 100))).before args s = true := hf _ (hs _ (List.mem_cons_of_mem _ (List.mem_cons_of_mem _ List.mem_cons_self)))
  have he : ∀ j : Nat, j < 100 → (Cond.eq (.elem (k_tmD n) (.int (Int32.ofNat j))) (.int (Int32.ofNat (48 + f j)))).before args s = true := fun j hj => hf _ (hs _ (List.mem_cons_of_mem _ (List.mem_cons_of_mem _ (List.mem_cons_of_mem _ (List.mem_map.mpr ⟨j, List.mem_range.mpr hj, rfl⟩)))))
  exact va_Tof (tm := k_tmD n) (ty := .byte) (N := 100) (f := fun j => .int (Int32.ofNat (48 + f j))) (A := A) (by decide) ha (va_eqt hl) (fun j hj => va_eqt (he j hj)) hA
theorem k_st_nw {w : Cond} (hw : w ∈ k_NW) (h : w.before args s = true) : va_Nw w s := by
  have h1 : k_nw w = true := (List.mem_filter.mp hw).2
  cases w with
  | fieldLinkNest _ _ _ _ _ _ => exact va_Nw.of rfl h
  | methodLinkNest _ _ _ _ => exact va_Nw.of rfl h
  | castable _ _ => exact va_Nw.of rfl h
  | declares _ => exact va_Nw.of rfl h
  | arrayOver t => exact h
  | _ => cases h1
theorem k_begin {p : Program} {m : MethodId} {meth : Method} {c : Code} (l : Launch) (hflags : l.flags = flags0) {b L : Nat} {xs : Nat → Int32} (C0 : lw_At p s m meth c b L xs) : ∃ E : k_E, k_l E = l ∧ k_s0 E = s ∧ k_L E = L ∧ k_xs E = xs ∧ k_sp E 1000000 = b ∧ k_Ok E := by
  obtain ⟨-, -, -, -, -, hts, hX, hb, -, hgv⟩ := C0
  have hf : ∀ c ∈ k_FL, c.before #[Value.ref b] s = true := flat_of_before _ hgv
  have hA : ∀ a : Nat, a < s.heap.size → ¬ (fun q => s.heap.size ≤ q) a := fun a h => Nat.not_le_of_lt h
  obtain ⟨D, hD⟩ := k_st_cls hts
  obtain ⟨dA, hdA⟩ := k_st_arr hts
  obtain ⟨ad, had⟩ := k_st_txt hts hf hA
  obtain ⟨t1, e1, hT1⟩ := k_st_dig (fun c h => k_FL_seg k_FL_1 h) hf hA
  obtain ⟨t2, e2, hT2⟩ := k_st_dig (fun c h => k_FL_seg k_FL_2 h) hf hA
  have hini1 : (Cond.initialized "java/lang/String").before #[Value.ref b] s = true := hts _ (List.mem_of_getElem? v_95)
  have hini2 : (Cond.initialized "java/lang/Integer").before #[Value.ref b] s = true := hts _ (List.mem_of_getElem? v_99)
  have hini3 : (Cond.initialized Bundle.tN).before #[Value.ref b] s = true := hts _ (List.mem_of_getElem? v_100)
  have hini4 : (Cond.initialized "jdk/internal/util/Preconditions").before #[Value.ref b] s = true := hts _ (List.mem_of_getElem? v_115)
  have l1 : (Cond.laysStatic "java/lang/String" "COMPACT_STRINGS" "Z").before #[Value.ref b] s = true := hts _ (List.mem_of_getElem? (by decide +kernel : lw_tbl[315]? = some (Cond.laysStatic "java/lang/String" "COMPACT_STRINGS" "Z")))
  have l2 : (Cond.laysStatic Bundle.tN "UNASSIGNED_STACK" Bundle.steD).before #[Value.ref b] s = true := hts _ (List.mem_of_getElem? (by decide +kernel : lw_tbl[737]? = some (Cond.laysStatic Bundle.tN "UNASSIGNED_STACK" Bundle.steD)))
  have l3 : (Cond.laysStatic Bundle.tN "SUPPRESSED_SENTINEL" Bundle.listD).before #[Value.ref b] s = true := hts _ (List.mem_of_getElem? (by decide +kernel : lw_tbl[739]? = some (Cond.laysStatic Bundle.tN "SUPPRESSED_SENTINEL" Bundle.listD)))
  have l4 : (Cond.laysStatic "jdk/internal/util/Preconditions" "SIOOBE_FORMATTER" "Ljava/util/function/BiFunction;").before #[Value.ref b] s = true := hts _ (List.mem_of_getElem? (by decide +kernel : lw_tbl[1373]? = some (Cond.laysStatic "jdk/internal/util/Preconditions" "SIOOBE_FORMATTER" "Ljava/util/function/BiFunction;")))
  have l5 : (Cond.laysStatic "java/lang/Integer" "DigitOnes" "[B").before #[Value.ref b] s = true := hts _ (List.mem_of_getElem? (by decide +kernel : lw_tbl[1443]? = some (Cond.laysStatic "java/lang/Integer" "DigitOnes" "[B")))
  have l6 : (Cond.laysStatic "java/lang/Integer" "DigitTens" "[B").before #[Value.ref b] s = true := hts _ (List.mem_of_getElem? (by decide +kernel : lw_tbl[1445]? = some (Cond.laysStatic "java/lang/Integer" "DigitTens" "[B")))
  have f1 := hf _ (k_FL_seg k_FL_s List.mem_cons_self)
  have f2 := hf _ (k_FL_seg k_FL_s (List.mem_cons_of_mem _ List.mem_cons_self))
  have f3 := hf _ (k_FL_seg k_FL_s (List.mem_cons_of_mem _ (List.mem_cons_of_mem _ List.mem_cons_self)))
  have f4 := hf _ (k_FL_seg k_FL_s (List.mem_cons_of_mem _ (List.mem_cons_of_mem _ (List.mem_cons_of_mem _ List.mem_cons_self))))
  obtain ⟨fm, hfm1, hfm2⟩ : ∃ fm : Value, fm.category = 1 ∧ va_Z "jdk/internal/util/Preconditions" "SIOOBE_FORMATTER" "Ljava/util/function/BiFunction;" fm (fun q => s.heap.size ≤ q) s s.heap := by
    rcases va_Zqof l4 hini4 f4 hA with h | ⟨t, h⟩
    · exact ⟨.null, rfl, h⟩
    · exact ⟨.ref t, rfl, h⟩
  obtain ⟨sp, s1, s2, s3, s4, s5⟩ : ∃ sp : Nat → Nat, sp 1000000 = b ∧ (∀ i, i < 24 → sp (1000010 + i) = (ad i).1) ∧ (∀ i, i < 24 → sp (1000040 + i) = (ad i).2) ∧ sp 1000080 = t1 ∧ sp 1000081 = t2 := by
    refine ⟨fun j => if j = 1000000 then b else if j = 1000080 then t1 else if j = 1000081 then t2 else if 1000040 ≤ j then (ad (j - 1000040)).2 else (ad (j - 1000010)).1, if_pos rfl, fun i hi => ?_, fun i hi => ?_, ?_, ?_⟩
    · show (if 1000010 + i = 1000000 then _ else _) = _
      rw [if_neg (by omega), if_neg (by omega), if_neg (by omega), if_neg (by omega), show 1000010 + i - 1000010 = i by omega]
    · show (if 1000040 + i = 1000000 then _ else _) = _
      rw [if_neg (by omega), if_neg (by omega), if_neg (by omega), if_pos (by omega), show 1000040 + i - 1000040 = i by omega]
    · show (if 1000080 = 1000000 then _ else _) = _
      rw [if_neg (by omega), if_pos rfl]
    · show (if 1000081 = 1000000 then _ else _) = _
      rw [if_neg (by omega), if_neg (by omega), if_pos rfl]
  have htr : l.stackTraces = false := by unfold Launch.stackTraces; rw [hflags]; decide
  refine ⟨(l, s, D, dA, sp, fm, L, xs), rfl, rfl, rfl, rfl, s1, ⟨hD, fun k q hq => ?_⟩, htr, vx_Zqof l2 hini3 f2 hA, vx_Zqof l3 hini3 f3 hA, ?_, ?_, hfm1, ⟨fun own k tx h => ?_, fun w hw => k_st_nw hw (hts w (List.mem_filter.mp hw).1), fun X hX Y hY hne => va_Nc.of (hf _ (k_FL_c X hX Y hY hne)), ?_⟩⟩
  · have hk : k < 7 := by
      have h1 := (List.getElem?_eq_some_iff.mp hq).1
      rw [show (k_tys (l, s, D, dA, sp, fm, L, xs)).length = 7 from by simp [k_tys]] at h1
      exact h1
    have hq2 : q = (dA k, k_ty k) := Option.some.inj (hq.symm.trans (k_tys_at (l, s, D, dA, sp, fm, L, xs) hk))
    subst hq2
    exact hdA k hk
  · show va_X (sp 1000000) L xs s s.heap
    rw [s1]
    exact hX
  · show sp 1000000 < s.heap.size
    rw [s1]
    exact hb
  · obtain ⟨a, cc, cA, kA, q1, -⟩ := Cond.exactly_spec (args := #[Value.ref b]) (first := s) (o := none) (s := s) (idx := []) (t := .string own k) (cls := "java/lang/String") (hf _ (k_FL_sr h))
    exact ⟨a, vk_R.of (hts _ h) q1⟩
  · refine ⟨va_Zof l1 hini1 (va_eqt f1) hA, hfm2, fun i q hq => ?_, ?_, ?_, ?_, ?_, k_st_sel hts⟩
    · have hi : i < 24 := by
        have h1 := (List.getElem?_eq_some_iff.mp hq).1
        rw [k_st_n] at h1
        exact h1
      have h := had i q hq
      rw [← s2 i hi, ← s3 i hi] at h
      exact h
    · show va_Z _ _ _ (.ref (sp 1000080)) _ _ _
      rw [s4]
      exact va_Zref l5 hini2 e1 hA
    · show va_T _ (sp 1000080) _ _ _ _ _
      rw [s4]
      exact hT1
    · show va_Z _ _ _ (.ref (sp 1000081)) _ _ _
      rw [s5]
      exact va_Zref l6 hini2 e2 hA
    · show va_T _ (sp 1000081) _ _ _ _ _
      rw [s5]
      exact hT2
end K_BG
