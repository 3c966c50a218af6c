/-! ===== THE START: what the Statement gives of it ===== -/
section K_FL
def k_FL : List Cond := flatC (Jvm.Cond.and given_1 narrow_1)
theorem k_FL_seg {a n : Nat} {T : List Cond} (h : (k_FL.drop a).take n = T) {c : Cond} (hc : c ∈ T) : c ∈ k_FL := by
  rw [← h] at hc
  exact List.mem_of_mem_drop (List.mem_of_mem_take hc)
def k_tmS (q : String × Nat × String × List Int32) : Term := .string q.1 q.2.1
def k_tmV (q : String × Nat × String × List Int32) : Term := .field (k_tmS q) "java/lang/String" "value" "[B"
def k_gtx (q : String × Nat × String × List Int32) : List Cond := .exactly (k_tmS q) "java/lang/String" :: .eq (.field (k_tmS q) "java/lang/String" "coder" "B") (.int 0) :: .arrayOf (k_tmV q) .byte :: .eq (.length (k_tmV q)) (.int (Int32.ofNat q.2.2.2.length)) :: (List.range q.2.2.2.length).map fun j => .eq (.elem (k_tmV q) (.int (Int32.ofNat j))) (.int (q.2.2.2.getD j 0))
def k_tmD (n : String) : Term := .static "java/lang/Integer" n "[B"
def k_gdg (n : String) (f : Nat → Nat) : List Cond := .isRef (k_tmD n) :: .arrayOf (k_tmD n) .byte :: .eq (.length (k_tmD n)) (.int (Int32.ofNat 100)) :: (List.range 100).map fun j => .eq (.elem (k_tmD n) (.int (Int32.ofNat j))) (.int (Int32.ofNat (48 + f j)))
theorem k_FL_p : (k_FL.drop 613).take 148 = (k_strs.take 12).flatMap k_gtx := by decide +kernel
theorem k_FL_m : (k_FL.drop 858).take 59 = ((k_strs.drop 12).take 5).flatMap k_gtx := by decide +kernel
theorem k_FL_n : (k_FL.drop 918).take 89 = ((k_strs.drop 12).drop 5).flatMap k_gtx := by decide +kernel
theorem k_FL_1 : (k_FL.drop 11).take 103 = k_gdg "DigitOnes" (· % 10) := by decide +kernel
theorem k_FL_2 : (k_FL.drop 114).take 103 = k_gdg "DigitTens" (· / 10) := by decide +kernel
theorem k_FL_s : (k_FL.drop 4).take 4 = [.eq (.static "java/lang/String" "COMPACT_STRINGS" "Z") (.int 1), .isRef (.static Bundle.tN "UNASSIGNED_STACK" Bundle.steD), .isRef (.static Bundle.tN "SUPPRESSED_SENTINEL" Bundle.listD), .isRef (.static "jdk/internal/util/Preconditions" "SIOOBE_FORMATTER" "Ljava/util/function/BiFunction;")] := by decide +kernel
theorem k_FL_c : ∀ X ∈ k_exs, ∀ Y ∈ k_exs, X ≠ Y → Cond.not (.castable X Y) ∈ k_FL := by decide +kernel
def k_isX : Cond → Bool
  | .exactly (.string _ _) _ => true
  | _ => false
def k_okX (F : List Cond) : Cond → Bool
  | .stringRef own k _ => F.contains (.exactly (.string own k) "java/lang/String")
  | _ => true
theorem k_FL_x : lw_tbl.all (k_okX (k_FL.filter k_isX)) = true := by decide +kernel
theorem k_FL_tx {q : String × Nat × String × List Int32} {i : Nat} (h : k_strs[i]? = some q) {c : Cond} (hc : c ∈ k_gtx q) : c ∈ k_FL := by
  have hm : q ∈ k_strs := List.mem_of_getElem? h
  rw [← List.take_append_drop 12 k_strs] at hm
  rcases List.mem_append.mp hm with hm | hm
  · exact k_FL_seg k_FL_p (List.mem_flatMap.mpr ⟨q, hm, hc⟩)
  · rw [← List.take_append_drop 5 (k_strs.drop 12)] at hm
    rcases List.mem_append.mp hm with hm | hm
    · exact k_FL_seg k_FL_m (List.mem_flatMap.mpr ⟨q, hm, hc⟩)
    · exact k_FL_seg k_FL_n (List.mem_flatMap.mpr ⟨q, hm, hc⟩)
theorem k_FL_sr {own tx : String} {k : Nat} (h : Cond.stringRef own k tx ∈ lw_tbl) : Cond.exactly (.string own k) "java/lang/String" ∈ k_FL := by
  have h1 := List.all_eq_true.mp k_FL_x _ h
  have h2 : (k_FL.filter k_isX).contains (.exactly (.string own k) "java/lang/String") = true := h1
  exact (List.mem_filter.mp (List.contains_iff_mem.mp h2)).1
end K_FL
