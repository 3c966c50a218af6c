/-! ===== THE START: what the Statement gives of it ===== -/
section P_P
variable {s : State} {args : Array Value} {A : Nat → Prop}
def k_FL : List Cond := flatC (Jvm.Cond.and given_1 narrow_1)
theorem k_FL_c : ∀ X ∈ k_exs, ∀ Y ∈ k_exs, X ≠ Y → Cond.not (.castable X Y) ∈ k_FL := by decide +kernel
def k_isX : Cond → Bool
  | .exactly (.string _ _) _ => true
  | _ => false
def k_okX (F : List Cond) : Cond → Bool
  | .stringRef own k _ => F.contains (.exactly (.string own k) "java/lang/String")
  | _ => true
theorem k_FL_x : lw_tbl.all (k_okX (k_FL.filter k_isX)) = true := by decide +kernel
theorem k_FL_sr {own tx : String} {k : Nat} (h : Cond.stringRef own k tx ∈ lw_tbl) : Cond.exactly (.string own k) "java/lang/String" ∈ k_FL := by
  have h1 := List.all_eq_true.mp k_FL_x _ h
  have h2 : (k_FL.filter k_isX).contains (.exactly (.string own k) "java/lang/String") = true := h1
  exact (List.mem_filter.mp (List.contains_iff_mem.mp h2)).1
theorem k_FL_1 : Cond.eq (.static "java/lang/String" "COMPACT_STRINGS" "Z") (.int 1) ∈ k_FL := by decide +kernel
theorem k_FL_2 : Cond.isRef (.static Bundle.tN "UNASSIGNED_STACK" Bundle.steD) ∈ k_FL := by decide +kernel
theorem k_FL_3 : Cond.isRef (.static Bundle.tN "SUPPRESSED_SENTINEL" Bundle.listD) ∈ k_FL := by decide +kernel
end P_P
