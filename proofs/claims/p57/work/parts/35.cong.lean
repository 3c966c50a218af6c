/-! ===== what is asked of the plan hangs on its cells alone ===== -/
section K_CG
variable {σ τ : Nat → Nat → Int}
theorem z_first_cong {P Q : Nat → Bool} : ∀ n : Nat, (∀ j, j < n → P j = Q j) → z_first n P = z_first n Q := by
  intro n h
  rcases z_first_spec (P := Q) n with ⟨h1, h2⟩ | ⟨i, h1, h2, h3, h4⟩
  · rw [h1]
    exact z_first_none n (fun j hj => (h j hj).trans (h2 j hj))
  · rw [h2]
    exact z_first_some ((h i h1).trans h3) (fun j hj => (h j (by omega)).trans (h4 j hj)) n h1
theorem k_fold_cong {α : Type} {f g : Nat → α → α} {a : α} : ∀ n : Nat, (∀ i, i < n → ∀ x, f i x = g i x) → k_fold n f a = k_fold n g a
  | 0, _ => rfl
  | n + 1, h => by
    show f n (k_fold n f a) = g n (k_fold n g a)
    rw [h n (by omega), k_fold_cong n (fun i hi => h i (by omega))]
theorem k_PlEq.c1 (h : k_PlEq τ σ) : τ 1 = σ 1 := h 1 (by decide)
theorem k_PlEq.lesson (h : k_PlEq τ σ) (p b : Int) : f_lesson τ p b = f_lesson σ p b := by
  unfold f_lesson
  simp only [h.roster]
  rw [h.c1]
theorem k_PlEq.taken (h : k_PlEq τ σ) (p s : Int) : f_taken τ p s = f_taken σ p s := by
  unfold f_taken
  simp only [h.roster]
  rw [h.c1]
theorem k_PlEq.free (h : k_PlEq τ σ) (p : Int) : f_free τ p = f_free σ p := by
  unfold f_free f_freeN
  simp only [h.busy]
  rw [h.c1]
theorem k_PlEq.lessons (h : k_PlEq τ σ) (p : Int) : f_lessons τ p = f_lessons σ p := by
  unfold f_lessons f_lessonsN
  simp only [h.busy]
  rw [h.c1]
theorem k_PlEq.lessAll (h : k_PlEq τ σ) : f_lessAll τ = f_lessAll σ := by
  unfold f_lessAll f_lessAllN
  simp only [h.busy]
  rw [h.c1]
theorem k_PlEq.largest (h : k_PlEq τ σ) (s : Int) : f_largest τ s = f_largest σ s := by
  unfold f_largest f_largestN
  simp only [h.roster]
  rw [h.c1]
theorem k_PlEq.openCl (h : k_PlEq τ σ) : f_openCl τ = f_openCl σ := by
  unfold f_openCl f_openClN
  simp only [h.opn]
  rw [h.c1]
theorem k_PlEq.both (h : k_PlEq τ σ) (s o : Int) : f_both τ s o = f_both σ s o := by
  unfold f_both f_bothN
  simp only [h.wishSet]
  rw [h.c1]
theorem k_PlEq.attends (h : k_PlEq τ σ) (p : Int) : f_attends τ p ↔ f_attends σ p := by
  unfold f_attends
  simp only [h.taken, h.wish]
  rw [h 5 (by decide)]
theorem k_PlEq.clash (h : k_PlEq τ σ) (s o : Int) : f_clash τ s o ↔ f_clash σ s o := by
  unfold f_clash
  simp only [h.opn]
  rw [h.c1]
theorem k_PlEq.symm (h : k_PlEq τ σ) : k_PlEq σ τ := fun i hi => (h i hi).symm
theorem k_PlEq.trans {ρ : Nat → Nat → Int} (h : k_PlEq ρ τ) (h2 : k_PlEq τ σ) : k_PlEq ρ σ := fun i hi => (h i hi).trans (h2 i hi)
/-- alike at the first four places -/
def k_4 (f g : Nat → Int) : Prop := ∀ j, j < 4 → f j = g j
theorem g_next_4 {ro ro2 bu bu2 di di2 : Nat → Int} (h1 : k_4 ro ro2) (h2 : k_4 bu bu2) (h3 : k_4 di di2) {a d : Int} (ha : a.toNat < 4) : g_next ro bu di a d = g_next ro2 bu2 di2 a d := by
  unfold g_next
  exact z_first_cong 4 (fun j hj => by rw [h1 _ ha, h2 j hj, h3 j hj])
theorem g_meas_4 {ro ro2 bu bu2 di di2 : Nat → Int} (h1 : k_4 ro ro2) (h2 : k_4 bu bu2) (h3 : k_4 di di2) (m : Int) : ∀ n, n ≤ 4 → k_4 (g_measN ro bu m di n) (g_measN ro2 bu2 m di2 n)
  | 0, _ => h3
  | n + 1, hn => by
    have ih := g_meas_4 h1 h2 h3 m n (by omega)
    intro j hj
    show (ite _ _ _ : Nat → Int) j = (ite _ _ _ : Nat → Int) j
    have e1 : g_measN ro bu m di n n = g_measN ro2 bu2 m di2 n n := ih n (by omega)
    have e2 : g_next ro bu (g_measN ro bu m di n) (n : Int) (m - 1) = g_next ro2 bu2 (g_measN ro2 bu2 m di2 n) (n : Int) (m - 1) := g_next_4 h1 h2 ih (by omega)
    unfold g_measN at e1 e2 ih
    rw [e1, e2]
    split
    · unfold k_u1
      split
      · rfl
      · exact ih j hj
    · exact ih j hj
theorem g_dist_4 {ro ro2 bu bu2 di di2 : Nat → Int} (h1 : k_4 ro ro2) (h2 : k_4 bu bu2) (h3 : k_4 di di2) : ∀ n, k_4 (g_dist ro bu di n) (g_dist ro2 bu2 di2 n)
  | 0 => h3
  | n + 1 => g_meas_4 h1 h2 (g_dist_4 h1 h2 h3 n) _ 4 (by decide)
theorem g_near_4 {di di2 : Nat → Int} (h : k_4 di di2) (f : Int) : g_near di f = g_near di2 f := by
  unfold g_near
  have : ∀ n, n ≤ 4 → g_nearN di f n = g_nearN di2 f n := by
    intro n
    induction n with
    | zero => intro _; rfl
    | succ n ih =>
      intro hn
      have ih := ih (by omega)
      have hr := g_nearN_r di f n
      show (ite _ _ _ : Int) = (ite _ _ _ : Int)
      have e1 := h n (by omega)
      unfold g_nearN at ih hr
      rw [← ih, e1]
      by_cases q : k_fold n (fun b a => if (z_bit f (b : Int) = true ∧ di b ≠ -1) ∧ (a = -1 ∨ di b < di a.toNat) then (b : Int) else a) (-1) = -1
      · rw [q]
        simp
      · rw [h _ (by omega)]
  exact this 4 (by decide)
theorem g_foldu4 {F G g g2 : Nat → Int} (h : ∀ b, b < 4 → F b = G b) : k_4 (k_fold 4 (fun b x => k_u1 x b (F b)) g) (k_fold 4 (fun b x => k_u1 x b (G b)) g2) := by
  intro j hj
  have : j = 0 ∨ j = 1 ∨ j = 2 ∨ j = 3 := by omega
  rcases this with rfl | rfl | rfl | rfl <;> simp [k_fold, k_u1, h]
theorem k_PlEq.few17 (h : k_PlEq τ σ) (s : Int) : k_4 (u_few τ s 17) (u_few σ s 17) := by
  refine g_dist_4 (g_foldu4 (fun b _ => h.roster _ _)) (g_foldu4 (fun b _ => h.busy _)) (g_foldu4 (F := fun b => if z_bit (f_roomy τ s 0) (b : Int) = true then 0 else -1) (G := fun b => if z_bit (f_roomy σ s 0) (b : Int) = true then 0 else -1) (fun b _ => ?_)) 3
  show (if z_bit (f_roomy τ s 0) (b : Int) = true then (0 : Int) else -1) = _
  rw [h.roomy]
theorem k_PlEq.few (h : k_PlEq τ σ) (s f : Int) : f_few τ s f = f_few σ s f := by
  have h4 := h.few17 s
  unfold f_few
  rw [g_near_4 h4]
  unfold f_read
  split
  · exact h4 _ (by omega)
  · rfl
theorem k_PlEq.freeQ (h : k_PlEq τ σ) (p a : Int) : f_freeQ τ p a = f_freeQ σ p a := by
  unfold f_freeQ
  rw [h.free, h.taken]
theorem k_PlEq.fault (h : k_PlEq τ σ) (m a b c : Int) : e_fault τ m a b c = e_fault σ m a b c := by
  have e1 := h.c1
  have e5 := h 5 (by decide)
  have e7 := h 7 (by decide)
  unfold e_fault
  split
  · unfold e_subject; rw [e1]
  · unfold e_blocks; simp only [h.opn]; rw [e1]
  · unfold e_open; rw [h.opn, e1]
  · unfold e_close; rw [h.opn, h.roster, e1]
  · unfold e_pupil; rw [e1]
  · unfold e_wish e_reserve; rw [h.wishSet, e1, e5, e7]
  · unfold e_reserve; rw [h.wishSet, e1, e7]
  · unfold e_enrol; rw [h.lessons, e1, e5]
  · unfold e_join e_joiner e_seek; rw [h.taken, h.free, h.few, e1]
  · unfold e_quit; rw [h.taken, e1]
  · unfold e_change e_chg e_seek; rw [h.taken, h.taken, h.freeQ, h.few, e1]
  · unfold e_arrange; rw [h.lessAll]
theorem u_seek_pl (s f : Int) : k_PlEq (u_seek σ s f) σ := by
  unfold u_seek
  split
  · exact (u_few_pl s).up (by decide)
  · exact u_few_pl s
theorem u_fault_pl (m a b c : Int) : k_PlEq (u_fault σ m a b c) σ := by
  unfold u_fault
  split
  · unfold u_joinE; split
    · exact u_seek_pl _ _
    · exact k_PlEq.refl
  · unfold u_changeE; split
    · exact u_seek_pl _ _
    · exact k_PlEq.refl
  · exact k_PlEq.refl
/-- cells that the search for a chain, and a refusal, leave -/
theorem u_seek_ne (s f : Int) {i : Nat} (h : i ≠ 15 ∧ i ≠ 16 ∧ i ≠ 17 ∧ i ≠ 23) : u_seek σ s f i = σ i := by
  unfold u_seek u_few u_fewN u_lookN
  split <;> simp [k_up, h.1, h.2.1, h.2.2.1, h.2.2.2]
theorem u_fault_cases {P : (Nat → Nat → Int) → Prop} {m a b c : Int} (h0 : P σ) (h8 : P (u_joinE σ a b)) (h10 : P (u_changeE σ a b c)) : P (u_fault σ m a b c) := by
  unfold u_fault
  split
  · exact h8
  · exact h10
  · exact h0
theorem u_fault_ne (m a b c : Int) {i : Nat} (h : i ≠ 15 ∧ i ≠ 16 ∧ i ≠ 17 ∧ i ≠ 23) : u_fault σ m a b c i = σ i := by
  refine u_fault_cases (P := fun τ => τ i = σ i) rfl ?_ ?_
  · show u_joinE σ a b i = σ i
    unfold u_joinE
    split
    · exact u_seek_ne _ _ h
    · rfl
  · show u_changeE σ a b c i = σ i
    unfold u_changeE
    split
    · exact u_seek_ne _ _ h
    · rfl
theorem u_seek_ch (hI : k_Ty σ) (hC : k_Ch σ) (s f : Int) : k_Ch (u_seek σ s f) := by
  have h := u_fewN_ch hI hC s 3 (by decide)
  unfold u_seek
  split
  · exact h
  · exact h
theorem u_fault_ch (hI : k_Ty σ) (hC : k_Ch σ) (m a b c : Int) : k_Ch (u_fault σ m a b c) := by
  unfold u_fault
  split
  · unfold u_joinE; split
    · exact u_seek_ch hI hC _ _
    · exact hC
  · unfold u_changeE; split
    · exact u_seek_ch hI hC _ _
    · exact hC
  · exact hC
theorem u_keepB_ne {B i : Nat} (hn : 0 ≤ σ 24 1 ∧ σ 24 1 < 8) (hi : i < 24 ∨ 98 ≤ i) : u_keepB σ B i = σ i := by
  unfold u_keepB
  rw [k_up_ne (by omega), u_copy_ne (by omega)]
theorem u_keepB_pl {B : Nat} (hn : 0 ≤ σ 24 1 ∧ σ 24 1 < 8) : k_PlEq (u_keepB σ B) σ := fun i hi => u_keepB_ne hn (by omega)
end K_CG
