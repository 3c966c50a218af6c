/-! ===== ARRANGEMENTS: the class's searches, and one that both are ===== -/
section K_R24
variable {σ ρ τ : Nat → Nat → Int} {r : Nat → Int} {cm : Nat → Int}
/-- what a subject in a block costs with those before it; what all cost -/
def a_row (cm : Nat → Int) (a : Nat → Int) (s : Nat) (b : Int) : Int := k_fold s (fun o x => x + if a o = b then cm (s * 7 + o) else 0) 0
def a_cost (cm : Nat → Int) (a : Nat → Int) (k : Nat) : Int := k_fold k (fun s x => x + a_row cm a s (a s)) 0
theorem a_row_cong {a a' : Nat → Int} {s : Nat} {b : Int} (h : ∀ o, o < s → a o = a' o) : a_row cm a s b = a_row cm a' s b := k_fold_cong s fun o ho x => by rw [h o ho]
theorem a_cost_cong {a a' : Nat → Int} {k : Nat} (h : ∀ o, o < k → a o = a' o) : a_cost cm a k = a_cost cm a' k := k_fold_cong k fun s hs x => by rw [h s hs, a_row_cong fun o ho => h o (by omega)]
theorem a_row_nn (hcm : ∀ j, 0 ≤ cm j ∧ cm j ≤ 12) (a : Nat → Int) (s : Nat) (b : Int) : ∀ n : Nat, 0 ≤ k_fold n (fun o x => x + if a o = b then cm (s * 7 + o) else 0) (0 : Int) ∧ k_fold n (fun o x => x + if a o = b then cm (s * 7 + o) else 0) (0 : Int) ≤ 12 * n
  | 0 => ⟨Int.le_refl 0, Int.le_refl 0⟩
  | n + 1 => by
    have := a_row_nn hcm a s b n
    have h := hcm (s * 7 + n)
    show 0 ≤ k_fold n (fun o x => x + if a o = b then cm (s * 7 + o) else 0) (0 : Int) + (if a n = b then cm (s * 7 + n) else 0) ∧ k_fold n (fun o x => x + if a o = b then cm (s * 7 + o) else 0) (0 : Int) + (if a n = b then cm (s * 7 + n) else 0) ≤ 12 * ((n + 1 : Nat) : Int)
    split <;> omega
theorem a_cost_s (a : Nat → Int) (k : Nat) : a_cost cm a (k + 1) = a_cost cm a k + a_row cm a k (a k) := rfl
theorem a_cost_r (hcm : ∀ j, 0 ≤ cm j ∧ cm j ≤ 12) (a : Nat → Int) : ∀ k : Nat, k ≤ 7 → 0 ≤ a_cost cm a k ∧ a_cost cm a k ≤ 84 * k
  | 0, _ => ⟨Int.le_refl 0, Int.le_refl 0⟩
  | k + 1, h => by
    have h1 := a_cost_r hcm a k (by omega)
    have h2 := a_row_nn hcm a k (a k) k
    rw [a_cost_s]
    have h3 : 0 ≤ a_row cm a k (a k) ∧ a_row cm a k (a k) ≤ 12 * k := h2
    omega
theorem a_cost_mono (hcm : ∀ j, 0 ≤ cm j ∧ cm j ≤ 12) (a : Nat → Int) (k : Nat) : ∀ n : Nat, a_cost cm a k ≤ a_cost cm a (k + n)
  | 0 => Int.le_refl _
  | n + 1 => by
    have h1 := a_cost_mono hcm a k n
    have h2 : 0 ≤ a_row cm a (k + n) (a (k + n)) := (a_row_nn hcm a (k + n) (a (k + n)) (k + n)).1
    rw [show k + (n + 1) = (k + n) + 1 by omega, a_cost_s]
    omega
/-- the class's weighing -/
theorem z_wz (s : Nat) (j : Nat) (ad : Nat → Int) : ∀ n : Nat, n ≤ 4 → g_wz (s : Int) n ad j = if 4 * s ≤ j ∧ j < 4 * s + n then 0 else ad j
  | 0, _ => (if_neg (by omega)).symm
  | n + 1, h => by
    show (if j = ((s : Int) * 4 + (n : Int)).toNat then 0 else g_wz (s : Int) n ad j) = _
    rw [z_wz s j ad n (by omega)]
    (repeat' split) <;> first | rfl | (exfalso; omega)
theorem z_ww (s : Nat) {tr : Nat → Int} (ad : Nat → Int) : ∀ n : Nat, (∀ o, o < n → 0 ≤ tr o ∧ tr o < 4) → (∀ b : Int, 0 ≤ b → b < 4 → g_ww cm tr (s : Int) n ad (4 * s + b.toNat) = ad (4 * s + b.toNat) + k_fold n (fun o x => x + if tr o = b then cm (s * 7 + o) else 0) 0) ∧ ∀ j, (j < 4 * s ∨ 4 * s + 4 ≤ j) → g_ww cm tr (s : Int) n ad j = ad j
  | 0, _ => ⟨fun b _ _ => (Int.add_zero _).symm, fun _ _ => rfl⟩
  | n + 1, h => by
    obtain ⟨i1, i2⟩ := z_ww s ad n fun o ho => h o (by omega)
    have hn := h n (by omega)
    have e : ∀ j, g_ww cm tr (s : Int) (n + 1) ad j = if j = ((s : Int) * 4 + tr n).toNat then g_ww cm tr (s : Int) n ad ((s : Int) * 4 + tr n).toNat + cm ((s : Int) * 7 + (n : Int)).toNat else g_ww cm tr (s : Int) n ad j := fun j => rfl
    refine ⟨fun b b0 b4 => ?_, fun j hj => ?_⟩
    · rw [e]
      show _ = ad (4 * s + b.toNat) + (k_fold n (fun o x => x + if tr o = b then cm (s * 7 + o) else 0) 0 + if tr n = b then cm (s * 7 + n) else 0)
      by_cases q : tr n = b
      · rw [if_pos (by omega), if_pos q, show ((s : Int) * 4 + tr n).toNat = 4 * s + b.toNat by omega, i1 b b0 b4, show ((s : Int) * 7 + (n : Int)).toNat = s * 7 + n by omega, Int.add_assoc]
      · rw [if_neg (by omega), if_neg q, i1 b b0 b4, Int.add_zero]
    · rw [e, if_neg (by omega)]
      exact i2 j hj
theorem z_weigh (s : Nat) {tr : Nat → Int} (ad : Nat → Int) (h : ∀ o, o < s → 0 ≤ tr o ∧ tr o < 4) : (∀ b : Int, 0 ≤ b → b < 4 → g_weigh cm tr (s : Int) ad (4 * s + b.toNat) = a_row cm tr s b) ∧ ∀ j, (j < 4 * s ∨ 4 * s + 4 ≤ j) → g_weigh cm tr (s : Int) ad j = ad j := by
  unfold g_weigh
  rw [Int.toNat_natCast]
  obtain ⟨i1, i2⟩ := z_ww (cm := cm) s (g_wz (s : Int) 4 ad) s h
  refine ⟨fun b b0 b4 => ?_, fun j hj => ?_⟩
  · rw [i1 b b0 b4, z_wz s _ ad 4 (Nat.le_refl 4), if_pos (by omega), Int.zero_add]
    rfl
  · rw [i2 j hj, z_wz s _ ad 4 (Nat.le_refl 4), if_neg (by omega)]
abbrev A_T : Type := (Nat → Int) × Int
def A_leaf (cm : Nat → Int) (N : Nat) (a : Nat → Int) (T : A_T) : A_T := if a_cost cm a N < T.2 then (a, a_cost cm a N) else T
def A_ext (cm : Nat → Int) (N B : Nat) : Nat → (Nat → Int) → A_T → A_T
  | 0, a, T => A_leaf cm N a T
  | n + 1, a, T => k_fold B (fun d T => A_ext cm N B n (k_u1 a (N - (n + 1)) (d : Int)) T) T
theorem A_no {N B : Nat} : ∀ (n : Nat) (a : Nat → Int) (T : A_T), n ≤ N → (∀ a' : Nat → Int, (∀ i, i < N - n → a' i = a i) → T.2 ≤ a_cost cm a' N) → A_ext cm N B n a T = T
  | 0, a, T, _, h => if_neg (by have := h a fun _ _ => rfl; omega)
  | n + 1, a, T, hn, h => by
    have hf : ∀ m : Nat, k_fold m (fun d T => A_ext cm N B n (k_u1 a (N - (n + 1)) (d : Int)) T) T = T := fun m => by
      induction m with
      | zero => rfl
      | succ m ih =>
        show A_ext cm N B n (k_u1 a (N - (n + 1)) (m : Int)) (k_fold m _ T) = T
        rw [ih]
        exact A_no n _ T (by omega) fun a' ha => h a' fun i hi => (ha i (by omega)).trans (if_neg (by omega))
    exact hf B
def A_Rel (N B : Nat) (S : g_B) (T : A_T) : Prop := S.2.2.2 = T.2 ∧ (T.2 ≠ 37 → ∀ i, i < N → S.2.1 i = T.1 i ∧ 0 ≤ T.1 i ∧ T.1 i < (B : Int))
theorem q_set (hcm : ∀ j, 0 ≤ cm j ∧ cm j ≤ 12) {N B : Nat} (hN : N ≤ 7) (hB : B ≤ 4) : ∀ (n : Nat) (a : Nat → Int) (c : Int) (S : g_B) (T : A_T), n ≤ N → (∀ i, i < N - n → 0 ≤ a i ∧ a i < (B : Int)) → (∀ i, i < N - n → S.1 i = a i) → c = a_cost cm a (N - n) → A_Rel N B S T → A_Rel N B (g_set cm (N : Int) B n c S) (A_ext cm N B n a T) ∧ (∀ i, i < N - n → (g_set cm (N : Int) B n c S).1 i = S.1 i) ∧ ∀ j, j < 4 * (N - n) → (g_set cm (N : Int) B n c S).2.2.1 j = S.2.2.1 j
  | 0, a, c, S, T, _, hr, hs, hc, hT => by
    show A_Rel N B (if c < S.2.2.2 then (S.1, S.1, S.2.2.1, c) else S) (A_leaf cm N a T) ∧ (∀ i, i < N → (if c < S.2.2.2 then (S.1, S.1, S.2.2.1, c) else S).1 i = S.1 i) ∧ ∀ j, j < 4 * N → (if c < S.2.2.2 then (S.1, S.1, S.2.2.1, c) else S).2.2.1 j = S.2.2.1 j
    unfold A_leaf
    rw [hT.1, hc, Nat.sub_zero]
    by_cases q : a_cost cm a N < T.2
    · rw [if_pos q, if_pos q]
      exact ⟨⟨rfl, fun _ i hi => ⟨hs i hi, hr i hi⟩⟩, fun _ _ => rfl, fun _ _ => rfl⟩
    · rw [if_neg q, if_neg q]
      exact ⟨hT, fun _ _ => rfl, fun _ _ => rfl⟩
  | n + 1, a, c, S, T, hn, hr, hs, hc, hT => by
    have ek : (N : Int) - ((n + 1 : Nat) : Int) = ((N - (n + 1) : Nat) : Int) := by omega
    have e : g_set cm (N : Int) B (n + 1) c S = if c < S.2.2.2 then k_fold B (fun b T => g_set cm (N : Int) B n (c + T.2.2.1 (((N : Int) - ((n + 1 : Nat) : Int)) * 4 + (b : Int)).toNat) (k_u1 T.1 ((N : Int) - ((n + 1 : Nat) : Int)).toNat (b : Int), T.2)) (S.1, S.2.1, g_weigh cm S.1 ((N : Int) - ((n + 1 : Nat) : Int)) S.2.2.1, S.2.2.2) else S := rfl
    rw [e, ek, Int.toNat_natCast]
    have eA : A_ext cm N B (n + 1) a T = k_fold B (fun d T => A_ext cm N B n (k_u1 a (N - (n + 1)) (d : Int)) T) T := rfl
    obtain ⟨k, hk⟩ : ∃ k, k = N - (n + 1) := ⟨_, rfl⟩
    rw [eA, ← hk]
    rw [← hk] at hr hs hc
    have hNn : N - n = k + 1 := by omega
    by_cases q : c < S.2.2.2
    · rw [if_pos q]
      obtain ⟨w1, w2⟩ := z_weigh (cm := cm) k S.2.2.1 (tr := S.1) fun o ho => by rw [hs o ho]; have := hr o ho; omega
      have hfold : ∀ m : Nat, m ≤ B → A_Rel N B (k_fold m (fun b T => g_set cm (N : Int) B n (c + T.2.2.1 ((k : Int) * 4 + (b : Int)).toNat) (k_u1 T.1 k (b : Int), T.2)) (S.1, S.2.1, g_weigh cm S.1 (k : Int) S.2.2.1, S.2.2.2)) (k_fold m (fun d T => A_ext cm N B n (k_u1 a k (d : Int)) T) T) ∧ (∀ i, i < k → (k_fold m (fun b T => g_set cm (N : Int) B n (c + T.2.2.1 ((k : Int) * 4 + (b : Int)).toNat) (k_u1 T.1 k (b : Int), T.2)) (S.1, S.2.1, g_weigh cm S.1 (k : Int) S.2.2.1, S.2.2.2)).1 i = S.1 i) ∧ ∀ j, j < 4 * (k + 1) → (k_fold m (fun b T => g_set cm (N : Int) B n (c + T.2.2.1 ((k : Int) * 4 + (b : Int)).toNat) (k_u1 T.1 k (b : Int), T.2)) (S.1, S.2.1, g_weigh cm S.1 (k : Int) S.2.2.1, S.2.2.2)).2.2.1 j = g_weigh cm S.1 (k : Int) S.2.2.1 j := fun m => by
        induction m with
        | zero => exact fun _ => ⟨hT, fun _ _ => rfl, fun _ _ => rfl⟩
        | succ m ih =>
          intro hm
          obtain ⟨i1, i2, i3⟩ := ih (by omega)
          have eS : k_fold (m + 1) (fun b T => g_set cm (N : Int) B n (c + T.2.2.1 ((k : Int) * 4 + (b : Int)).toNat) (k_u1 T.1 k (b : Int), T.2)) (S.1, S.2.1, g_weigh cm S.1 (k : Int) S.2.2.1, S.2.2.2) = (fun T : g_B => g_set cm (N : Int) B n (c + T.2.2.1 ((k : Int) * 4 + (m : Int)).toNat) (k_u1 T.1 k (m : Int), T.2)) (k_fold m (fun b T => g_set cm (N : Int) B n (c + T.2.2.1 ((k : Int) * 4 + (b : Int)).toNat) (k_u1 T.1 k (b : Int), T.2)) (S.1, S.2.1, g_weigh cm S.1 (k : Int) S.2.2.1, S.2.2.2)) := rfl
          have eT : k_fold (m + 1) (fun d T => A_ext cm N B n (k_u1 a k (d : Int)) T) T = A_ext cm N B n (k_u1 a k (m : Int)) (k_fold m (fun d T => A_ext cm N B n (k_u1 a k (d : Int)) T) T) := rfl
          rw [eS, eT]
          generalize k_fold m (fun b T => g_set cm (N : Int) B n (c + T.2.2.1 ((k : Int) * 4 + (b : Int)).toNat) (k_u1 T.1 k (b : Int), T.2)) (S.1, S.2.1, g_weigh cm S.1 (k : Int) S.2.2.1, S.2.2.2) = U at i1 i2 i3 ⊢
          generalize k_fold m (fun d T => A_ext cm N B n (k_u1 a k (d : Int)) T) T = T' at i1 ⊢
          dsimp only
          have hcost : c + U.2.2.1 ((k : Int) * 4 + (m : Int)).toNat = a_cost cm (k_u1 a k (m : Int)) (k + 1) := by
            rw [show ((k : Int) * 4 + (m : Int)).toNat = 4 * k + (m : Int).toNat by omega, i3 _ (by omega), w1 (m : Int) (by omega) (by omega), a_cost_s, show k_u1 a k (m : Int) k = (m : Int) from if_pos rfl, hc]
            rw [a_cost_cong (a := k_u1 a k (m : Int)) (a' := a) fun o ho => if_neg (by omega), a_row_cong (a := k_u1 a k (m : Int)) (a' := S.1) fun o ho => (if_neg (by omega)).trans (hs o ho).symm]
          have hx := q_set hcm hN hB n (k_u1 a k (m : Int)) (c + U.2.2.1 ((k : Int) * 4 + (m : Int)).toNat) (k_u1 U.1 k (m : Int), U.2) T' (by omega) (fun i hi => by
            unfold k_u1
            split
            · omega
            · exact hr i (by omega)) (fun i hi => by
            show k_u1 U.1 k (m : Int) i = k_u1 a k (m : Int) i
            unfold k_u1
            split
            · rfl
            · exact (i2 i (by omega)).trans (hs i (by omega))) (by rw [hcost, hNn]) i1
          rw [hNn] at hx
          exact ⟨hx.1, fun i hi => (hx.2.1 i (by omega)).trans ((if_neg (by omega)).trans (i2 i hi)), fun j hj => (hx.2.2 j hj).trans (i3 j hj)⟩
      obtain ⟨f1, f2, f3⟩ := hfold B (Nat.le_refl B)
      exact ⟨f1, f2, fun j hj => (f3 j (by omega)).trans (w2 j (by omega))⟩
    · rw [if_neg q]
      have := A_no (cm := cm) (N := N) (B := B) (n + 1) a T hn fun a' ha => by
        have h1 := a_cost_mono hcm a' k (n + 1)
        rw [show k + (n + 1) = N by omega, a_cost_cong (a := a') (a' := a) fun o ho => ha o (by omega)] at h1
        have := hT.1
        omega
      rw [eA, ← hk] at this
      rw [this]
      exact ⟨hT, fun _ _ => rfl, fun _ _ => rfl⟩
/-- the least by trial -/
def A_min (cm : Nat → Int) (N B : Nat) : Nat → (Nat → Int) → Int
  | 0, a => a_cost cm a N
  | n + 1, a => k_fold B (fun d x => z_min x (A_min cm N B n (k_u1 a (N - (n + 1)) (d : Int)))) 37
theorem A_ext_min {N B : Nat} : ∀ (n : Nat) (a : Nat → Int) (T : A_T), T.2 ≤ 37 → (A_ext cm N B n a T).2 = z_min T.2 (A_min cm N B n a)
  | 0, a, T, _ => by
    show (if a_cost cm a N < T.2 then (a, a_cost cm a N) else T).2 = z_min T.2 (a_cost cm a N)
    unfold z_min
    (repeat' split) <;> first | rfl | omega
  | n + 1, a, T, hT => by
    have hf : ∀ m : Nat, (k_fold m (fun d T => A_ext cm N B n (k_u1 a (N - (n + 1)) (d : Int)) T) T).2 = z_min T.2 (k_fold m (fun d x => z_min x (A_min cm N B n (k_u1 a (N - (n + 1)) (d : Int)))) 37) ∧ k_fold m (fun d x => z_min x (A_min cm N B n (k_u1 a (N - (n + 1)) (d : Int)))) 37 ≤ 37 := fun m => by
      induction m with
      | zero =>
        refine ⟨?_, Int.le_refl _⟩
        show T.2 = z_min T.2 37
        unfold z_min
        split <;> omega
      | succ m ih =>
        obtain ⟨i1, i2⟩ := ih
        show (A_ext cm N B n (k_u1 a (N - (n + 1)) (m : Int)) (k_fold m (fun d T => A_ext cm N B n (k_u1 a (N - (n + 1)) (d : Int)) T) T)).2 = z_min T.2 (z_min (k_fold m (fun d x => z_min x (A_min cm N B n (k_u1 a (N - (n + 1)) (d : Int)))) 37) (A_min cm N B n (k_u1 a (N - (n + 1)) (m : Int)))) ∧ z_min (k_fold m (fun d x => z_min x (A_min cm N B n (k_u1 a (N - (n + 1)) (d : Int)))) 37) (A_min cm N B n (k_u1 a (N - (n + 1)) (m : Int))) ≤ 37
        generalize k_fold m (fun d x => z_min x (A_min cm N B n (k_u1 a (N - (n + 1)) (d : Int)))) 37 = y at i1 i2 ⊢
        have hle : (k_fold m (fun d T => A_ext cm N B n (k_u1 a (N - (n + 1)) (d : Int)) T) T).2 ≤ 37 := by
          rw [i1]
          unfold z_min
          split <;> omega
        rw [A_ext_min n _ _ hle, i1]
        generalize A_min cm N B n (k_u1 a (N - (n + 1)) (m : Int)) = z
        unfold z_min
        refine ⟨?_, ?_⟩ <;> (repeat' split) <;> omega
    exact (hf B).1
theorem q_try {N B : Nat} (hN : N ≤ 7) (hB : B ≤ 4) : ∀ (n : Nat) (a : Nat → Int) (c : Int) (S : g_B), n ≤ N → (∀ i, i < N - n → 0 ≤ a i ∧ a i < 4) → (∀ i, i < N - n → S.1 i = a i) → c = a_cost cm a (N - n) → (g_try cm (N : Int) B n c S).1 = A_min cm N B n a ∧ (∀ i, i < N - n → (g_try cm (N : Int) B n c S).2.1 i = S.1 i) ∧ ∀ j, j < 4 * (N - n) → (g_try cm (N : Int) B n c S).2.2.2.1 j = S.2.2.1 j
  | 0, a, c, S, _, hr, hs, hc => ⟨hc, fun _ _ => rfl, fun _ _ => rfl⟩
  | n + 1, a, c, S, hn, hr, hs, hc => by
    have ek : (N : Int) - ((n + 1 : Nat) : Int) = ((N - (n + 1) : Nat) : Int) := by omega
    have e : g_try cm (N : Int) B (n + 1) c S = k_fold B (fun b T => (z_min T.1 (g_try cm (N : Int) B n (c + T.2.2.2.1 (((N : Int) - ((n + 1 : Nat) : Int)) * 4 + (b : Int)).toNat) (k_u1 T.2.1 ((N : Int) - ((n + 1 : Nat) : Int)).toNat (b : Int), T.2.2)).1, (g_try cm (N : Int) B n (c + T.2.2.2.1 (((N : Int) - ((n + 1 : Nat) : Int)) * 4 + (b : Int)).toNat) (k_u1 T.2.1 ((N : Int) - ((n + 1 : Nat) : Int)).toNat (b : Int), T.2.2)).2)) (37, (S.1, S.2.1, g_weigh cm S.1 ((N : Int) - ((n + 1 : Nat) : Int)) S.2.2.1, S.2.2.2)) := rfl
    rw [e, ek, Int.toNat_natCast]
    have eA : A_min cm N B (n + 1) a = k_fold B (fun d x => z_min x (A_min cm N B n (k_u1 a (N - (n + 1)) (d : Int)))) 37 := rfl
    obtain ⟨k, hk⟩ : ∃ k, k = N - (n + 1) := ⟨_, rfl⟩
    rw [eA, ← hk]
    rw [← hk] at hr hs hc
    have hNn : N - n = k + 1 := by omega
    obtain ⟨w1, w2⟩ := z_weigh (cm := cm) k S.2.2.1 (tr := S.1) fun o ho => by rw [hs o ho]; exact hr o ho
    have hfold : ∀ m : Nat, m ≤ B → ∀ F : Nat → Int × g_B → Int × g_B, F = (fun (b : Nat) (T : Int × g_B) => (z_min T.1 (g_try cm (N : Int) B n (c + T.2.2.2.1 ((k : Int) * 4 + (b : Int)).toNat) (k_u1 T.2.1 k (b : Int), T.2.2)).1, (g_try cm (N : Int) B n (c + T.2.2.2.1 ((k : Int) * 4 + (b : Int)).toNat) (k_u1 T.2.1 k (b : Int), T.2.2)).2)) → (k_fold m F (37, (S.1, S.2.1, g_weigh cm S.1 (k : Int) S.2.2.1, S.2.2.2))).1 = k_fold m (fun d x => z_min x (A_min cm N B n (k_u1 a k (d : Int)))) 37 ∧ (∀ i, i < k → (k_fold m F (37, (S.1, S.2.1, g_weigh cm S.1 (k : Int) S.2.2.1, S.2.2.2))).2.1 i = S.1 i) ∧ ∀ j, j < 4 * (k + 1) → (k_fold m F (37, (S.1, S.2.1, g_weigh cm S.1 (k : Int) S.2.2.1, S.2.2.2))).2.2.2.1 j = g_weigh cm S.1 (k : Int) S.2.2.1 j := fun m => by
      induction m with
      | zero => exact fun _ F _ => ⟨rfl, fun _ _ => rfl, fun _ _ => rfl⟩
      | succ m ih =>
        intro hm F hF
        obtain ⟨i1, i2, i3⟩ := ih (by omega) F hF
        have eS : k_fold (m + 1) F (37, (S.1, S.2.1, g_weigh cm S.1 (k : Int) S.2.2.1, S.2.2.2)) = F m (k_fold m F (37, (S.1, S.2.1, g_weigh cm S.1 (k : Int) S.2.2.1, S.2.2.2))) := rfl
        have eT : k_fold (m + 1) (fun d x => z_min x (A_min cm N B n (k_u1 a k (d : Int)))) 37 = z_min (k_fold m (fun d x => z_min x (A_min cm N B n (k_u1 a k (d : Int)))) 37) (A_min cm N B n (k_u1 a k (m : Int))) := rfl
        rw [eS, eT, ← i1]
        generalize k_fold m F (37, (S.1, S.2.1, g_weigh cm S.1 (k : Int) S.2.2.1, S.2.2.2)) = U at i1 i2 i3 ⊢
        rw [hF]
        dsimp only
        have hcost : c + U.2.2.2.1 ((k : Int) * 4 + (m : Int)).toNat = a_cost cm (k_u1 a k (m : Int)) (k + 1) := by
          rw [show ((k : Int) * 4 + (m : Int)).toNat = 4 * k + (m : Int).toNat by omega, i3 _ (by omega), w1 (m : Int) (by omega) (by omega), a_cost_s, show k_u1 a k (m : Int) k = (m : Int) from if_pos rfl, hc]
          rw [a_cost_cong (a := k_u1 a k (m : Int)) (a' := a) fun o ho => if_neg (by omega), a_row_cong (a := k_u1 a k (m : Int)) (a' := S.1) fun o ho => (if_neg (by omega)).trans (hs o ho).symm]
        have hx := q_try hN hB n (k_u1 a k (m : Int)) (c + U.2.2.2.1 ((k : Int) * 4 + (m : Int)).toNat) (k_u1 U.2.1 k (m : Int), U.2.2) (by omega) (fun i hi => by
          unfold k_u1
          split
          · omega
          · exact hr i (by omega)) (fun i hi => by
          show k_u1 U.2.1 k (m : Int) i = k_u1 a k (m : Int) i
          unfold k_u1
          split
          · rfl
          · exact (i2 i (by omega)).trans (hs i (by omega))) (by rw [hcost, hNn])
        rw [hNn] at hx
        exact ⟨by rw [hx.1], fun i hi => (hx.2.1 i (by omega)).trans ((if_neg (by omega)).trans (i2 i hi)), fun j hj => (hx.2.2 j hj).trans (i3 j hj)⟩
    obtain ⟨f1, f2, f3⟩ := hfold B (Nat.le_refl B) _ rfl
    exact ⟨f1, f2, fun j hj => (f3 j (by omega)).trans (w2 j (by omega))⟩
/-- the most that an arrangement can cost: three pairs a pupil -/
def z_pp (f : Nat → Nat → Int) (k : Nat) : Int := z_sum k (fun s => z_sum s (f s))
theorem z_pp_le {f g : Nat → Nat → Int} (k : Nat) (h : ∀ s o, s < k → o < s → f s o ≤ g s o) : z_pp f k ≤ z_pp g k := z_sum_le k fun s hs => z_sum_le s fun o ho => h s o hs ho
theorem z_pp_add (f g : Nat → Nat → Int) (k : Nat) : z_pp (fun s o => f s o + g s o) k = z_pp f k + z_pp g k := by
  have h : ∀ s, z_sum s (fun o => f s o + g s o) = z_sum s (f s) + z_sum s (g s) := fun s => z_sum_add (f s) (g s) s
  unfold z_pp
  rw [← z_sum_add]
  exact z_sum_cong k fun s _ => h s
theorem z_pp_cost (hcm : ∀ j, 0 ≤ cm j) (a : Nat → Int) (k : Nat) : a_cost cm a k ≤ z_pp (fun s o => cm (s * 7 + o)) k := by
  show z_sum k (fun s => a_row cm a s (a s)) ≤ _
  refine z_sum_le k fun s _ => ?_
  show z_sum s (fun o => if a o = a s then cm (s * 7 + o) else 0) ≤ z_sum s (fun o => cm (s * 7 + o))
  refine z_sum_le s fun o _ => ?_
  have := hcm (s * 7 + o)
  split <;> omega
theorem z_pp_dec : ∀ x0 x1 x2 : Fin 7, z_pp (fun s o => zb ((s = x0.val ∨ s = x1.val ∨ s = x2.val) ∧ (o = x0.val ∨ o = x1.val ∨ o = x2.val))) 7 ≤ 3 := by decide +kernel
theorem z_pp3 (w : Int) (x0 x1 x2 : Fin 7) (hw : ∀ s : Nat, s < 7 → z_bit w (s : Int) = true → s = x0.val ∨ s = x1.val ∨ s = x2.val) : z_pp (fun s o => zb (z_bit w (s : Int) = true ∧ z_bit w (o : Int) = true)) 7 ≤ 3 := by
  refine Int.le_trans (z_pp_le (g := fun s o => zb ((s = x0.val ∨ s = x1.val ∨ s = x2.val) ∧ (o = x0.val ∨ o = x1.val ∨ o = x2.val))) 7 fun s o hs ho => ?_) (z_pp_dec x0 x1 x2)
  by_cases q : z_bit w (s : Int) = true ∧ z_bit w (o : Int) = true
  · rw [zb_t q, zb_t ⟨hw s hs q.1, hw o (by omega) q.2⟩]
    exact Int.le_refl 1
  · rw [zb_f q]
    exact (zb_r _).1
theorem z_wish3 (hI : k_Ty σ) (p : Nat) : z_pp (fun s o => zb (z_bit (f_wishSet σ (p : Int)) (s : Int) = true ∧ z_bit (f_wishSet σ (p : Int)) (o : Int) = true)) 7 ≤ 3 := by
  have h5 := hI.2.2.2.2.2.2.1 ((p : Int)).toNat
  have h6 := fun i : Nat => hI.2.2.2.2.2.2.2.1 ((p : Int) * 3 + (i : Int)).toNat
  refine z_pp3 _ ⟨(σ 6 ((p : Int) * 3 + ((0 : Nat) : Int)).toNat).toNat, by have := h6 0; omega⟩ ⟨(σ 6 ((p : Int) * 3 + ((1 : Nat) : Int)).toNat).toNat, by have := h6 1; omega⟩ ⟨(σ 6 ((p : Int) * 3 + ((2 : Nat) : Int)).toNat).toNat, by have := h6 2; omega⟩ fun s hs hb => ?_
  obtain ⟨k, hk, e⟩ := (z_wishN σ hI (p : Int) (s : Int) (Int.natCast_nonneg s) (σ 5 ((p : Int)).toNat).toNat).mp hb
  have hk3 : k = 0 ∨ k = 1 ∨ k = 2 := by omega
  rcases hk3 with rfl | rfl | rfl
  · exact Or.inl ((Int.toNat_natCast s).symm.trans (congrArg Int.toNat e.symm))
  · exact Or.inr (Or.inl ((Int.toNat_natCast s).symm.trans (congrArg Int.toNat e.symm)))
  · exact Or.inr (Or.inr ((Int.toNat_natCast s).symm.trans (congrArg Int.toNat e.symm)))
theorem z_both3 (hI : k_Ty σ) : ∀ n : Nat, z_pp (fun s o => f_bothN σ (s : Int) (o : Int) n) 7 ≤ 3 * n
  | 0 => by
    show z_pp (fun _ _ => (0 : Int)) 7 ≤ 3 * ((0 : Nat) : Int)
    decide
  | n + 1 => by
    have e : z_pp (fun s o => f_bothN σ (s : Int) (o : Int) (n + 1)) 7 = z_pp (fun s o => f_bothN σ (s : Int) (o : Int) n) 7 + z_pp (fun s o => zb (z_bit (f_wishSet σ (n : Int)) (s : Int) = true ∧ z_bit (f_wishSet σ (n : Int)) (o : Int) = true)) 7 := z_pp_add (fun s o => f_bothN σ (s : Int) (o : Int) n) (fun s o => zb (z_bit (f_wishSet σ (n : Int)) (s : Int) = true ∧ z_bit (f_wishSet σ (n : Int)) (o : Int) = true)) 7
    rw [e]
    refine Int.le_trans (Int.add_le_add (z_both3 hI n) (z_wish3 hI n)) ?_
    omega
theorem a_cost36 (hI : k_Ty σ) (hA : ∀ j, 0 ≤ σ 19 j ∧ σ 19 j ≤ 12) (a : Nat → Int) {N : Nat} (hN : N ≤ 7) : a_cost (g_comm σ (σ 1 2).toNat) a N ≤ 36 := by
  have hcm := g_comm_r hI hA
  have h1 := a_cost_mono hcm a N (7 - N)
  rw [show N + (7 - N) = 7 by omega] at h1
  have h2 := z_pp_cost (fun j => (hcm j).1) a 7
  have h3 : z_pp (fun s o => g_comm σ (σ 1 2).toNat (s * 7 + o)) 7 ≤ z_pp (fun s o => f_bothN σ (s : Int) (o : Int) (σ 1 2).toNat) 7 := z_pp_le 7 fun s o hs ho => Int.le_of_eq (g_comm_eq σ _ s o hs (by omega))
  have h4 := z_both3 hI (σ 1 2).toNat
  have h5 := hI.2.2.1
  exact Int.le_trans h1 (Int.le_trans h2 (Int.le_trans h3 (Int.le_trans h4 (by omega))))
end K_R24
