/-! ===== THE MAKING: constructors ===== -/
section K_CO
variable {E : k_E} {M M1 : k_M} {dp d1 pc k n k1 n1 na : Nat} {ls : List (Nat × Value)} {st as : List Value} {sh L T : List k_Sh} {σ σ' τ : Nat → Nat → Int} {Q Q1 : k_Q} {o : Option Value}
theorem k_codeobj : Cond.code Lib.objectInit ⟨#[0xb1]⟩ 1 none ∈ k_TBL := List.mem_filter.mpr ⟨List.mem_of_getElem? (i := 56) (by decide +kernel), rfl⟩
/-- the world while it is made: refs point into it, and behind it all is 0 -/
def k_I (sh : List k_Sh) (σ : Nat → Nat → Int) : Prop := k_ok sh σ ∧ ∀ i, sh.length ≤ i → σ i = fun _ => 0
theorem k_okv_mono {N N2 : Nat} (h : N ≤ N2) {v : Value} (hv : k_okv N v) : k_okv N2 v := by
  cases v with
  | ref k =>
    have hv : k < N ∨ 1000000 ≤ k := hv
    exact hv.imp (fun q => Nat.lt_of_lt_of_le q h) id
  | _ => trivial
theorem k_okc_mono {N N2 : Nat} (h : N ≤ N2) {x : k_Sh} {f : Nat → Int} (hv : k_okc N x f) : k_okc N2 x f := by
  match x, hv with
  | .inl (0, _), _ => trivial
  | .inl (1, _), _ => trivial
  | .inl (2, _), _ => trivial
  | .inl (3, _), _ => trivial
  | .inl (4, _), _ => trivial
  | .inl (5, _), hv => exact fun j => (hv j).imp id (k_okv_mono h)
  | .inl (6, _), hv => exact fun j => (hv j).imp id (k_okv_mono h)
  | .inl (_ + 7, _), _ => trivial
  | .inr (_, _), hv => exact fun k c hc => k_okv_mono h (hv k c hc)
theorem k_okc_new (N : Nat) : ∀ x : k_Sh, (∀ ci cs, x = .inr (ci, cs) → ∀ c ∈ cs, c = 0 ∨ c = 2) → k_okc N x (fun _ => 0)
  | .inl (0, _), _ => trivial
  | .inl (1, _), _ => trivial
  | .inl (2, _), _ => trivial
  | .inl (3, _), _ => trivial
  | .inl (4, _), _ => trivial
  | .inl (5, _), _ => fun _ => Or.inl rfl
  | .inl (6, _), _ => fun _ => Or.inl rfl
  | .inl (_ + 7, _), _ => trivial
  | .inr (ci, cs), h => fun k c hc => by
    rcases h ci cs rfl c (List.mem_of_getElem? hc) with rfl | rfl <;> trivial
theorem k_I_push (h : k_I sh σ) {x : k_Sh} (hx : ∀ ci cs, x = .inr (ci, cs) → ∀ c ∈ cs, c = 0 ∨ c = 2) : k_I (sh ++ [x]) σ ∧ k_up σ sh.length (fun _ => 0) = σ := by
  refine ⟨⟨fun i y hy => ?_, fun i hi => h.2 i (by rw [List.length_append] at hi; omega)⟩, ?_⟩
  · rw [List.length_append]
    rcases Nat.lt_or_ge i sh.length with q | q
    · rw [List.getElem?_append_left q] at hy
      exact k_okc_mono (Nat.le_add_right _ _) (h.1 i y hy)
    · rw [List.getElem?_append_right q] at hy
      have : y = x := by
        rcases Nat.eq_zero_or_pos (i - sh.length) with e | e
        · rw [e] at hy
          cases hy
          rfl
        · rw [List.getElem?_eq_none (by rw [List.length_singleton]; omega)] at hy
          cases hy
      subst this
      rw [h.2 i q]
      exact k_okc_new _ _ hx
  · funext i
    by_cases e : i = sh.length
    · subst e
      rw [k_up_same, h.2 _ (Nat.le_refl _)]
    · rw [k_up_ne e]
theorem k_get_mid (L T : List k_Sh) (x : k_Sh) : (L ++ (x :: T))[L.length]? = some x := by
  rw [List.getElem?_append_right (Nat.le_refl _), Nat.sub_self]
  rfl
theorem k_set_mid (L T : List k_Sh) (x y : k_Sh) : (L ++ (x :: T)).set L.length y = L ++ (y :: T) := by
  rw [List.set_append, if_neg (Nat.lt_irrefl _), Nat.sub_self]
  rfl
theorem k_I_set {a ci kf r : Nat} {cs : List Nat} (h : k_I sh σ) (hs : sh[a]? = some (.inr (ci, cs))) (hr : r < sh.length) : k_I (sh.set a (.inr (ci, cs.set kf (r + 3)))) σ := by
  refine ⟨fun i y hy => ?_, fun i hi => h.2 i (by rw [List.length_set] at hi; exact hi)⟩
  rw [List.length_set]
  rw [List.getElem?_set] at hy
  by_cases e : a = i
  · subst e
    rw [if_pos rfl] at hy
    split at hy
    · cases hy
      intro k c hc
      rw [List.getElem?_set] at hc
      by_cases e2 : kf = k
      · subst e2
        rw [if_pos rfl] at hc
        split at hc
        · cases hc
          exact Or.inl hr
        · cases hc
      · rw [if_neg e2] at hc
        exact h.1 a _ hs k c hc
    · cases hy
  · rw [if_neg e] at hy
    exact h.1 i y hy
theorem k_I_int {a ci kf : Nat} {cs : List Nat} {v : Int} (h : k_I sh σ) (hs : sh[a]? = some (.inr (ci, cs))) (hc : cs[kf]? = some 0) : k_I sh (k_up σ a (k_u1 (σ a) kf v)) := by
  have hl : a < sh.length := (List.getElem?_eq_some_iff.mp hs).1
  refine ⟨fun i y hy => ?_, fun i hi => by rw [k_up_ne (by omega)]; exact h.2 i hi⟩
  by_cases e : i = a
  · subst e
    rw [k_up_same]
    rw [hs] at hy
    cases hy
    intro k c hk
    by_cases e2 : k = kf
    · subst e2
      rw [hc] at hk
      cases hk
      trivial
    · have := h.1 i _ hs k c hk
      rw [show k_u1 (σ i) kf v k = σ i k from if_neg e2]
      exact this
  · rw [k_up_ne e]
    exact h.1 i y hy
theorem k_okl_mono {N N2 : Nat} (h : N ≤ N2) (hl : k_okl N ls st) : k_okl N2 ls st := ⟨fun z hz => k_okv_mono h (hl.1 z hz), fun v hv => k_okv_mono h (hl.2 v hv)⟩
/-- a row of ints, made and put into its field -/
theorem k_rowI {idx ci kf N w : Nat} {i : Int} {cs cs' : List Nat} {T' : List k_Sh} {C : String} {Tf : u_T} {ty : Nat → FieldType} (hd : decode M.2.1 pc = .ok (.newarray .int, 2)) (hd2 : decode M.2.1 (pc + 2) = .ok (.putfield idx, 3)) (hT : k_Cls ci C Tf N ty) (hw : Cond.fieldLink M.1.cls idx (Tf kf).1 (Tf kf).2.1 (Tf kf).2.2.1 ∈ k_TBL) (hkf : kf < N) (hk : kf < cs.length) (hfin : (Tf kf).2.2.2 = true) (hin : M.1.name = "<init>") (hdc : (Tf kf).1 = M.1.cls) (hn : ∀ x, narrow (ty kf) (.ref x) = .ref x) (hfit : ∀ x, fits (ty kf) (.ref x) = true) (harr : Cond.arrayClass .int ∈ k_TBL) (hi : i = (w : Int)) (hw16 : w < 65536) (hN : L.length < 900000 ∧ T.length < 10000) (hI : k_I (L ++ (.inr (ci, cs) :: T)) σ) (hl : k_okl (L.length + 1) ls st) (hcs' : cs.set kf (L.length + (1 + T.length) + 3) = cs') (hT' : T ++ [.inl (0, w)] = T')
    (kk : k_I (L ++ (.inr (ci, cs') :: T')) σ → k_V E M dp (pc + 5) ls st (L ++ (.inr (ci, cs') :: T')) σ k n Q) : k_V E M dp pc ls (.int (iI i) :: .ref L.length :: st) (L ++ (.inr (ci, cs) :: T)) σ (k + 1) (n + w) Q := by
  subst hcs' hT'
  have hlen : (L ++ ((.inr (ci, cs) : k_Sh) :: T)).length = L.length + (1 + T.length) := by rw [List.length_append, List.length_cons]; omega
  have hl2 := k_okl_mono (N2 := (L ++ ((.inr (ci, cs) : k_Sh) :: T)).length) (by omega) hl
  have hp := k_I_push hI (x := .inl (0, w)) (fun _ _ h => by cases h)
  refine k_newa0 hd harr hi hw16 (by omega) hI.1 hl2.1 (fun v hv => ?_) ?_
  · rcases List.mem_cons.mp hv with rfl | hv
    · exact Or.inl (by show L.length < _; rw [hlen]; omega)
    · exact hl2.2 v hv
  · have e : (L ++ ((.inr (ci, cs) : k_Sh) :: T)) ++ [.inl (0, w)] = L ++ (.inr (ci, cs) :: (T ++ [.inl (0, w)])) := List.append_assoc _ _ _
    have hp1 := hp.1
    rw [hp.2, e]
    rw [e] at hp1
    have hs := k_get_mid L (T ++ [.inl (0, w)]) (.inr (ci, cs))
    refine k_putFr hd2 hT hw hkf (by omega) hs hk hfin hin hdc (by omega) hn hfit ?_
    have h2 := k_I_set (kf := kf) (r := L.length + (1 + T.length)) hp1 hs (by rw [List.length_append, List.length_cons, List.length_append, List.length_singleton]; omega)
    rw [k_set_mid] at h2
    rw [hlen, k_set_mid]
    exact kk h2
theorem k_refF {idx ci kf N r : Nat} {cs cs' : List Nat} {C : String} {Tf : u_T} {ty : Nat → FieldType} (hd2 : decode M.2.1 pc = .ok (.putfield idx, 3)) (hT : k_Cls ci C Tf N ty) (hw : Cond.fieldLink M.1.cls idx (Tf kf).1 (Tf kf).2.1 (Tf kf).2.2.1 ∈ k_TBL) (hkf : kf < N) (hk : kf < cs.length) (hfin : (Tf kf).2.2.2 = true) (hin : M.1.name = "<init>") (hdc : (Tf kf).1 = M.1.cls) (hn : ∀ x, narrow (ty kf) (.ref x) = .ref x) (hfit : ∀ x, fits (ty kf) (.ref x) = true) (hN : L.length < 900000 ∧ T.length < 10000) (hI : k_I (L ++ (.inr (ci, cs) :: T)) σ) (hr : r < L.length + (1 + T.length)) (hcs' : cs.set kf (r + 3) = cs')
    (kk : k_I (L ++ (.inr (ci, cs') :: T)) σ → k_V E M dp (pc + 3) ls st (L ++ (.inr (ci, cs') :: T)) σ k n Q) : k_V E M dp pc ls (.ref r :: .ref L.length :: st) (L ++ (.inr (ci, cs) :: T)) σ k n Q := by
  subst hcs'
  have hs := k_get_mid L T (.inr (ci, cs))
  refine k_putFr hd2 hT hw hkf (by omega) hs hk hfin hin hdc (by omega) hn hfit ?_
  have h2 := k_I_set (kf := kf) (r := r) hI hs (by rw [List.length_append, List.length_cons]; omega)
  rw [k_set_mid] at h2
  rw [k_set_mid]
  exact kk h2
theorem k_intF {idx ci kf N : Nat} {cs : List Nat} {C : String} {Tf : u_T} {ty : Nat → FieldType} {z : Int} (hd : decode M.2.1 pc = .ok (.putfield idx, 3)) (hT : k_Cls ci C Tf N ty) (hw : Cond.fieldLink M.1.cls idx (Tf kf).1 (Tf kf).2.1 (Tf kf).2.2.1 ∈ k_TBL) (hkf : kf < N) (hc : cs[kf]? = some 0) (hfin : (Tf kf).2.2.2 = false) (hn : narrow (ty kf) (.int (iI z)) = .int (iI z)) (hfit : fits (ty kf) (.int (iI z)) = true) (hN : L.length < 900000) (hI : k_I (L ++ (.inr (ci, cs) :: T)) σ)
    (kk : k_I (L ++ (.inr (ci, cs) :: T)) (k_up σ L.length (k_u1 (σ L.length) kf z)) → k_V E M dp (pc + 3) ls st (L ++ (.inr (ci, cs) :: T)) (k_up σ L.length (k_u1 (σ L.length) kf z)) k n Q) : k_V E M dp pc ls (.int (iI z) :: .ref L.length :: st) (L ++ (.inr (ci, cs) :: T)) σ k n Q := by
  have hs := k_get_mid L T (.inr (ci, cs))
  exact k_putf hd hT hw hkf (by omega) hs hc hfin hn hfit (kk (k_I_int hI hs hc))
theorem k_okl1 {N : Nat} : k_okl (N + 1) [(0, .ref N)] [] := by
  refine ⟨fun z hz => ?_, fun v hv => by cases hv⟩
  rcases List.mem_cons.mp hz with rfl | hz
  · exact Or.inl (Nat.lt_succ_self N)
  · cases hz
theorem k_okl2 {N p : Nat} (hp : p < N) : k_okl (N + 1) [(0, .ref N), (1, .ref p)] [] := by
  refine ⟨fun z hz => ?_, fun v hv => by cases hv⟩
  rcases List.mem_cons.mp hz with rfl | hz
  · exact Or.inl (Nat.lt_succ_self N)
  · rcases List.mem_cons.mp hz with rfl | hz
    · exact Or.inl (Nat.lt_succ_of_lt hp)
    · cases hz
/-- a plan at A, with its rows behind it -/
def k_planS (A : Nat) : List k_Sh := [.inr (6, [0, 0, 0, A + 4, A + 5, A + 6, A + 7, A + 8, A + 9, 0, A + 10, A + 11]), .inl (0, 7), .inl (0, 7), .inl (0, 28), .inl (0, 12), .inl (0, 36), .inl (0, 12), .inl (0, 4), .inl (0, 4)]
def u_plan0 (σ : Nat → Nat → Int) (A : Nat) : Nat → Nat → Int := k_up (k_up σ A (k_u1 (σ A) 1 3)) A (k_u1 (k_up σ A (k_u1 (σ A) 1 3) A) 9 (-1))
set_option maxHeartbeats 4000000 in
theorem c_planInit (hN : L.length < 900000) (hI : k_I (L ++ [.inr (6, [0, 0, 0, 2, 2, 2, 2, 2, 2, 0, 2, 2])]) σ) : k_C E mX5_init 2 [.ref L.length] (L ++ [.inr (6, [0, 0, 0, 2, 2, 2, 2, 2, 2, 0, 2, 2])]) σ 8 110 (fun r sh' σ' => r = .inl none ∧ sh' = L ++ k_planS L.length ∧ σ' = u_plan0 σ L.length ∧ k_I sh' σ') := by
  refine k_C_of (ls0 := [(0, .ref L.length)]) rfl pnX5 (fun v hv => k_cat1 rfl hv) (Nat.le_of_ble_eq_true rfl) rfl ?_
  refine k_aload_n dX5_init_0 0 rfl rfl (by omega) ?_
  refine k_objI dX5_init_1 w_130 w_123 k_codeobj (by omega) (Nat.le_of_ble_eq_true rfl) (by omega) ?_
  refine k_aload_n dX5_init_4 0 rfl rfl (by omega) ?_
  refine k_iconst (v := 3) dX5_init_5 rfl ?_
  refine k_intF (kf := 1) dX5_init_6 kcX5 w_135 (by decide) rfl rfl rfl rfl (by omega) hI (fun hI => ?_)
  refine k_aload_n dX5_init_9 0 rfl rfl (by omega) ?_
  refine k_bipush (v := 7) dX5_init_10 (by decide) ?_
  refine k_rowI (kf := 3) (w := 7) (cs' := [0, 0, 0, L.length + 4, 2, 2, 2, 2, 2, 0, 2, 2]) (T' := [.inl (0, 7)]) dX5_init_12 dX5_init_14 kcX5 w_142 (by decide) (Nat.le_of_ble_eq_true rfl) rfl rfl rfl (fun x => rfl) (fun x => rfl) w_186 rfl (by decide) ⟨by omega, by decide⟩ hI k_okl1 rfl rfl (fun hI => ?_)
  refine k_aload_n dX5_init_17 0 rfl rfl (by omega) ?_
  refine k_bipush (v := 7) dX5_init_18 (by decide) ?_
  refine k_rowI (kf := 4) (w := 7) (cs' := [0, 0, 0, L.length + 4, L.length + 5, 2, 2, 2, 2, 0, 2, 2]) (T' := [.inl (0, 7), .inl (0, 7)]) dX5_init_20 dX5_init_22 kcX5 w_144 (by decide) (Nat.le_of_ble_eq_true rfl) rfl rfl rfl (fun x => rfl) (fun x => rfl) w_186 rfl (by decide) ⟨by omega, by decide⟩ hI k_okl1 rfl rfl (fun hI => ?_)
  refine k_aload_n dX5_init_25 0 rfl rfl (by omega) ?_
  refine k_bipush (v := 28) dX5_init_26 (by decide) ?_
  refine k_rowI (kf := 5) (w := 28) (cs' := [0, 0, 0, L.length + 4, L.length + 5, L.length + 6, 2, 2, 2, 0, 2, 2]) (T' := [.inl (0, 7), .inl (0, 7), .inl (0, 28)]) dX5_init_28 dX5_init_30 kcX5 w_145 (by decide) (Nat.le_of_ble_eq_true rfl) rfl rfl rfl (fun x => rfl) (fun x => rfl) w_186 rfl (by decide) ⟨by omega, by decide⟩ hI k_okl1 rfl rfl (fun hI => ?_)
  refine k_aload_n dX5_init_33 0 rfl rfl (by omega) ?_
  refine k_bipush (v := 12) dX5_init_34 (by decide) ?_
  refine k_rowI (kf := 6) (w := 12) (cs' := [0, 0, 0, L.length + 4, L.length + 5, L.length + 6, L.length + 7, 2, 2, 0, 2, 2]) (T' := [.inl (0, 7), .inl (0, 7), .inl (0, 28), .inl (0, 12)]) dX5_init_36 dX5_init_38 kcX5 w_146 (by decide) (Nat.le_of_ble_eq_true rfl) rfl rfl rfl (fun x => rfl) (fun x => rfl) w_186 rfl (by decide) ⟨by omega, by decide⟩ hI k_okl1 rfl rfl (fun hI => ?_)
  refine k_aload_n dX5_init_41 0 rfl rfl (by omega) ?_
  refine k_bipush (v := 36) dX5_init_42 (by decide) ?_
  refine k_rowI (kf := 7) (w := 36) (cs' := [0, 0, 0, L.length + 4, L.length + 5, L.length + 6, L.length + 7, L.length + 8, 2, 0, 2, 2]) (T' := [.inl (0, 7), .inl (0, 7), .inl (0, 28), .inl (0, 12), .inl (0, 36)]) dX5_init_44 dX5_init_46 kcX5 w_150 (by decide) (Nat.le_of_ble_eq_true rfl) rfl rfl rfl (fun x => rfl) (fun x => rfl) w_186 rfl (by decide) ⟨by omega, by decide⟩ hI k_okl1 rfl rfl (fun hI => ?_)
  refine k_aload_n dX5_init_49 0 rfl rfl (by omega) ?_
  refine k_bipush (v := 12) dX5_init_50 (by decide) ?_
  refine k_rowI (kf := 8) (w := 12) (cs' := [0, 0, 0, L.length + 4, L.length + 5, L.length + 6, L.length + 7, L.length + 8, L.length + 9, 0, 2, 2]) (T' := [.inl (0, 7), .inl (0, 7), .inl (0, 28), .inl (0, 12), .inl (0, 36), .inl (0, 12)]) dX5_init_52 dX5_init_54 kcX5 w_151 (by decide) (Nat.le_of_ble_eq_true rfl) rfl rfl rfl (fun x => rfl) (fun x => rfl) w_186 rfl (by decide) ⟨by omega, by decide⟩ hI k_okl1 rfl rfl (fun hI => ?_)
  refine k_aload_n dX5_init_57 0 rfl rfl (by omega) ?_
  refine k_iconst (v := (-1)) dX5_init_58 rfl ?_
  refine k_intF (kf := 9) dX5_init_59 kcX5 w_155 (by decide) rfl rfl rfl rfl (by omega) hI (fun hI => ?_)
  refine k_aload_n dX5_init_62 0 rfl rfl (by omega) ?_
  refine k_iconst (v := 4) dX5_init_63 rfl ?_
  refine k_rowI (kf := 10) (w := 4) (cs' := [0, 0, 0, L.length + 4, L.length + 5, L.length + 6, L.length + 7, L.length + 8, L.length + 9, 0, L.length + 10, 2]) (T' := [.inl (0, 7), .inl (0, 7), .inl (0, 28), .inl (0, 12), .inl (0, 36), .inl (0, 12), .inl (0, 4)]) dX5_init_64 dX5_init_66 kcX5 w_157 (by decide) (Nat.le_of_ble_eq_true rfl) rfl rfl rfl (fun x => rfl) (fun x => rfl) w_186 rfl (by decide) ⟨by omega, by decide⟩ hI k_okl1 rfl rfl (fun hI => ?_)
  refine k_aload_n dX5_init_69 0 rfl rfl (by omega) ?_
  refine k_iconst (v := 4) dX5_init_70 rfl ?_
  refine k_rowI (kf := 11) (w := 4) (cs' := [0, 0, 0, L.length + 4, L.length + 5, L.length + 6, L.length + 7, L.length + 8, L.length + 9, 0, L.length + 10, L.length + 11]) (T' := [.inl (0, 7), .inl (0, 7), .inl (0, 28), .inl (0, 12), .inl (0, 36), .inl (0, 12), .inl (0, 4), .inl (0, 4)]) dX5_init_71 dX5_init_73 kcX5 w_159 (by decide) (Nat.le_of_ble_eq_true rfl) rfl rfl rfl (fun x => rfl) (fun x => rfl) w_186 rfl (by decide) ⟨by omega, by decide⟩ hI k_okl1 rfl rfl (fun hI => ?_)
  exact k_ret_v dX5_init_76 rfl ⟨rfl, rfl, rfl, hI⟩
def k_placS (A p : Nat) : List k_Sh := [.inr (5, [p + 3, A + 4, A + 5, A + 6, 0, 0]), .inl (0, 4), .inl (0, 4), .inl (0, 4)]
def k_chnS (A p : Nat) : List k_Sh := [.inr (2, [p + 3, A + 4, A + 5, A + 6]), .inl (0, 4), .inl (0, 4), .inl (0, 4)]
def k_arrS (A p : Nat) : List k_Sh := [.inr (1, [p + 3, A + 4, A + 5, A + 6, A + 7, 0]), .inl (0, 49), .inl (0, 7), .inl (0, 7), .inl (0, 28)]
def k_chgS (p q r s : Nat) : List k_Sh := [.inr (3, [p + 3, q + 3, r + 3, s + 3, 0])]
theorem k_okl5 {N p q r s : Nat} (hp : p < N) (hq : q < N) (hr : r < N) (hs : s < N) : k_okl (N + 1) [(0, .ref N), (1, .ref p), (2, .ref q), (3, .ref r), (4, .ref s)] [] := by
  refine ⟨fun z hz => ?_, fun v hv => by cases hv⟩
  rcases List.mem_cons.mp hz with rfl | hz
  · exact Or.inl (Nat.lt_succ_self N)
  · rcases List.mem_cons.mp hz with rfl | hz
    · exact Or.inl (Nat.lt_succ_of_lt hp)
    · rcases List.mem_cons.mp hz with rfl | hz
      · exact Or.inl (Nat.lt_succ_of_lt hq)
      · rcases List.mem_cons.mp hz with rfl | hz
        · exact Or.inl (Nat.lt_succ_of_lt hr)
        · rcases List.mem_cons.mp hz with rfl | hz
          · exact Or.inl (Nat.lt_succ_of_lt hs)
          · cases hz
set_option maxHeartbeats 4000000 in
theorem c_placInit (hN : L.length < 900000) {p : Nat} (hp : p < L.length) (hI : k_I (L ++ [.inr (5, [2, 2, 2, 2, 0, 0])]) σ) : k_C E mX4_init 2 [.ref L.length, .ref p] (L ++ [.inr (5, [2, 2, 2, 2, 0, 0])]) σ 3 12 (fun r sh' σ' => r = .inl none ∧ sh' = L ++ k_placS L.length p ∧ σ' = σ ∧ k_I sh' σ') := by
  refine k_C_of (ls0 := [(0, .ref L.length), (1, .ref p)]) rfl pnX4 (fun v hv => k_cat1 rfl hv) (Nat.le_of_ble_eq_true rfl) rfl ?_
  refine k_aload_n dX4_init_0 0 rfl rfl (by omega) ?_
  refine k_objI dX4_init_1 w_192 w_123 k_codeobj (by omega) (Nat.le_of_ble_eq_true rfl) (by omega) ?_
  refine k_aload_n dX4_init_4 0 rfl rfl (by omega) ?_
  refine k_aload_n dX4_init_5 1 rfl rfl (by omega) ?_
  refine k_refF (kf := 0) (cs' := [p + 3, 2, 2, 2, 0, 0]) dX4_init_6 kcX4 w_193 (by decide) (Nat.le_of_ble_eq_true rfl) rfl rfl rfl (fun x => rfl) (fun x => rfl) ⟨by omega, by decide⟩ hI (by omega) rfl (fun hI => ?_)
  refine k_aload_n dX4_init_9 0 rfl rfl (by omega) ?_
  refine k_iconst (v := 4) dX4_init_10 rfl ?_
  refine k_rowI (kf := 1) (w := 4) (cs' := [p + 3, L.length + 4, 2, 2, 0, 0]) (T' := [.inl (0, 4)]) dX4_init_11 dX4_init_13 kcX4 w_194 (by decide) (Nat.le_of_ble_eq_true rfl) rfl rfl rfl (fun x => rfl) (fun x => rfl) w_186 rfl (by decide) ⟨by omega, by decide⟩ hI (k_okl2 hp) rfl rfl (fun hI => ?_)
  refine k_aload_n dX4_init_16 0 rfl rfl (by omega) ?_
  refine k_iconst (v := 4) dX4_init_17 rfl ?_
  refine k_rowI (kf := 2) (w := 4) (cs' := [p + 3, L.length + 4, L.length + 5, 2, 0, 0]) (T' := [.inl (0, 4), .inl (0, 4)]) dX4_init_18 dX4_init_20 kcX4 w_195 (by decide) (Nat.le_of_ble_eq_true rfl) rfl rfl rfl (fun x => rfl) (fun x => rfl) w_186 rfl (by decide) ⟨by omega, by decide⟩ hI (k_okl2 hp) rfl rfl (fun hI => ?_)
  refine k_aload_n dX4_init_23 0 rfl rfl (by omega) ?_
  refine k_iconst (v := 4) dX4_init_24 rfl ?_
  refine k_rowI (kf := 3) (w := 4) (cs' := [p + 3, L.length + 4, L.length + 5, L.length + 6, 0, 0]) (T' := [.inl (0, 4), .inl (0, 4), .inl (0, 4)]) dX4_init_25 dX4_init_27 kcX4 w_196 (by decide) (Nat.le_of_ble_eq_true rfl) rfl rfl rfl (fun x => rfl) (fun x => rfl) w_186 rfl (by decide) ⟨by omega, by decide⟩ hI (k_okl2 hp) rfl rfl (fun hI => ?_)
  exact k_ret_v dX4_init_30 rfl ⟨rfl, rfl, rfl, hI⟩
set_option maxHeartbeats 4000000 in
theorem c_chnInit (hN : L.length < 900000) {p : Nat} (hp : p < L.length) (hI : k_I (L ++ [.inr (2, [2, 2, 2, 2])]) σ) : k_C E mX1_init 2 [.ref L.length, .ref p] (L ++ [.inr (2, [2, 2, 2, 2])]) σ 3 12 (fun r sh' σ' => r = .inl none ∧ sh' = L ++ k_chnS L.length p ∧ σ' = σ ∧ k_I sh' σ') := by
  refine k_C_of (ls0 := [(0, .ref L.length), (1, .ref p)]) rfl pnX1 (fun v hv => k_cat1 rfl hv) (Nat.le_of_ble_eq_true rfl) rfl ?_
  refine k_aload_n dX1_init_0 0 rfl rfl (by omega) ?_
  refine k_objI dX1_init_1 w_217 w_123 k_codeobj (by omega) (Nat.le_of_ble_eq_true rfl) (by omega) ?_
  refine k_aload_n dX1_init_4 0 rfl rfl (by omega) ?_
  refine k_aload_n dX1_init_5 1 rfl rfl (by omega) ?_
  refine k_refF (kf := 0) (cs' := [p + 3, 2, 2, 2]) dX1_init_6 kcX1 w_218 (by decide) (Nat.le_of_ble_eq_true rfl) rfl rfl rfl (fun x => rfl) (fun x => rfl) ⟨by omega, by decide⟩ hI (by omega) rfl (fun hI => ?_)
  refine k_aload_n dX1_init_9 0 rfl rfl (by omega) ?_
  refine k_iconst (v := 4) dX1_init_10 rfl ?_
  refine k_rowI (kf := 1) (w := 4) (cs' := [p + 3, L.length + 4, 2, 2]) (T' := [.inl (0, 4)]) dX1_init_11 dX1_init_13 kcX1 w_219 (by decide) (Nat.le_of_ble_eq_true rfl) rfl rfl rfl (fun x => rfl) (fun x => rfl) w_186 rfl (by decide) ⟨by omega, by decide⟩ hI (k_okl2 hp) rfl rfl (fun hI => ?_)
  refine k_aload_n dX1_init_16 0 rfl rfl (by omega) ?_
  refine k_iconst (v := 4) dX1_init_17 rfl ?_
  refine k_rowI (kf := 2) (w := 4) (cs' := [p + 3, L.length + 4, L.length + 5, 2]) (T' := [.inl (0, 4), .inl (0, 4)]) dX1_init_18 dX1_init_20 kcX1 w_220 (by decide) (Nat.le_of_ble_eq_true rfl) rfl rfl rfl (fun x => rfl) (fun x => rfl) w_186 rfl (by decide) ⟨by omega, by decide⟩ hI (k_okl2 hp) rfl rfl (fun hI => ?_)
  refine k_aload_n dX1_init_23 0 rfl rfl (by omega) ?_
  refine k_iconst (v := 4) dX1_init_24 rfl ?_
  refine k_rowI (kf := 3) (w := 4) (cs' := [p + 3, L.length + 4, L.length + 5, L.length + 6]) (T' := [.inl (0, 4), .inl (0, 4), .inl (0, 4)]) dX1_init_25 dX1_init_27 kcX1 w_221 (by decide) (Nat.le_of_ble_eq_true rfl) rfl rfl rfl (fun x => rfl) (fun x => rfl) w_186 rfl (by decide) ⟨by omega, by decide⟩ hI (k_okl2 hp) rfl rfl (fun hI => ?_)
  exact k_ret_v dX1_init_30 rfl ⟨rfl, rfl, rfl, hI⟩
set_option maxHeartbeats 4000000 in
theorem c_arrInit (hN : L.length < 900000) {p : Nat} (hp : p < L.length) (hI : k_I (L ++ [.inr (1, [2, 2, 2, 2, 2, 0])]) σ) : k_C E mX0_init 2 [.ref L.length, .ref p] (L ++ [.inr (1, [2, 2, 2, 2, 2, 0])]) σ 4 91 (fun r sh' σ' => r = .inl none ∧ sh' = L ++ k_arrS L.length p ∧ σ' = σ ∧ k_I sh' σ') := by
  refine k_C_of (ls0 := [(0, .ref L.length), (1, .ref p)]) rfl pnX0 (fun v hv => k_cat1 rfl hv) (Nat.le_of_ble_eq_true rfl) rfl ?_
  refine k_aload_n dX0_init_0 0 rfl rfl (by omega) ?_
  refine k_objI dX0_init_1 w_236 w_123 k_codeobj (by omega) (Nat.le_of_ble_eq_true rfl) (by omega) ?_
  refine k_aload_n dX0_init_4 0 rfl rfl (by omega) ?_
  refine k_aload_n dX0_init_5 1 rfl rfl (by omega) ?_
  refine k_refF (kf := 0) (cs' := [p + 3, 2, 2, 2, 2, 0]) dX0_init_6 kcX0 w_237 (by decide) (Nat.le_of_ble_eq_true rfl) rfl rfl rfl (fun x => rfl) (fun x => rfl) ⟨by omega, by decide⟩ hI (by omega) rfl (fun hI => ?_)
  refine k_aload_n dX0_init_9 0 rfl rfl (by omega) ?_
  refine k_bipush (v := 49) dX0_init_10 (by decide) ?_
  refine k_rowI (kf := 1) (w := 49) (cs' := [p + 3, L.length + 4, 2, 2, 2, 0]) (T' := [.inl (0, 49)]) dX0_init_12 dX0_init_14 kcX0 w_238 (by decide) (Nat.le_of_ble_eq_true rfl) rfl rfl rfl (fun x => rfl) (fun x => rfl) w_186 rfl (by decide) ⟨by omega, by decide⟩ hI (k_okl2 hp) rfl rfl (fun hI => ?_)
  refine k_aload_n dX0_init_17 0 rfl rfl (by omega) ?_
  refine k_bipush (v := 7) dX0_init_18 (by decide) ?_
  refine k_rowI (kf := 2) (w := 7) (cs' := [p + 3, L.length + 4, L.length + 5, 2, 2, 0]) (T' := [.inl (0, 49), .inl (0, 7)]) dX0_init_20 dX0_init_22 kcX0 w_239 (by decide) (Nat.le_of_ble_eq_true rfl) rfl rfl rfl (fun x => rfl) (fun x => rfl) w_186 rfl (by decide) ⟨by omega, by decide⟩ hI (k_okl2 hp) rfl rfl (fun hI => ?_)
  refine k_aload_n dX0_init_25 0 rfl rfl (by omega) ?_
  refine k_bipush (v := 7) dX0_init_26 (by decide) ?_
  refine k_rowI (kf := 3) (w := 7) (cs' := [p + 3, L.length + 4, L.length + 5, L.length + 6, 2, 0]) (T' := [.inl (0, 49), .inl (0, 7), .inl (0, 7)]) dX0_init_28 dX0_init_30 kcX0 w_240 (by decide) (Nat.le_of_ble_eq_true rfl) rfl rfl rfl (fun x => rfl) (fun x => rfl) w_186 rfl (by decide) ⟨by omega, by decide⟩ hI (k_okl2 hp) rfl rfl (fun hI => ?_)
  refine k_aload_n dX0_init_33 0 rfl rfl (by omega) ?_
  refine k_bipush (v := 28) dX0_init_34 (by decide) ?_
  refine k_rowI (kf := 4) (w := 28) (cs' := [p + 3, L.length + 4, L.length + 5, L.length + 6, L.length + 7, 0]) (T' := [.inl (0, 49), .inl (0, 7), .inl (0, 7), .inl (0, 28)]) dX0_init_36 dX0_init_38 kcX0 w_241 (by decide) (Nat.le_of_ble_eq_true rfl) rfl rfl rfl (fun x => rfl) (fun x => rfl) w_186 rfl (by decide) ⟨by omega, by decide⟩ hI (k_okl2 hp) rfl rfl (fun hI => ?_)
  exact k_ret_v dX0_init_41 rfl ⟨rfl, rfl, rfl, hI⟩
set_option maxHeartbeats 4000000 in
theorem c_chgInit (hN : L.length < 900000) {p q t u : Nat} (hp : p < L.length) (hq : q < L.length) (ht : t < L.length) (hu : u < L.length) (hI : k_I (L ++ [.inr (3, [2, 2, 2, 2, 0])]) σ) : k_C E mX2_init 2 [.ref L.length, .ref p, .ref q, .ref t, .ref u] (L ++ [.inr (3, [2, 2, 2, 2, 0])]) σ 0 0 (fun r sh' σ' => r = .inl none ∧ sh' = L ++ k_chgS p q t u ∧ σ' = k_up σ L.length (k_u1 (σ L.length) 4 0) ∧ k_I sh' σ') := by
  refine k_C_of (ls0 := [(0, .ref L.length), (1, .ref p), (2, .ref q), (3, .ref t), (4, .ref u)]) rfl pnX2 (fun v hv => k_cat1 rfl hv) (Nat.le_of_ble_eq_true rfl) rfl ?_
  refine k_aload_n dX2_init_0 0 rfl rfl (by omega) ?_
  refine k_objI dX2_init_1 w_261 w_123 k_codeobj (by omega) (Nat.le_of_ble_eq_true rfl) (by omega) ?_
  refine k_aload_n dX2_init_4 0 rfl rfl (by omega) ?_
  refine k_aload_n dX2_init_5 1 rfl rfl (by omega) ?_
  refine k_refF (kf := 0) (cs' := [p + 3, 2, 2, 2, 0]) dX2_init_6 kcX2 w_262 (by decide) (Nat.le_of_ble_eq_true rfl) rfl rfl rfl (fun x => rfl) (fun x => rfl) ⟨by omega, by decide⟩ hI (by omega) rfl (fun hI => ?_)
  refine k_aload_n dX2_init_9 0 rfl rfl (by omega) ?_
  refine k_aload_n dX2_init_10 2 rfl rfl (by omega) ?_
  refine k_refF (kf := 1) (cs' := [p + 3, q + 3, 2, 2, 0]) dX2_init_11 kcX2 w_263 (by decide) (Nat.le_of_ble_eq_true rfl) rfl rfl rfl (fun x => rfl) (fun x => rfl) ⟨by omega, by decide⟩ hI (by omega) rfl (fun hI => ?_)
  refine k_aload_n dX2_init_14 0 rfl rfl (by omega) ?_
  refine k_aload_n dX2_init_15 3 rfl rfl (by omega) ?_
  refine k_refF (kf := 2) (cs' := [p + 3, q + 3, t + 3, 2, 0]) dX2_init_16 kcX2 w_264 (by decide) (Nat.le_of_ble_eq_true rfl) rfl rfl rfl (fun x => rfl) (fun x => rfl) ⟨by omega, by decide⟩ hI (by omega) rfl (fun hI => ?_)
  refine k_aload_n dX2_init_19 0 rfl rfl (by omega) ?_
  refine k_aload dX2_init_20 4 rfl (by omega) ?_
  refine k_refF (kf := 3) (cs' := [p + 3, q + 3, t + 3, u + 3, 0]) dX2_init_22 kcX2 w_265 (by decide) (Nat.le_of_ble_eq_true rfl) rfl rfl rfl (fun x => rfl) (fun x => rfl) ⟨by omega, by decide⟩ hI (by omega) rfl (fun hI => ?_)
  refine k_aload_n dX2_init_25 0 rfl rfl (by omega) ?_
  refine k_iconst (v := 0) dX2_init_26 rfl ?_
  refine k_intF (kf := 4) dX2_init_27 kcX2 w_266 (by decide) rfl rfl rfl rfl (by omega) hI (fun hI => ?_)
  exact k_ret_v dX2_init_30 rfl ⟨rfl, rfl, rfl, hI⟩
/-- a fixed ref, written as one that may change -/
theorem k_cw_recode {ad : Nat → Nat} {a ci kf r : Nat} {cs : List Nat} (hs : sh[a]? = some (.inr (ci, cs))) (hc : cs[kf]? = some (r + 3)) : k_cw E ad (sh.set a (.inr (ci, cs.set kf 1))) (k_up σ a (k_u1 (σ a) kf (r : Int))) = k_cw E ad sh σ := by
  apply List.ext_getElem?
  intro i
  simp only [k_cw, List.getElem?_mapIdx, List.getElem?_set]
  by_cases e : a = i
  · subst e
    obtain ⟨h1, h2⟩ := List.getElem?_eq_some_iff.mp hs
    rw [if_pos rfl, if_pos h1, hs, k_up_same]
    show some (ad a, k_conc E ad (.inr (ci, cs.set kf 1)) (k_u1 (σ a) kf (r : Int))) = some (ad a, k_conc E ad (.inr (ci, cs)) (σ a))
    congr 2
    show (Sum.inr (ci, _) : va_E) = Sum.inr (ci, _)
    congr 2
    apply List.ext_getElem?
    intro j
    simp only [List.getElem?_mapIdx, List.getElem?_set]
    by_cases e2 : kf = j
    · subst e2
      obtain ⟨h3, h4⟩ := List.getElem?_eq_some_iff.mp hc
      rw [if_pos rfl, if_pos h3, hc]
      show some (k_cv E ad (k_fv 1 (k_u1 (σ a) kf (r : Int) kf))) = some (k_cv E ad (k_fv (r + 3) (σ a kf)))
      rw [show k_u1 (σ a) kf (r : Int) kf = (r : Int) from if_pos rfl]
      rfl
    · rw [if_neg e2]
      rw [show k_u1 (σ a) kf (r : Int) j = σ a j from if_neg (Ne.symm e2)]
  · rw [if_neg e, k_up_ne (Ne.symm e)]
theorem k_recode {a ci kf r : Nat} {cs : List Nat} (hs : sh[a]? = some (.inr (ci, cs))) (hc : cs[kf]? = some (r + 3)) (kk : k_V E M dp pc ls st (sh.set a (.inr (ci, cs.set kf 1))) (k_up σ a (k_u1 (σ a) kf (r : Int))) k n Q) : k_V E M dp pc ls st sh σ k n Q := by
  intro N0 ad0 p e R s m args below meth c H locs cells slots lsC ad mc ms C X hl
  refine kk N0 ad0 p e R s m args below meth c H locs cells slots lsC ad mc ms C ⟨?_, X.2.1, X.2.2.1, X.2.2.2.1, X.2.2.2.2.1, X.2.2.2.2.2.1, ?_⟩ hl
  · rw [List.length_set]
    exact X.1
  · have h := X.2.2.2.2.2.2
    unfold k_Hp at h ⊢
    rw [k_cw_recode hs hc]
    exact h
theorem k_I_recode {a ci kf r : Nat} {cs : List Nat} (h : k_I sh σ) (hs : sh[a]? = some (.inr (ci, cs))) (hr : r < sh.length) : k_I (sh.set a (.inr (ci, cs.set kf 1))) (k_up σ a (k_u1 (σ a) kf (r : Int))) := by
  have hl : a < sh.length := (List.getElem?_eq_some_iff.mp hs).1
  refine ⟨fun i y hy => ?_, fun i hi => by rw [List.length_set] at hi; rw [k_up_ne (by omega)]; exact h.2 i hi⟩
  rw [List.length_set]
  rw [List.getElem?_set] at hy
  by_cases e : a = i
  · subst e
    rw [if_pos rfl, if_pos hl] at hy
    cases hy
    rw [k_up_same]
    intro k c hc
    rw [List.getElem?_set] at hc
    by_cases e2 : kf = k
    · subst e2
      rw [if_pos rfl] at hc
      split at hc
      · cases hc
        rw [show k_u1 (σ a) kf (r : Int) kf = (r : Int) from if_pos rfl]
        exact Or.inl hr
      · cases hc
    · rw [if_neg e2] at hc
      rw [show k_u1 (σ a) kf (r : Int) k = σ a k from if_neg (Ne.symm e2)]
      exact h.1 a _ hs k c hc
  · rw [if_neg e] at hy
    rw [k_up_ne (Ne.symm e)]
    exact h.1 i y hy
def k_sbS : List k_Sh := [.inr (0, [1, 0, 0, 0]), .inl (2, 16)]
def u_sb0 (σ : Nat → Nat → Int) (A : Nat) : Nat → Nat → Int := k_up (k_up σ A (k_u1 (σ A) 0 ((A + 1 : Nat) : Int))) A (k_u1 (k_up σ A (k_u1 (σ A) 0 ((A + 1 : Nat) : Int)) A) 1 0)
set_option maxHeartbeats 4000000 in
theorem c_sbInit5 (hN : L.length < 900000) (hI : k_I (L ++ [.inr (0, [2, 0, 0, 0])]) σ) : k_C E mJ5_init_d00df 2 [.ref L.length, .int (iI 16)] (L ++ [.inr (0, [2, 0, 0, 0])]) σ 1 16 (fun r sh' σ' => r = .inl none ∧ sh' = L ++ k_sbS ∧ σ' = u_sb0 σ L.length ∧ k_I sh' σ') := by
  refine k_C_of (ls0 := [(0, .ref L.length), (1, .int (iI 16))]) rfl pnJ5 (fun v hv => k_cat1 rfl hv) (Nat.le_of_ble_eq_true rfl) rfl ?_
  refine k_aload_n dJ5_init_d00df_0 0 rfl rfl (by omega) ?_
  refine k_objI dJ5_init_d00df_1 w_313 w_123 k_codeobj (by omega) (Nat.le_of_ble_eq_true rfl) (by omega) ?_
  refine k_getCS dJ5_init_d00df_4 w_314 ?_
  refine k_if_eq (tgt := 25) dJ5_init_d00df_7 rfl ⟨by decide, by decide⟩ (fun h => absurd h (by decide)) (fun _ => ?_)
  refine k_aload_n dJ5_init_d00df_10 0 rfl rfl (by omega) ?_
  refine k_iload_n dJ5_init_d00df_11 1 rfl rfl ?_
  have hlen : (L ++ [(.inr (0, [2, 0, 0, 0]) : k_Sh)]).length = L.length + 1 := by rw [List.length_append]; rfl
  have hp := k_I_push hI (x := .inl (2, 16)) (fun _ _ h => by cases h)
  refine k_newa2 (w := 16) dJ5_init_d00df_12 w_337 rfl (by decide) (by omega) hI.1 (fun z hz => ?_) (fun v hv => ?_) ?_
  · rcases List.mem_cons.mp hz with rfl | hz
    · exact Or.inl (by show L.length < _; rw [hlen]; omega)
    · rcases List.mem_cons.mp hz with rfl | hz
      · trivial
      · cases hz
  · rcases List.mem_cons.mp hv with rfl | hv
    · exact Or.inl (by show L.length < _; rw [hlen]; omega)
    · cases hv
  · have e : (L ++ [(.inr (0, [2, 0, 0, 0]) : k_Sh)]) ++ [.inl (2, 16)] = L ++ (.inr (0, [2, 0, 0, 0]) :: [.inl (2, 16)]) := List.append_assoc _ _ _
    have hp1 := hp.1
    rw [hp.2, e, hlen]
    rw [e] at hp1
    have hs := k_get_mid L [.inl (2, 16)] (.inr (0, [2, 0, 0, 0]))
    refine k_putr (kf := 0) dJ5_init_d00df_14 kcJ4 w_323 (by decide) (by omega) hs (Nat.le_of_ble_eq_true rfl) rfl (by omega) (fun x => rfl) (fun x => rfl) ?_
    have h2 := k_I_set (kf := 0) (r := L.length + 1) hp1 hs (by rw [List.length_append]; show L.length + 1 < L.length + 2; omega)
    rw [k_set_mid] at h2
    rw [k_set_mid]
    have hs3 := k_get_mid L [.inl (2, 16)] (.inr (0, [2, 0, 0, 0].set 0 (L.length + 1 + 3)))
    refine k_recode (kf := 0) (r := L.length + 1) hs3 rfl ?_
    have h3 := k_I_recode (kf := 0) (r := L.length + 1) h2 hs3 (by rw [List.length_append]; show L.length + 1 < L.length + 2; omega)
    rw [k_set_mid] at h3
    rw [k_set_mid]
    refine k_aload_n dJ5_init_d00df_17 0 rfl rfl (by omega) ?_
    refine k_iconst (v := 0) dJ5_init_d00df_18 rfl ?_
    refine k_intF (kf := 1) dJ5_init_d00df_19 kcJ4 w_324 (by decide) rfl rfl (by decide) (by decide) (by omega) h3 (fun hI => ?_)
    refine k_goto (tgt := 38) dJ5_init_d00df_22 rfl ?_
    exact k_ret_v dJ5_init_d00df_38 rfl ⟨rfl, rfl, rfl, hI⟩
set_option maxHeartbeats 4000000 in
theorem c_sbInit (hN : L.length < 900000) (hI : k_I (L ++ [.inr (0, [2, 0, 0, 0])]) σ) : k_C E mJ4_init_da8c8 3 [.ref L.length] (L ++ [.inr (0, [2, 0, 0, 0])]) σ 1 16 (fun r sh' σ' => r = .inl none ∧ sh' = L ++ k_sbS ∧ σ' = u_sb0 σ L.length ∧ k_I sh' σ') := by
  refine k_C_of (ls0 := [(0, .ref L.length)]) rfl pnJ4 (fun v hv => k_cat1 rfl hv) (Nat.le_of_ble_eq_true rfl) rfl ?_
  refine k_aload_n dJ4_init_da8c8_0 0 rfl rfl (by omega) ?_
  refine k_bipush (v := 16) dJ4_init_da8c8_1 (by decide) ?_
  refine k_callI (k := 0) (n := 0) (st := []) (as := [.int (iI 16)]) dJ4_init_da8c8_3 oJ5_init_d00df rfl rfl w_310 w_311 rfl (by omega) rfl (Nat.le_of_ble_eq_true rfl) (by omega) (c_sbInit5 hN hI) (fun X s1 s2 h => by cases h.1) (Or.inl ⟨fun z hz => ?_, fun z hz => by cases hz⟩) (fun v s1 s2 h => ?_)
  · rcases List.mem_cons.mp hz with rfl | hz
    · exact Or.inl (by show L.length < _; rw [List.length_append]; exact Nat.lt_succ_self _)
    · cases hz
  · obtain ⟨h1, h2, h3, h4⟩ := h
    cases h1
    exact k_ret_v dJ4_init_da8c8_6 rfl ⟨rfl, h2, h3, h4⟩
theorem k_ao5 : Cond.arrayOver (.object "OptionBlockPlanner$Plan") ∈ k_NW := List.mem_filter.mpr ⟨List.mem_of_getElem? (by decide +kernel : lw_tbl[216]? = some (Cond.arrayOver (.object "OptionBlockPlanner$Plan"))), rfl⟩
/-- anewarray -/
theorem k_newq {idx : Nat} {i : Int} {kd w : Nat} {Cn : String} (hd : decode M.2.1 pc = .ok (.anewarray idx, 3)) (hcl : Cond.classLink M.1.cls idx Cn ∈ k_TBL) (hao : Cond.arrayOver (.object Cn) ∈ k_NW) (hk : (k_tys E)[kd]? = some (k_dA E kd, .object Cn)) (hkd : kd = 5 ∨ kd = 6) (hi : i = (w : Int)) (hw : w < 65536) (hN : sh.length < 1000000) (hok : k_ok sh σ) (hls : ∀ z ∈ ls, k_okv sh.length z.2) (hst : ∀ v ∈ st, k_okv sh.length v) (kk : k_V E M dp (pc + 3) ls (.ref sh.length :: st) (sh ++ [.inl (kd, w)]) (k_up σ sh.length fun _ => 0) k n Q) : k_V E M dp pc ls (.int (iI i) :: st) sh σ (k + 1) (n + w) Q := by
  intro N0 ad0 p e R s m args below meth c H locs cells slots lsC ad mc ms C X hl
  have hsz : (k_s0 E).heap.size ≤ s.heap.size := C.2.2.2.2.2.2.2.2.2.1.2.1
  have hA : ∀ q, s.heap.size ≤ q → k_A E q := fun q h => Nat.le_trans hsz h
  have hr : k_r i := ⟨by omega, by omega⟩
  refine va_newq (C := Cn) (N' := w) C.1 C.2.1 C.2.2.2.2.1 (C.2.2.2.2.2.1 _ (k_cws hcl)) (va_AO.of (k_nwat C hao)) (k_Kat C) X.2.2.2.2.2.2.1 X.2.2.2.2.2.2.2.1 X.2.2.2.2.2.1 hA (by rw [Int32.lt_iff_toInt_lt, iI_toInt hr]; show ¬ i < 0; omega) (by rw [iI_clamp hr]; omega) (by show w * 4 ≤ 536870912; omega) (by have := X.2.1; have := X.2.2.2.1; omega) (by have := X.2.2.1; have := X.2.2.2.2.1; omega) hd (fun q cA H1 hK hP hD hS => ?_)
  obtain ⟨_, _, -, -, -, h1⟩ := (hK.2 7 (cA, .object Cn) (by simp [k_tys])).2
  obtain ⟨_, _, -, -, -, h2⟩ := ((k_Kat C).2 kd _ hk).2
  have hcA : cA = k_dA E kd := Option.some.inj (Eq.trans (Eq.symm h1) h2)
  subst hcA
  have hp := k_cw_push (E := E) (ad := ad) (σ := σ) (q := q) (x := .inl (kd, w)) (f := fun _ => 0) hN hok
  have hcc : k_conc E (va_up ad sh.length q) (.inl (kd, w)) (fun _ => 0) = .inl (k_dA E kd, w, .inr (.inr (.inr (.inr fun _ => none)))) := by
    rcases hkd with rfl | rfl <;> rfl
  rw [hcc] at hp
  rw [hp] at hP hD
  have hz : va_up ad sh.length q sh.length = q := if_pos rfl
  have h := kk N0 ad0 p e R s m args below meth c H1 locs (cells + 1) (slots + w) lsC (va_up ad sh.length q) mc ms C ⟨⟨Nat.le_trans X.1.1 (by rw [List.length_append]; exact Nat.le_add_right _ _), fun j hj => ?_⟩, by have := X.2.1; omega, by have := X.2.2.1; omega, X.2.2.2.1, X.2.2.2.2.1, hS, hP, hD, fun j hj => ?_⟩ (by rw [k_lsup hN hls]; exact hl)
  rw [List.map_cons, k_cv_ref (by omega), hz, k_stup hN hst] at h
  exact h
  · rw [show va_up ad sh.length q j = ad j from if_neg (by rw [List.length_append, List.length_singleton] at hj; have := X.1.1; omega)]
    exact X.1.2 j (by rw [List.length_append, List.length_singleton] at hj; omega)
  · rw [show va_up ad sh.length q j = ad j from if_neg (by omega)]
    exact X.2.2.2.2.2.2.2.2 j hj
theorem k_C_eq {A B d : Nat} {sh2 : List k_Sh} (hA : A = B) (hs : sh2 = sh) (h : k_C E M d (.ref A :: as) sh2 σ k n Q) : k_C E M d (.ref B :: as) sh σ k n Q := by
  subst hA hs
  exact h
/-- new -/
theorem k_newI {idx ci N r : Nat} {x : k_Sh} {Cn : String} {Tf : u_T} {ty : Nat → FieldType} {cs : List Nat} {T' : List k_Sh} (hd : decode M.2.1 pc = .ok (.new idx, 3)) (hT : k_Cls ci Cn Tf N ty) (hw : Cond.classLink M.1.cls idx Cn ∈ k_TBL) (hi : Cond.instantiable Cn N ∈ k_TBL) (hini : Cond.initialized Cn ∈ k_TBL) (hcs : cs.length = N) (hc2 : ∀ c ∈ cs, c = 0 ∨ c = 2) (hfs : ∀ j, j < N → defaultValue (ty j) = k_fv (cs.getD j 0) 0) (hN : L.length < 900000 ∧ T.length < 10000) (hI : k_I (L ++ (x :: T)) σ) (hl : k_okl (L.length + 1) ls st) (hT' : T ++ [.inr (ci, cs)] = T') (hr' : L.length + (1 + T.length) = r)
    (kk : k_I (L ++ (x :: T')) σ → k_V E M dp (pc + 3) ls (.ref r :: st) (L ++ (x :: T')) σ k n Q) : k_V E M dp pc ls st (L ++ (x :: T)) σ (k + 1) (n + N) Q := by
  subst hT' hr'
  have hlen : (L ++ (x :: T)).length = L.length + (1 + T.length) := by rw [List.length_append, List.length_cons]; omega
  have hl2 := k_okl_mono (N2 := (L ++ (x :: T)).length) (by omega) hl
  have hp := k_I_push hI (x := .inr (ci, cs)) (fun ci2 cs2 h => by cases h; exact hc2)
  refine k_new hd hT hw hi hini hcs hc2 hfs (by omega) hI.1 hl2.1 hl2.2 ?_
  have e : (L ++ (x :: T)) ++ [.inr (ci, cs)] = L ++ (x :: (T ++ [.inr (ci, cs)])) := List.append_assoc _ _ _
  have hp1 := hp.1
  rw [hp.2, e, hlen]
  rw [e] at hp1
  exact kk hp1
theorem k_okl_0 {N : Nat} : k_okl N [] [] := ⟨fun z hz => (by cases hz), fun v hv => (by cases hv)⟩
theorem k_okl_l {N i : Nat} {v : Value} (h : k_okv N v) (hl : k_okl N ls st) : k_okl N ((i, v) :: ls) st := ⟨fun z hz => by
    rcases List.mem_cons.mp hz with rfl | hz
    · exact h
    · exact hl.1 z hz, hl.2⟩
theorem k_okl_s {N : Nat} {v : Value} (h : k_okv N v) (hl : k_okl N ls st) : k_okl N ls (v :: st) := ⟨hl.1, fun z hz => by
    rcases List.mem_cons.mp hz with rfl | hz
    · exact h
    · exact hl.2 z hz⟩
theorem k_lenL (L T : List k_Sh) : (L ++ T).length = L.length + T.length := List.length_append
/-- new, with refs of any place on the stack -/
theorem k_newJ {idx ci N r : Nat} {x : k_Sh} {Cn : String} {Tf : u_T} {ty : Nat → FieldType} {cs : List Nat} {T' : List k_Sh} (hd : decode M.2.1 pc = .ok (.new idx, 3)) (hT : k_Cls ci Cn Tf N ty) (hw : Cond.classLink M.1.cls idx Cn ∈ k_TBL) (hi : Cond.instantiable Cn N ∈ k_TBL) (hini : Cond.initialized Cn ∈ k_TBL) (hcs : cs.length = N) (hc2 : ∀ c ∈ cs, c = 0 ∨ c = 2) (hfs : ∀ j, j < N → defaultValue (ty j) = k_fv (cs.getD j 0) 0) (hN : L.length < 900000 ∧ T.length < 10000) (hI : k_I (L ++ (x :: T)) σ) (hl : k_okl (L ++ (x :: T)).length ls st) (hT' : T ++ [.inr (ci, cs)] = T') (hr' : L.length + (1 + T.length) = r)
    (kk : k_I (L ++ (x :: T')) σ → k_V E M dp (pc + 3) ls (.ref r :: st) (L ++ (x :: T')) σ k n Q) : k_V E M dp pc ls st (L ++ (x :: T)) σ (k + 1) (n + N) Q := by
  subst hT' hr'
  have hlen : (L ++ (x :: T)).length = L.length + (1 + T.length) := by rw [List.length_append, List.length_cons]; omega
  have hp := k_I_push hI (x := .inr (ci, cs)) (fun ci2 cs2 h => by cases h; exact hc2)
  refine k_new hd hT hw hi hini hcs hc2 hfs (by omega) hI.1 hl.1 hl.2 ?_
  have e : (L ++ (x :: T)) ++ [.inr (ci, cs)] = L ++ (x :: (T ++ [.inr (ci, cs)])) := List.append_assoc _ _ _
  have hp1 := hp.1
  rw [hp.2, e, hlen]
  rw [e] at hp1
  exact kk hp1
def k_prgS (A : Nat) : List k_Sh := [.inr (7, [A + 4, A + 6, A + 7, 0, 0]), .inr (0, [1, 0, 0, 0]), .inl (2, 16), .inl (0, 12), .inl (0, 36)]
/-- the plans that the history keeps, i of them, from A + 2 on -/
def k_plans (A : Nat) : Nat → List k_Sh
  | 0 => []
  | i + 1 => k_plans A i ++ k_planS (A + 2 + 9 * i)
theorem k_plans_len (A : Nat) : ∀ i, (k_plans A i).length = 9 * i
  | 0 => rfl
  | i + 1 => by
    show (k_plans A i ++ k_planS (A + 2 + 9 * i)).length = _
    rw [List.length_append, k_plans_len A i]
    rfl
def k_hisX (A : Nat) : k_Sh := .inr (4, [A + 4, 0, 0])
def k_hisS (A i : Nat) : List k_Sh := k_hisX A :: .inl (5, 8) :: k_plans A i
theorem k_planS_l (A : Nat) : (k_planS A).length = 9 := rfl
theorem k_placS_l (A p : Nat) : (k_placS A p).length = 4 := rfl
theorem k_chnS_l (A p : Nat) : (k_chnS A p).length = 4 := rfl
theorem k_arrS_l (A p : Nat) : (k_arrS A p).length = 5 := rfl
theorem k_chgS_l (p q t u : Nat) : (k_chgS p q t u).length = 1 := rfl
theorem k_prgS_l (A : Nat) : (k_prgS A).length = 5 := rfl
theorem k_sbS_l : k_sbS.length = 2 := rfl
theorem k_plans_l (A : Nat) : ∀ i, (k_plans A i).length = 9 * i
  | 0 => rfl
  | i + 1 => by
    show (k_plans A i ++ k_planS (A + 2 + 9 * i)).length = _
    rw [List.length_append, k_plans_l A i]
    rfl
theorem k_hisS_l (A i : Nat) : (k_hisS A i).length = 9 * i + 2 := by
  show (k_plans A i).length + 1 + 1 = _
  rw [k_plans_l]
set_option maxHeartbeats 4000000 in
theorem c_prgInit (hN : L.length < 800000) (hI : k_I (L ++ [.inr (7, [2, 2, 2, 0, 0])]) σ) : k_C E mX6_init 4 [.ref L.length] (L ++ [.inr (7, [2, 2, 2, 0, 0])]) σ 4 68 (fun r sh' σ' => r = .inl none ∧ sh' = L ++ k_prgS L.length ∧ σ' = (u_sb0 σ (L.length + 1)) ∧ k_I sh' σ') := by
  refine k_C_of (ls0 := [(0, .ref L.length)]) rfl pnX6 (fun v hv => k_cat1 rfl hv) (Nat.le_of_ble_eq_true rfl) rfl ?_
  refine k_aload_n dX6_init_0 0 rfl rfl (by omega) ?_
  refine k_objI dX6_init_1 w_304 w_123 k_codeobj (by omega) (Nat.le_of_ble_eq_true rfl) (by omega) ?_
  refine k_aload_n dX6_init_4 0 rfl rfl (by omega) ?_
  have hlN : (L ++ ((.inr (7, [2, 2, 2, 0, 0]) : k_Sh) :: ([]))).length = L.length + 1 := (by (try simp only [k_lenL, List.length_append, List.length_cons, List.length_nil]) <;> omega)
  refine k_newJ (N := 4) (k := 3) (n := 64) (r := L.length + 1) (T' := [.inr (0, [2, 0, 0, 0])]) (cs := [2, 0, 0, 0]) dX6_init_5 kcJ4 w_305 w_306 w_94 rfl (by decide) (by intro j hj; have hj2 : j = 0 ∨ j = 1 ∨ j = 2 ∨ j = 3 := (by omega); rcases hj2 with rfl | rfl | rfl | rfl <;> rfl) ⟨by omega, by (try simp only [k_lenL, List.length_append, List.length_cons, List.length_nil]) <;> omega⟩ hI (k_okl_l (Or.inl (by show (L.length : Nat) < _; rw [hlN]; omega)) (k_okl_s (Or.inl (by show (L.length : Nat) < _; rw [hlN]; omega)) k_okl_0)) rfl (by (try simp only [k_lenL, List.length_append, List.length_cons, List.length_nil]) <;> omega) (fun hI => ?_)
  refine k_dup dX6_init_8 rfl ?_
  have hl0 : (L ++ ((.inr (7, [2, 2, 2, 0, 0]) : k_Sh) :: ([]))).length = L.length + 1 := (by (try simp only [k_lenL, List.length_append, List.length_cons, List.length_nil]) <;> omega)
  have hm0 : (L ++ ((.inr (7, [2, 2, 2, 0, 0]) : k_Sh) :: ([.inr (0, [2, 0, 0, 0])]))).length = L.length + 1 + 1 := (by (try simp only [k_lenL, List.length_append, List.length_cons, List.length_nil]) <;> omega)
  have hI0 : k_I ((L ++ ((.inr (7, [2, 2, 2, 0, 0]) : k_Sh) :: ([]))) ++ [.inr (0, [2, 0, 0, 0])]) σ := by rw [List.append_assoc]; exact hI
  refine k_callI (k := 2) (n := 48) (st := [.ref (L.length + 1), .ref (L.length)]) (as := []) dX6_init_9 oJ4_init_da8c8 rfl rfl w_307 w_308 rfl (by omega) rfl (Nat.le_of_ble_eq_true rfl) (by omega) (k_C_eq hl0 (List.append_assoc _ _ _) (c_sbInit (by rw [hl0]; omega) hI0)) (fun X s1 s2 h => by cases h.1) (Or.inl (k_okl_l (Or.inl (by show (L.length : Nat) < _; rw [hm0]; omega)) (k_okl_s (Or.inl (by show (L.length + 1 : Nat) < _; rw [hm0]; omega)) (k_okl_s (Or.inl (by show (L.length : Nat) < _; rw [hm0]; omega)) k_okl_0)))) (fun v s1 s2 h => ?_)
  obtain ⟨g1, g2, g3, hI⟩ := h
  try rw [hl0] at g2
  have g2 : s1 = L ++ ((.inr (7, [2, 2, 2, 0, 0]) : k_Sh) :: (k_sbS)) := g2.trans (List.append_assoc _ _ _)
  rw [hl0] at g3
  subst g2
  subst g3
  cases g1
  have hn0 : List.length (k_sbS) = 2 := (by (try simp only [k_lenL, List.length_append, List.length_cons, List.length_nil, k_planS_l, k_placS_l, k_chnS_l, k_arrS_l, k_chgS_l, k_hisS_l, k_prgS_l, k_sbS_l]) <;> omega)
  generalize hT0 : (k_sbS) = T0 at hI hn0 ⊢
  clear hl0 hm0 hI0 hlN
  refine k_refF (kf := 0) (cs' := [L.length + 4, 2, 2, 0, 0]) dX6_init_12 kcX6 w_338 (by decide) (Nat.le_of_ble_eq_true rfl) rfl rfl rfl (fun x => rfl) (fun x => rfl) ⟨by omega, by (try simp only [k_lenL, List.length_append, List.length_cons, List.length_nil, hn0]) <;> omega⟩ hI (by (try simp only [k_lenL, List.length_append, List.length_cons, List.length_nil]) <;> omega) rfl (fun hI => ?_)
  refine k_aload_n dX6_init_15 0 rfl rfl (by omega) ?_
  refine k_bipush (v := 12) dX6_init_16 (by decide) ?_
  refine k_rowI (kf := 1) (w := 12) (cs' := [L.length + 4, L.length + 6, 2, 0, 0]) (T' := T0 ++ [.inl (0, 12)]) dX6_init_18 dX6_init_20 kcX6 w_340 (by decide) (Nat.le_of_ble_eq_true rfl) rfl rfl rfl (fun x => rfl) (fun x => rfl) w_186 rfl (by decide) ⟨by omega, by (try simp only [k_lenL, List.length_append, List.length_cons, List.length_nil, hn0]) <;> omega⟩ hI k_okl1 (by (try simp only [k_lenL, List.length_append, List.length_cons, List.length_nil, hn0]) <;> rfl) rfl (fun hI => ?_)
  refine k_aload_n dX6_init_23 0 rfl rfl (by omega) ?_
  refine k_bipush (v := 36) dX6_init_24 (by decide) ?_
  refine k_rowI (kf := 2) (w := 36) (cs' := [L.length + 4, L.length + 6, L.length + 7, 0, 0]) (T' := T0 ++ [.inl (0, 12)] ++ [.inl (0, 36)]) dX6_init_26 dX6_init_28 kcX6 w_341 (by decide) (Nat.le_of_ble_eq_true rfl) rfl rfl rfl (fun x => rfl) (fun x => rfl) w_186 rfl (by decide) ⟨by omega, by (try simp only [k_lenL, List.length_append, List.length_cons, List.length_nil, hn0]) <;> omega⟩ hI k_okl1 (by (try simp only [k_lenL, List.length_append, List.length_cons, List.length_nil, hn0]) <;> rfl) rfl (fun hI => ?_)
  subst hT0
  exact k_ret_v dX6_init_31 rfl ⟨rfl, rfl, rfl, hI⟩
/-- a row of refs, made and put into its field -/
theorem k_rowQ {idx idq ci kf N w kd : Nat} {i : Int} {Cn : String} {cs cs' : List Nat} {T' : List k_Sh} {C : String} {Tf : u_T} {ty : Nat → FieldType} (hd : decode M.2.1 pc = .ok (.anewarray idq, 3)) (hd2 : decode M.2.1 (pc + 3) = .ok (.putfield idx, 3)) (hcl : Cond.classLink M.1.cls idq Cn ∈ k_TBL) (hao : Cond.arrayOver (.object Cn) ∈ k_NW) (hkt : (k_tys E)[kd]? = some (k_dA E kd, .object Cn)) (hkd : kd = 5 ∨ kd = 6) (hT : k_Cls ci C Tf N ty) (hw : Cond.fieldLink M.1.cls idx (Tf kf).1 (Tf kf).2.1 (Tf kf).2.2.1 ∈ k_TBL) (hkf : kf < N) (hk : kf < cs.length) (hfin : (Tf kf).2.2.2 = true) (hin : M.1.name = "<init>") (hdc : (Tf kf).1 = M.1.cls) (hn : ∀ x, narrow (ty kf) (.ref x) = .ref x) (hfit : ∀ x, fits (ty kf) (.ref x) = true) (hi : i = (w : Int)) (hw16 : w < 65536) (hN : L.length < 900000 ∧ T.length < 10000) (hI : k_I (L ++ (.inr (ci, cs) :: T)) σ) (hl : k_okl (L.length + 1) ls st) (hcs' : cs.set kf (L.length + (1 + T.length) + 3) = cs') (hT' : T ++ [.inl (kd, w)] = T')
    (kk : k_I (L ++ (.inr (ci, cs') :: T')) σ → k_V E M dp (pc + 6) ls st (L ++ (.inr (ci, cs') :: T')) σ k n Q) : k_V E M dp pc ls (.int (iI i) :: .ref L.length :: st) (L ++ (.inr (ci, cs) :: T)) σ (k + 1) (n + w) Q := by
  subst hcs' hT'
  have hlen : (L ++ ((.inr (ci, cs) : k_Sh) :: T)).length = L.length + (1 + T.length) := by rw [List.length_append, List.length_cons]; omega
  have hl2 := k_okl_mono (N2 := (L ++ ((.inr (ci, cs) : k_Sh) :: T)).length) (by omega) hl
  have hp := k_I_push hI (x := .inl (kd, w)) (fun _ _ h => by cases h)
  refine k_newq hd hcl hao hkt hkd hi hw16 (by omega) hI.1 hl2.1 (fun v hv => ?_) ?_
  · rcases List.mem_cons.mp hv with rfl | hv
    · exact Or.inl (by show L.length < _; rw [hlen]; omega)
    · exact hl2.2 v hv
  · have e : (L ++ ((.inr (ci, cs) : k_Sh) :: T)) ++ [.inl (kd, w)] = L ++ (.inr (ci, cs) :: (T ++ [.inl (kd, w)])) := List.append_assoc _ _ _
    have hp1 := hp.1
    rw [hp.2, e]
    rw [e] at hp1
    have hs := k_get_mid L (T ++ [.inl (kd, w)]) (.inr (ci, cs))
    refine k_putFr hd2 hT hw hkf (by omega) hs hk hfin hin hdc (by omega) hn hfit ?_
    have h2 := k_I_set (kf := kf) (r := L.length + (1 + T.length)) hp1 hs (by rw [List.length_append, List.length_cons, List.length_append, List.length_singleton]; omega)
    rw [k_set_mid] at h2
    rw [hlen, k_set_mid]
    exact kk h2
theorem k_I_q {a kd w v i : Nat} (h : k_I sh σ) (hs : sh[a]? = some (.inl (kd, w))) (hv : v < sh.length ∨ 1000000 ≤ v) : k_I sh (k_up σ a (k_u1 (σ a) i ((v : Int) + 1))) := by
  have hl : a < sh.length := (List.getElem?_eq_some_iff.mp hs).1
  refine ⟨fun q y hy => ?_, fun q hq => by rw [k_up_ne (by omega)]; exact h.2 q hq⟩
  by_cases e : q = a
  · subst e
    rw [k_up_same]
    rw [hs] at hy
    cases hy
    have h0 := h.1 q _ hs
    have hz : ∀ j, (k_u1 (σ q) i ((v : Int) + 1) j = σ q j) ∨ k_u1 (σ q) i ((v : Int) + 1) j = (v : Int) + 1 := fun j => by
      unfold k_u1
      split
      · exact Or.inr rfl
      · exact Or.inl rfl
    have hv2 : k_okv sh.length (.ref (((v : Int) + 1).toNat - 1)) := by
      have : ((v : Int) + 1).toNat - 1 = v := by omega
      rw [this]
      exact hv
    match kd, h0 with
    | 0, _ => trivial
    | 1, _ => trivial
    | 2, _ => trivial
    | 3, _ => trivial
    | 4, _ => trivial
    | 5, h0 => exact fun j => (hz j).elim (fun e => by rw [e]; exact h0 j) (fun e => by rw [e]; exact Or.inr hv2)
    | 6, h0 => exact fun j => (hz j).elim (fun e => by rw [e]; exact h0 j) (fun e => by rw [e]; exact Or.inr hv2)
    | _ + 7, _ => trivial
  · rw [k_up_ne e]
    exact h.1 q y hy
theorem k_cnt {k' n' : Nat} (hk : k' = k) (hn : n' = n) (kk : k_V E M dp pc ls st sh σ k' n' Q) : k_V E M dp pc ls st sh σ k n Q := by
  subst hk hn
  exact kk
theorem k_get_mid1 (L T : List k_Sh) (x y : k_Sh) : (L ++ (x :: y :: T))[L.length + 1]? = some y := by
  rw [List.getElem?_append_right (Nat.le_add_right _ _), Nat.add_sub_cancel_left]
  rfl
def u_kp (σ : Nat → Nat → Int) (A i : Nat) : Nat → Nat → Int := k_up σ (A + 1) (k_u1 (σ (A + 1)) i (((A + 2 + 9 * i : Nat) : Int) + 1))
def g_hi (σ : Nat → Nat → Int) (A : Nat) : Nat → Nat → Nat → Int
  | 0 => σ
  | i + 1 => u_kp (u_plan0 (g_hi σ A i) (A + 2 + 9 * i)) A i

set_option maxHeartbeats 4000000 in
theorem c_hisL (hN : L.length < 800000) : ∀ (f i : Nat) (σ : Nat → Nat → Int), i + f = 8 → k_I (L ++ k_hisS L.length i) (g_hi σ L.length i) → k_V E mX3_init 3 15 [(0, .ref L.length), (1, .int (iI (i : Int)))] [] (L ++ k_hisS L.length i) (g_hi σ L.length i) (9 * f) (122 * f) (fun r sh' σ' => r = .inl none ∧ sh' = L ++ k_hisS L.length 8 ∧ σ' = g_hi σ L.length 8 ∧ k_I sh' σ')
  | 0, i, σ, hf, hI => by
    have e : i = 8 := hf
    subst e
    refine k_iload_n dX3_init_15 1 rfl rfl ?_
    refine k_aload_n dX3_init_16 0 rfl rfl (by omega) ?_
    refine k_get (kf := 0) (v := .ref (L.length + 1)) dX3_init_17 kcX3 w_288 (by decide) (by omega) (k_get_mid L _ _) rfl rfl ?_
    refine k_alen dX3_init_20 (by omega) (k_get_mid1 L _ _ _) (by decide) ?_
    refine k_icmp_ge (tgt := 43) dX3_init_21 rfl ⟨by decide, by decide⟩ ⟨by decide, by decide⟩ (fun _ => ?_) (fun h => absurd h (by decide))
    exact k_ret_v dX3_init_43 rfl ⟨rfl, rfl, rfl, hI⟩
  | f + 1, i, σ, hf, hI => by
    refine k_iload_n dX3_init_15 1 rfl rfl ?_
    refine k_aload_n dX3_init_16 0 rfl rfl (by omega) ?_
    refine k_get (kf := 0) (v := .ref (L.length + 1)) dX3_init_17 kcX3 w_288 (by decide) (by omega) (k_get_mid L _ _) rfl rfl ?_
    refine k_alen dX3_init_20 (by omega) (k_get_mid1 L _ _ _) (by decide) ?_
    refine k_icmp_ge (tgt := 43) dX3_init_21 rfl ⟨by omega, by omega⟩ ⟨by decide, by decide⟩ (fun h => absurd h (by omega)) (fun _ => ?_)
    refine k_aload_n dX3_init_24 0 rfl rfl (by omega) ?_
    refine k_get (kf := 0) (v := .ref (L.length + 1)) dX3_init_25 kcX3 w_288 (by decide) (by omega) (k_get_mid L _ _) rfl rfl ?_
    refine k_iload_n dX3_init_28 1 rfl rfl ?_
    have hp := k_plans_len L.length i
    have hl0 : (L ++ k_hisS L.length i).length = L.length + 2 + 9 * i := by
      rw [k_lenL]
      show L.length + ((k_plans L.length i).length + 1 + 1) = _
      omega
    refine k_cnt (k' := 8 + 9 * f + 1) (n' := 110 + 122 * f + 12) (by omega) (by omega) ?_
    refine k_newJ (T := .inl (5, 8) :: k_plans L.length i) (r := L.length + 2 + 9 * i) (cs := [0, 0, 0, 2, 2, 2, 2, 2, 2, 0, 2, 2]) dX3_init_29 kcX5 w_285 w_126 w_86 rfl (by decide) (by intro j hj; have hj2 : j = 0 ∨ j = 1 ∨ j = 2 ∨ j = 3 ∨ j = 4 ∨ j = 5 ∨ j = 6 ∨ j = 7 ∨ j = 8 ∨ j = 9 ∨ j = 10 ∨ j = 11 := (by omega); rcases hj2 with rfl | rfl | rfl | rfl | rfl | rfl | rfl | rfl | rfl | rfl | rfl | rfl <;> rfl) ⟨by omega, by rw [List.length_cons]; omega⟩ hI (k_okl_l (Or.inl (by show (L.length : Nat) < (L ++ k_hisS L.length i).length; rw [hl0]; omega)) (k_okl_l (by trivial) (k_okl_s (by trivial) (k_okl_s (Or.inl (by show (L.length + 1 : Nat) < (L ++ k_hisS L.length i).length; rw [hl0]; omega)) k_okl_0)))) rfl (by rw [List.length_cons]; omega) (fun hI => ?_)
    refine k_dup dX3_init_32 rfl ?_
    have ea : (L ++ k_hisS L.length i) ++ [.inr (6, [0, 0, 0, 2, 2, 2, 2, 2, 2, 0, 2, 2])] = L ++ (k_hisX L.length :: (.inl (5, 8) :: k_plans L.length i ++ [.inr (6, [0, 0, 0, 2, 2, 2, 2, 2, 2, 0, 2, 2])])) := List.append_assoc _ _ _
    have hI2 : k_I ((L ++ k_hisS L.length i) ++ [.inr (6, [0, 0, 0, 2, 2, 2, 2, 2, 2, 0, 2, 2])]) (g_hi σ L.length i) := by rw [ea]; exact hI
    have hlb : (L ++ (k_hisX L.length :: (.inl (5, 8) :: k_plans L.length i ++ [.inr (6, [0, 0, 0, 2, 2, 2, 2, 2, 2, 0, 2, 2])]))).length = L.length + 2 + 9 * i + 1 := by
      rw [← ea, List.length_append, hl0]
      rfl
    refine k_callI (k := 9 * f) (n := 122 * f) (st := [.ref (L.length + 2 + 9 * i), .int (iI (i : Int)), .ref (L.length + 1)]) (as := []) dX3_init_33 oX5_init rfl rfl w_287 w_128 rfl (by omega) rfl (Nat.le_of_ble_eq_true rfl) (by omega) (k_C_eq hl0 ea (c_planInit (by omega) hI2)) (fun X s1 s2 h => by cases h.1) (Or.inl ?_) (fun v s1 s2 h => ?_)
    · exact k_okl_l (Or.inl (by show (L.length : Nat) < List.length _; rw [hlb]; omega)) (k_okl_l (by trivial) (k_okl_s (Or.inl (by show (L.length + 2 + 9 * i : Nat) < List.length _; rw [hlb]; omega)) (k_okl_s (by trivial) (k_okl_s (Or.inl (by show (L.length + 1 : Nat) < List.length _; rw [hlb]; omega)) k_okl_0))))
    · obtain ⟨g1, g2, g3, hI⟩ := h
      rw [hl0] at g2 g3
      have eb : (L ++ k_hisS L.length i) ++ k_planS (L.length + 2 + 9 * i) = L ++ k_hisS L.length (i + 1) := List.append_assoc _ _ _
      have hs6 := k_get_mid (L ++ k_hisS L.length i) (k_planS (L.length + 2 + 9 * i)).tail (.inr (6, [0, 0, 0, L.length + 2 + 9 * i + 4, L.length + 2 + 9 * i + 5, L.length + 2 + 9 * i + 6, L.length + 2 + 9 * i + 7, L.length + 2 + 9 * i + 8, L.length + 2 + 9 * i + 9, 0, L.length + 2 + 9 * i + 10, L.length + 2 + 9 * i + 11]))
      rw [hl0] at hs6
      have hs6b : (L ++ k_hisS L.length (i + 1))[L.length + 2 + 9 * i]? = _ := eb ▸ hs6
      have g2 := g2.trans eb
      subst g2 g3
      cases g1
      refine k_aast5 dX3_init_36 (by omega) (k_get_mid1 L _ _ _) (by omega) (by omega) (by decide) (by omega) hs6b (rfl : k_cls[6]? = some _) rfl ?_
      have hI3 := k_I_q (i := i) (v := L.length + 2 + 9 * i) hI (k_get_mid1 L (k_plans L.length (i + 1)) (k_hisX L.length) (.inl (5, 8))) (Or.inl (by rw [← eb, List.length_append, hl0]; show _ < _ + 9; omega))
      refine k_iinc (ls' := [(0, .ref L.length), (1, .int (iI ((i : Int) + 1)))]) dX3_init_37 1 rfl (by decide) rfl rfl ?_
      refine k_goto (tgt := 15) dX3_init_40 rfl ?_
      rw [show ((i : Int).toNat) = i from Int.toNat_natCast i]
      exact c_hisL hN f (i + 1) σ (by omega) hI3
set_option maxHeartbeats 4000000 in
theorem c_hisInit (hN : L.length < 800000) (hI : k_I (L ++ [.inr (4, [2, 0, 0])]) σ) : k_C E mX3_init 3 [.ref L.length] (L ++ [.inr (4, [2, 0, 0])]) σ 73 984 (fun r sh' σ' => r = .inl none ∧ sh' = L ++ k_hisS L.length 8 ∧ σ' = g_hi σ L.length 8 ∧ k_I sh' σ') := by
  refine k_C_of (ls0 := [(0, .ref L.length)]) rfl pnX3 (fun v hv => k_cat1 rfl hv) (Nat.le_of_ble_eq_true rfl) rfl ?_
  refine k_aload_n dX3_init_0 0 rfl rfl (by omega) ?_
  refine k_objI dX3_init_1 w_284 w_123 k_codeobj (by omega) (Nat.le_of_ble_eq_true rfl) (by omega) ?_
  refine k_aload_n dX3_init_4 0 rfl rfl (by omega) ?_
  refine k_bipush (v := 8) dX3_init_5 (by decide) ?_
  refine k_rowQ (kf := 0) (kd := 5) (w := 8) (cs' := [L.length + 4, 0, 0]) (T' := [.inl (5, 8)]) dX3_init_7 dX3_init_10 w_285 k_ao5 (k_tys_at E (k := 5) (by decide)) (Or.inl rfl) kcX3 w_288 (by decide) (Nat.le_of_ble_eq_true rfl) rfl rfl rfl (fun x => rfl) (fun x => rfl) rfl (by decide) ⟨by omega, by simp only [List.length_cons, List.length_nil]; omega⟩ hI k_okl1 rfl rfl (fun hI => ?_)
  refine k_iconst (v := 0) dX3_init_13 rfl ?_
  refine k_istore_n (ls' := [(0, .ref L.length), (1, .int (iI 0))]) dX3_init_14 rfl (by decide) rfl rfl ?_
  exact c_hisL hN 8 0 σ rfl hI
end K_CO
