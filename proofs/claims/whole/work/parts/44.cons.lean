/-! ===== THE MAKING: constructors ===== -/
section K_CO
variable {E : k_E} {M M1 : k_M} {dp d1 pc k n k1 n1 na : Nat} {ls : List (Nat × Value)} {st as : List Value} {sh L T : List k_Sh} {σ σ' τ : Nat → Nat → Int} {Q Q1 : k_Q} {o : Option Value}
theorem k_codeobj : Cond.code Lib.objectInit ⟨#[0xb1]⟩ 1 none ∈ k_TBL := List.mem_filter.mpr ⟨List.mem_of_getElem? (i := 124) (by decide +kernel), rfl⟩
/-- the world while it is made: refs point into it, and behind it all is 0 -/
def k_I (sh : List k_Sh) (σ : Nat → Nat → Int) : Prop := k_ok sh σ ∧ ∀ i, sh.length ≤ i → σ i = fun _ => 0
theorem k_okv_mono {N N2 : Nat} (h : N ≤ N2) {v : Value} (hv : k_okv N v) : k_okv N2 v := by
  cases v with
  | ref k =>
    have hv : k < N ∨ 1000000 ≤ k := hv
    exact hv.imp (fun q => Nat.lt_of_lt_of_le q h) id
  | _ => trivial
theorem k_okc_mono {N N2 : Nat} (h : N ≤ N2) {x : k_Sh} {f : Nat → Int} (hv : k_okc N x f) : k_okc N2 x f := by
  match x, hv with
  | .inl (0, _), _ => trivial
  | .inl (1, _), _ => trivial
  | .inl (2, _), _ => trivial
  | .inl (3, _), _ => trivial
  | .inl (4, _), _ => trivial
  | .inl (5, _), hv => exact fun j => (hv j).imp id (k_okv_mono h)
  | .inl (6, _), hv => exact fun j => (hv j).imp id (k_okv_mono h)
  | .inl (_ + 7, _), _ => trivial
  | .inr (_, _), hv => exact fun k c hc => k_okv_mono h (hv k c hc)
theorem k_okc_new (N : Nat) : ∀ x : k_Sh, (∀ ci cs, x = .inr (ci, cs) → ∀ c ∈ cs, c = 0 ∨ c = 2) → k_okc N x (fun _ => 0)
  | .inl (0, _), _ => trivial
  | .inl (1, _), _ => trivial
  | .inl (2, _), _ => trivial
  | .inl (3, _), _ => trivial
  | .inl (4, _), _ => trivial
  | .inl (5, _), _ => fun _ => Or.inl rfl
  | .inl (6, _), _ => fun _ => Or.inl rfl
  | .inl (_ + 7, _), _ => trivial
  | .inr (ci, cs), h => fun k c hc => by
    rcases h ci cs rfl c (List.mem_of_getElem? hc) with rfl | rfl <;> trivial
theorem k_I_push (h : k_I sh σ) {x : k_Sh} (hx : ∀ ci cs, x = .inr (ci, cs) → ∀ c ∈ cs, c = 0 ∨ c = 2) : k_I (sh ++ [x]) σ ∧ k_up σ sh.length (fun _ => 0) = σ := by
  refine ⟨⟨fun i y hy => ?_, fun i hi => h.2 i (by rw [List.length_append] at hi; omega)⟩, ?_⟩
  · rw [List.length_append]
    rcases Nat.lt_or_ge i sh.length with q | q
    · rw [List.getElem?_append_left q] at hy
      exact k_okc_mono (Nat.le_add_right _ _) (h.1 i y hy)
    · rw [List.getElem?_append_right q] at hy
      have : y = x := by
        rcases Nat.eq_zero_or_pos (i - sh.length) with e | e
        · rw [e] at hy
          cases hy
          rfl
        · rw [List.getElem?_eq_none (by rw [List.length_singleton]; omega)] at hy
          cases hy
      subst this
      rw [h.2 i q]
      exact k_okc_new _ _ hx
  · funext i
    by_cases e : i = sh.length
    · subst e
      rw [k_up_same, h.2 _ (Nat.le_refl _)]
    · rw [k_up_ne e]
theorem k_get_mid (L T : List k_Sh) (x : k_Sh) : (L ++ (x :: T))[L.length]? = some x := by
  rw [List.getElem?_append_right (Nat.le_refl _), Nat.sub_self]
  rfl
theorem k_set_mid (L T : List k_Sh) (x y : k_Sh) : (L ++ (x :: T)).set L.length y = L ++ (y :: T) := by
  rw [List.set_append, if_neg (Nat.lt_irrefl _), Nat.sub_self]
  rfl
theorem k_I_set {a ci kf r : Nat} {cs : List Nat} (h : k_I sh σ) (hs : sh[a]? = some (.inr (ci, cs))) (hr : r < sh.length) : k_I (sh.set a (.inr (ci, cs.set kf (r + 3)))) σ := by
  refine ⟨fun i y hy => ?_, fun i hi => h.2 i (by rw [List.length_set] at hi; exact hi)⟩
  rw [List.length_set]
  rw [List.getElem?_set] at hy
  by_cases e : a = i
  · subst e
    rw [if_pos rfl] at hy
    split at hy
    · cases hy
      intro k c hc
      rw [List.getElem?_set] at hc
      by_cases e2 : kf = k
      · subst e2
        rw [if_pos rfl] at hc
        split at hc
        · cases hc
          exact Or.inl hr
        · cases hc
      · rw [if_neg e2] at hc
        exact h.1 a _ hs k c hc
    · cases hy
  · rw [if_neg e] at hy
    exact h.1 i y hy
theorem k_I_int {a ci kf : Nat} {cs : List Nat} {v : Int} (h : k_I sh σ) (hs : sh[a]? = some (.inr (ci, cs))) (hc : cs[kf]? = some 0) : k_I sh (k_up σ a (k_u1 (σ a) kf v)) := by
  have hl : a < sh.length := (List.getElem?_eq_some_iff.mp hs).1
  refine ⟨fun i y hy => ?_, fun i hi => by rw [k_up_ne (by omega)]; exact h.2 i hi⟩
  by_cases e : i = a
  · subst e
    rw [k_up_same]
    rw [hs] at hy
    cases hy
    intro k c hk
    by_cases e2 : k = kf
    · subst e2
      rw [hc] at hk
      cases hk
      trivial
    · have := h.1 i _ hs k c hk
      rw [show k_u1 (σ i) kf v k = σ i k from if_neg e2]
      exact this
  · rw [k_up_ne e]
    exact h.1 i y hy
theorem k_okl_mono {N N2 : Nat} (h : N ≤ N2) (hl : k_okl N ls st) : k_okl N2 ls st := ⟨fun z hz => k_okv_mono h (hl.1 z hz), fun v hv => k_okv_mono h (hl.2 v hv)⟩
/-- a row of ints, made and put into its field -/
theorem k_rowI {idx ci kf N w : Nat} {i : Int} {cs cs' : List Nat} {T' : List k_Sh} {C : String} {Tf : u_T} {ty : Nat → FieldType} (hd : decode M.2.1 pc = .ok (.newarray .int, 2)) (hd2 : decode M.2.1 (pc + 2) = .ok (.putfield idx, 3)) (hT : k_Cls ci C Tf N ty) (hw : Cond.fieldLink M.1.cls idx (Tf kf).1 (Tf kf).2.1 (Tf kf).2.2.1 ∈ k_TBL) (hkf : kf < N) (hk : kf < cs.length) (hfin : (Tf kf).2.2.2 = true) (hin : M.1.name = "<init>") (hdc : (Tf kf).1 = M.1.cls) (hn : ∀ x, narrow (ty kf) (.ref x) = .ref x) (hfit : ∀ x, fits (ty kf) (.ref x) = true) (harr : Cond.arrayClass .int ∈ k_TBL) (hi : i = (w : Int)) (hw16 : w < 65536) (hN : L.length < 900000 ∧ T.length < 10000) (hI : k_I (L ++ (.inr (ci, cs) :: T)) σ) (hl : k_okl (L.length + 1) ls st) (hcs' : cs.set kf (L.length + (1 + T.length) + 3) = cs') (hT' : T ++ [.inl (0, w)] = T')
    (kk : k_I (L ++ (.inr (ci, cs') :: T')) σ → k_V E M dp (pc + 5) ls st (L ++ (.inr (ci, cs') :: T')) σ k n Q) : k_V E M dp pc ls (.int (iI i) :: .ref L.length :: st) (L ++ (.inr (ci, cs) :: T)) σ (k + 1) (n + w) Q := by
  subst hcs' hT'
  have hlen : (L ++ ((.inr (ci, cs) : k_Sh) :: T)).length = L.length + (1 + T.length) := by rw [List.length_append, List.length_cons]; omega
  have hl2 := k_okl_mono (N2 := (L ++ ((.inr (ci, cs) : k_Sh) :: T)).length) (by omega) hl
  have hp := k_I_push hI (x := .inl (0, w)) (fun _ _ h => by cases h)
  refine k_newa0 hd harr hi hw16 (by omega) hI.1 hl2.1 (fun v hv => ?_) ?_
  · rcases List.mem_cons.mp hv with rfl | hv
    · exact Or.inl (by show L.length < _; rw [hlen]; omega)
    · exact hl2.2 v hv
  · have e : (L ++ ((.inr (ci, cs) : k_Sh) :: T)) ++ [.inl (0, w)] = L ++ (.inr (ci, cs) :: (T ++ [.inl (0, w)])) := List.append_assoc _ _ _
    have hp1 := hp.1
    rw [hp.2, e]
    rw [e] at hp1
    have hs := k_get_mid L (T ++ [.inl (0, w)]) (.inr (ci, cs))
    refine k_putFr hd2 hT hw hkf (by omega) hs hk hfin hin hdc (by omega) hn hfit ?_
    have h2 := k_I_set (kf := kf) (r := L.length + (1 + T.length)) hp1 hs (by rw [List.length_append, List.length_cons, List.length_append, List.length_singleton]; omega)
    rw [k_set_mid] at h2
    rw [hlen, k_set_mid]
    exact kk h2
theorem k_refF {idx ci kf N r : Nat} {cs cs' : List Nat} {C : String} {Tf : u_T} {ty : Nat → FieldType} (hd2 : decode M.2.1 pc = .ok (.putfield idx, 3)) (hT : k_Cls ci C Tf N ty) (hw : Cond.fieldLink M.1.cls idx (Tf kf).1 (Tf kf).2.1 (Tf kf).2.2.1 ∈ k_TBL) (hkf : kf < N) (hk : kf < cs.length) (hfin : (Tf kf).2.2.2 = true) (hin : M.1.name = "<init>") (hdc : (Tf kf).1 = M.1.cls) (hn : ∀ x, narrow (ty kf) (.ref x) = .ref x) (hfit : ∀ x, fits (ty kf) (.ref x) = true) (hN : L.length < 900000 ∧ T.length < 10000) (hI : k_I (L ++ (.inr (ci, cs) :: T)) σ) (hr : r < L.length + (1 + T.length)) (hcs' : cs.set kf (r + 3) = cs')
    (kk : k_I (L ++ (.inr (ci, cs') :: T)) σ → k_V E M dp (pc + 3) ls st (L ++ (.inr (ci, cs') :: T)) σ k n Q) : k_V E M dp pc ls (.ref r :: .ref L.length :: st) (L ++ (.inr (ci, cs) :: T)) σ k n Q := by
  subst hcs'
  have hs := k_get_mid L T (.inr (ci, cs))
  refine k_putFr hd2 hT hw hkf (by omega) hs hk hfin hin hdc (by omega) hn hfit ?_
  have h2 := k_I_set (kf := kf) (r := r) hI hs (by rw [List.length_append, List.length_cons]; omega)
  rw [k_set_mid] at h2
  rw [k_set_mid]
  exact kk h2
theorem k_intF {idx ci kf N : Nat} {cs : List Nat} {C : String} {Tf : u_T} {ty : Nat → FieldType} {z : Int} (hd : decode M.2.1 pc = .ok (.putfield idx, 3)) (hT : k_Cls ci C Tf N ty) (hw : Cond.fieldLink M.1.cls idx (Tf kf).1 (Tf kf).2.1 (Tf kf).2.2.1 ∈ k_TBL) (hkf : kf < N) (hc : cs[kf]? = some 0) (hfin : (Tf kf).2.2.2 = false) (hn : narrow (ty kf) (.int (iI z)) = .int (iI z)) (hfit : fits (ty kf) (.int (iI z)) = true) (hN : L.length < 900000) (hI : k_I (L ++ (.inr (ci, cs) :: T)) σ)
    (kk : k_I (L ++ (.inr (ci, cs) :: T)) (k_up σ L.length (k_u1 (σ L.length) kf z)) → k_V E M dp (pc + 3) ls st (L ++ (.inr (ci, cs) :: T)) (k_up σ L.length (k_u1 (σ L.length) kf z)) k n Q) : k_V E M dp pc ls (.int (iI z) :: .ref L.length :: st) (L ++ (.inr (ci, cs) :: T)) σ k n Q := by
  have hs := k_get_mid L T (.inr (ci, cs))
  exact k_putf hd hT hw hkf (by omega) hs hc hfin hn hfit (kk (k_I_int hI hs hc))
theorem k_okl1 {N : Nat} : k_okl (N + 1) [(0, .ref N)] [] := by
  refine ⟨fun z hz => ?_, fun v hv => by cases hv⟩
  rcases List.mem_cons.mp hz with rfl | hz
  · exact Or.inl (Nat.lt_succ_self N)
  · cases hz
theorem k_okl2 {N p : Nat} (hp : p < N) : k_okl (N + 1) [(0, .ref N), (1, .ref p)] [] := by
  refine ⟨fun z hz => ?_, fun v hv => by cases hv⟩
  rcases List.mem_cons.mp hz with rfl | hz
  · exact Or.inl (Nat.lt_succ_self N)
  · rcases List.mem_cons.mp hz with rfl | hz
    · exact Or.inl (Nat.lt_succ_of_lt hp)
    · cases hz
/-- a plan at A, with its rows behind it -/
def k_planS (A : Nat) : List k_Sh := [.inr (6, [0, 0, 0, A + 4, A + 5, A + 6, A + 7, A + 8, A + 9, 0, A + 10, A + 11]), .inl (0, 7), .inl (0, 7), .inl (0, 28), .inl (0, 12), .inl (0, 36), .inl (0, 12), .inl (0, 4), .inl (0, 4)]
def u_plan0 (σ : Nat → Nat → Int) (A : Nat) : Nat → Nat → Int := k_up (k_up σ A (k_u1 (σ A) 1 3)) A (k_u1 (k_up σ A (k_u1 (σ A) 1 3) A) 9 (-1))
set_option maxHeartbeats 4000000 in
theorem c_planInit (hN : L.length < 900000) (hI : k_I (L ++ [.inr (6, [0, 0, 0, 2, 2, 2, 2, 2, 2, 0, 2, 2])]) σ) : k_C E mX5_init 2 [.ref L.length] (L ++ [.inr (6, [0, 0, 0, 2, 2, 2, 2, 2, 2, 0, 2, 2])]) σ 8 110 (fun r sh' σ' => r = .inl none ∧ sh' = L ++ k_planS L.length ∧ σ' = u_plan0 σ L.length ∧ k_I sh' σ') := by
  refine k_C_of (ls0 := [(0, .ref L.length)]) rfl pnX5 (fun v hv => k_cat1 rfl hv) (Nat.le_of_ble_eq_true rfl) rfl ?_
  refine k_aload_n dX5_init_0 0 rfl rfl (by omega) ?_
  refine k_objI dX5_init_1 w_130 w_123 k_codeobj (by omega) (Nat.le_of_ble_eq_true rfl) (by omega) ?_
  refine k_aload_n dX5_init_4 0 rfl rfl (by omega) ?_
  refine k_iconst (v := 3) dX5_init_5 rfl ?_
  refine k_intF (kf := 1) dX5_init_6 kcX5 w_135 (by decide) rfl rfl rfl rfl (by omega) hI (fun hI => ?_)
  refine k_aload_n dX5_init_9 0 rfl rfl (by omega) ?_
  refine k_bipush (v := 7) dX5_init_10 (by decide) ?_
  refine k_rowI (kf := 3) (w := 7) (cs' := [0, 0, 0, L.length + 4, 2, 2, 2, 2, 2, 0, 2, 2]) (T' := [.inl (0, 7)]) dX5_init_12 dX5_init_14 kcX5 w_142 (by decide) (Nat.le_of_ble_eq_true rfl) rfl rfl rfl (fun x => rfl) (fun x => rfl) w_186 rfl (by decide) ⟨by omega, by decide⟩ hI k_okl1 rfl rfl (fun hI => ?_)
  refine k_aload_n dX5_init_17 0 rfl rfl (by omega) ?_
  refine k_bipush (v := 7) dX5_init_18 (by decide) ?_
  refine k_rowI (kf := 4) (w := 7) (cs' := [0, 0, 0, L.length + 4, L.length + 5, 2, 2, 2, 2, 0, 2, 2]) (T' := [.inl (0, 7), .inl (0, 7)]) dX5_init_20 dX5_init_22 kcX5 w_144 (by decide) (Nat.le_of_ble_eq_true rfl) rfl rfl rfl (fun x => rfl) (fun x => rfl) w_186 rfl (by decide) ⟨by omega, by decide⟩ hI k_okl1 rfl rfl (fun hI => ?_)
  refine k_aload_n dX5_init_25 0 rfl rfl (by omega) ?_
  refine k_bipush (v := 28) dX5_init_26 (by decide) ?_
  refine k_rowI (kf := 5) (w := 28) (cs' := [0, 0, 0, L.length + 4, L.length + 5, L.length + 6, 2, 2, 2, 0, 2, 2]) (T' := [.inl (0, 7), .inl (0, 7), .inl (0, 28)]) dX5_init_28 dX5_init_30 kcX5 w_145 (by decide) (Nat.le_of_ble_eq_true rfl) rfl rfl rfl (fun x => rfl) (fun x => rfl) w_186 rfl (by decide) ⟨by omega, by decide⟩ hI k_okl1 rfl rfl (fun hI => ?_)
  refine k_aload_n dX5_init_33 0 rfl rfl (by omega) ?_
  refine k_bipush (v := 12) dX5_init_34 (by decide) ?_
  refine k_rowI (kf := 6) (w := 12) (cs' := [0, 0, 0, L.length + 4, L.length + 5, L.length + 6, L.length + 7, 2, 2, 0, 2, 2]) (T' := [.inl (0, 7), .inl (0, 7), .inl (0, 28), .inl (0, 12)]) dX5_init_36 dX5_init_38 kcX5 w_146 (by decide) (Nat.le_of_ble_eq_true rfl) rfl rfl rfl (fun x => rfl) (fun x => rfl) w_186 rfl (by decide) ⟨by omega, by decide⟩ hI k_okl1 rfl rfl (fun hI => ?_)
  refine k_aload_n dX5_init_41 0 rfl rfl (by omega) ?_
  refine k_bipush (v := 36) dX5_init_42 (by decide) ?_
  refine k_rowI (kf := 7) (w := 36) (cs' := [0, 0, 0, L.length + 4, L.length + 5, L.length + 6, L.length + 7, L.length + 8, 2, 0, 2, 2]) (T' := [.inl (0, 7), .inl (0, 7), .inl (0, 28), .inl (0, 12), .inl (0, 36)]) dX5_init_44 dX5_init_46 kcX5 w_150 (by decide) (Nat.le_of_ble_eq_true rfl) rfl rfl rfl (fun x => rfl) (fun x => rfl) w_186 rfl (by decide) ⟨by omega, by decide⟩ hI k_okl1 rfl rfl (fun hI => ?_)
  refine k_aload_n dX5_init_49 0 rfl rfl (by omega) ?_
  refine k_bipush (v := 12) dX5_init_50 (by decide) ?_
  refine k_rowI (kf := 8) (w := 12) (cs' := [0, 0, 0, L.length + 4, L.length + 5, L.length + 6, L.length + 7, L.length + 8, L.length + 9, 0, 2, 2]) (T' := [.inl (0, 7), .inl (0, 7), .inl (0, 28), .inl (0, 12), .inl (0, 36), .inl (0, 12)]) dX5_init_52 dX5_init_54 kcX5 w_151 (by decide) (Nat.le_of_ble_eq_true rfl) rfl rfl rfl (fun x => rfl) (fun x => rfl) w_186 rfl (by decide) ⟨by omega, by decide⟩ hI k_okl1 rfl rfl (fun hI => ?_)
  refine k_aload_n dX5_init_57 0 rfl rfl (by omega) ?_
  refine k_iconst (v := (-1)) dX5_init_58 rfl ?_
  refine k_intF (kf := 9) dX5_init_59 kcX5 w_155 (by decide) rfl rfl rfl rfl (by omega) hI (fun hI => ?_)
  refine k_aload_n dX5_init_62 0 rfl rfl (by omega) ?_
  refine k_iconst (v := 4) dX5_init_63 rfl ?_
  refine k_rowI (kf := 10) (w := 4) (cs' := [0, 0, 0, L.length + 4, L.length + 5, L.length + 6, L.length + 7, L.length + 8, L.length + 9, 0, L.length + 10, 2]) (T' := [.inl (0, 7), .inl (0, 7), .inl (0, 28), .inl (0, 12), .inl (0, 36), .inl (0, 12), .inl (0, 4)]) dX5_init_64 dX5_init_66 kcX5 w_157 (by decide) (Nat.le_of_ble_eq_true rfl) rfl rfl rfl (fun x => rfl) (fun x => rfl) w_186 rfl (by decide) ⟨by omega, by decide⟩ hI k_okl1 rfl rfl (fun hI => ?_)
  refine k_aload_n dX5_init_69 0 rfl rfl (by omega) ?_
  refine k_iconst (v := 4) dX5_init_70 rfl ?_
  refine k_rowI (kf := 11) (w := 4) (cs' := [0, 0, 0, L.length + 4, L.length + 5, L.length + 6, L.length + 7, L.length + 8, L.length + 9, 0, L.length + 10, L.length + 11]) (T' := [.inl (0, 7), .inl (0, 7), .inl (0, 28), .inl (0, 12), .inl (0, 36), .inl (0, 12), .inl (0, 4), .inl (0, 4)]) dX5_init_71 dX5_init_73 kcX5 w_159 (by decide) (Nat.le_of_ble_eq_true rfl) rfl rfl rfl (fun x => rfl) (fun x => rfl) w_186 rfl (by decide) ⟨by omega, by decide⟩ hI k_okl1 rfl rfl (fun hI => ?_)
  exact k_ret_v dX5_init_76 rfl ⟨rfl, rfl, rfl, hI⟩
end K_CO
