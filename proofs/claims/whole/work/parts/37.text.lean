/-! text: what was read taken over -/
def t_Q_copyFrom : mmT := fun as M Q => match as with
  | [.inr (.inr o), .inr (.inr s)] => o = 18 ∧ s = 8 ∧ 0 ≤ M 8 4 ∧ M 8 4 ≤ 24 ∧ ∀ M', (∀ o', o' < 18 ∨ 22 < o' → M' o' = M o') → M' 18 4 = M 8 4 → (∀ q, 0 ≤ q → q < M 8 4 → M' 19 q = M 9 q ∧ M' 20 q = M 10 q ∧ M' 21 q = M 11 q ∧ M' 22 q = M 12 q) → Q none M'
  | _ => False
set_option maxHeartbeats 4000000 in
set_option maxRecDepth 100000 in
theorem p_Q_copyFrom : ∀ as M Q, (∀ v ∈ as, mm_vin v) → mm_mem M → t_Q_copyFrom as M Q → (mm_ent as).length ≤ 3 ∧ mm_ok mb_Q_copyFrom [(204, t_Q_add)] (mm_entry 3 as) M Q := by
  intro as M Q hin hM h
  unfold t_Q_copyFrom at h
  split at h
  rotate_left
  · exact h.elim
  rename_i o s
  refine ⟨by simp [mm_ent], (show mm_ok mb_Q_copyFrom [(204, t_Q_add)] [some (vr o), some (vr s), none] M Q from ?_)⟩
  intro J hJ
  obtain ⟨rfl, rfl, n0, n1, h⟩ := h
  have hl : ∀ (d k : Nat) (M1 : mmM), (k : Int) + d = M 8 4 → (∀ o', o' < 18 ∨ 22 < o' → M1 o' = M o') → M1 18 4 = k → (∀ q : Int, 0 ≤ q → q < k → M1 19 q = M 9 q ∧ M1 20 q = M 10 q ∧ M1 21 q = M 11 q ∧ M1 22 q = M 12 q) → J 7 [some (vr 18), some (vr 8), some (vi k)] [] M1 := by
    intro d
    induction d with
    | zero =>
      intro k M1 hk f1 s1 hv
      have e8 : M1 8 = M 8 := f1 8 (by decide)
      have h49 : J 49 [some (vr 18), some (vr 8), some (vi k)] [] M1 := by
        refine hJ 49 _ _ _ (show mm_wp _ _ _ mo_Q_copyFrom_49 _ _ _ from ?_)
        simp only [mo_Q_copyFrom_49, mm_wp, mm_ldi, mm_lda, mm_ldl, mm_sti, mm_sta, mm_stl, mm_inc, mm_2i, mm_mm, mm_2l, mm_lcmp, mm_i2l, mm_l2i, mm_cast8, mm_if1, mm_if2, mm_cmp, mm_swi, mm_sw, mm_pop1, mm_dup, mm_dup2, mm_geti, mm_geta, mm_puti, mm_iald, mm_bald, mm_aald, mm_iast, mm_bast, mm_alen, mm_acpy, mm_call, mm_callv, mm_recv, mm_pop, mm_find, mm_push, mm_cats, mm_cat, mm_reti, mm_retz, mm_retl, mm_reta, mm_retv, mm_set1, mm_set2, mm_kill, List.getElem?_cons_zero, List.getElem?_cons_succ, Int.reduceToNat, ↓reduceIte, Nat.reduceEqDiff, Nat.reduceDiv, Nat.reduceAdd, Nat.reduceLeDiff, Nat.zero_le, true_and, and_true, true_or, or_true, mm_b0, mm_b1, mm_lc_lt, mm_lc_le, mm_lc_gt, mm_lc_ge, mm_lc_eq, Int.not_lt, Int.not_le, Decidable.not_not, Int.sub_neg]
        exact h M1 f1 (by omega) (fun q q0 q1 => hv q q0 (by omega))
      refine hJ 7 _ _ _ (show mm_wp _ _ _ mo_Q_copyFrom_7 _ _ _ from ?_)
      simp only [mo_Q_copyFrom_7, mm_wp, mm_ldi, mm_lda, mm_ldl, mm_sti, mm_sta, mm_stl, mm_inc, mm_2i, mm_mm, mm_2l, mm_lcmp, mm_i2l, mm_l2i, mm_cast8, mm_if1, mm_if2, mm_cmp, mm_swi, mm_sw, mm_pop1, mm_dup, mm_dup2, mm_geti, mm_geta, mm_puti, mm_iald, mm_bald, mm_aald, mm_iast, mm_bast, mm_alen, mm_acpy, mm_call, mm_callv, mm_recv, mm_pop, mm_find, mm_push, mm_cats, mm_cat, mm_reti, mm_retz, mm_retl, mm_reta, mm_retv, mm_set1, mm_set2, mm_kill, List.getElem?_cons_zero, List.getElem?_cons_succ, Int.reduceToNat, ↓reduceIte, Nat.reduceEqDiff, Nat.reduceDiv, Nat.reduceAdd, Nat.reduceLeDiff, Nat.zero_le, true_and, and_true, true_or, or_true, mm_b0, mm_b1, mm_lc_lt, mm_lc_le, mm_lc_gt, mm_lc_ge, mm_lc_eq, Int.not_lt, Int.not_le, Decidable.not_not, Int.sub_neg, c_0, c_1, c_2, l_2, c_3, c_4, l_4, c_5, l_5, c_6, l_6, c_7, l_7, c_8, c_9, l_9, c_10, l_10, c_11, l_11, c_12, l_12, c_13, c_14, l_14, c_15, l_15, c_16, l_16, c_17, l_17, c_18, c_19, l_19, c_20, l_20, c_21, l_21, c_22, l_22, c_23, c_24, l_24, c_25, l_25, c_26, c_27, c_28, l_28, c_29, c_30, l_30, c_31, c_32, l_32, c_33, l_33, c_34, l_34, c_35, l_35, c_36, l_36, c_37, l_37, c_38, l_38, c_39, l_39, c_40, c_41, l_41, c_42, c_43, c_44, l_44, c_45, c_46, l_46, c_47, c_48, l_48, c_49, l_49, c_50, l_50, c_51, l_51, c_52, l_52, c_53, l_53, c_54, l_54, c_55, l_55, c_56, l_56, c_57, l_57, c_58, l_58, c_59, l_59, c_60, l_60, c_61, l_61, c_62, c_63, l_63, c_64, l_64, c_65, l_65, c_66, l_66, c_67, l_67, c_68, l_68, c_69, l_69, c_70, l_70, c_71, l_71, c_72, l_72, c_73, l_73, c_74, l_74, c_75, l_75, c_76, l_76, e8]
      exact ⟨fun _ => h49, fun z => by omega⟩
    | succ d ih =>
      intro k M1 hk f1 s1 hv
      have e8 : M1 8 = M 8 := f1 8 (by decide)
      refine hJ 7 _ _ _ (show mm_wp _ _ _ mo_Q_copyFrom_7 _ _ _ from ?_)
      simp only [mo_Q_copyFrom_7, mm_wp, mm_ldi, mm_lda, mm_ldl, mm_sti, mm_sta, mm_stl, mm_inc, mm_2i, mm_mm, mm_2l, mm_lcmp, mm_i2l, mm_l2i, mm_cast8, mm_if1, mm_if2, mm_cmp, mm_swi, mm_sw, mm_pop1, mm_dup, mm_dup2, mm_geti, mm_geta, mm_puti, mm_iald, mm_bald, mm_aald, mm_iast, mm_bast, mm_alen, mm_acpy, mm_call, mm_callv, mm_recv, mm_pop, mm_find, mm_push, mm_cats, mm_cat, mm_reti, mm_retz, mm_retl, mm_reta, mm_retv, mm_set1, mm_set2, mm_kill, List.getElem?_cons_zero, List.getElem?_cons_succ, Int.reduceToNat, ↓reduceIte, Nat.reduceEqDiff, Nat.reduceDiv, Nat.reduceAdd, Nat.reduceLeDiff, Nat.zero_le, true_and, and_true, true_or, or_true, mm_b0, mm_b1, mm_lc_lt, mm_lc_le, mm_lc_gt, mm_lc_ge, mm_lc_eq, Int.not_lt, Int.not_le, Decidable.not_not, Int.sub_neg, c_0, c_1, c_2, l_2, c_3, c_4, l_4, c_5, l_5, c_6, l_6, c_7, l_7, c_8, c_9, l_9, c_10, l_10, c_11, l_11, c_12, l_12, c_13, c_14, l_14, c_15, l_15, c_16, l_16, c_17, l_17, c_18, c_19, l_19, c_20, l_20, c_21, l_21, c_22, l_22, c_23, c_24, l_24, c_25, l_25, c_26, c_27, c_28, l_28, c_29, c_30, l_30, c_31, c_32, l_32, c_33, l_33, c_34, l_34, c_35, l_35, c_36, l_36, c_37, l_37, c_38, l_38, c_39, l_39, c_40, c_41, l_41, c_42, c_43, c_44, l_44, c_45, c_46, l_46, c_47, c_48, l_48, c_49, l_49, c_50, l_50, c_51, l_51, c_52, l_52, c_53, l_53, c_54, l_54, c_55, l_55, c_56, l_56, c_57, l_57, c_58, l_58, c_59, l_59, c_60, l_60, c_61, l_61, c_62, c_63, l_63, c_64, l_64, c_65, l_65, c_66, l_66, c_67, l_67, c_68, l_68, c_69, l_69, c_70, l_70, c_71, l_71, c_72, l_72, c_73, l_73, c_74, l_74, c_75, l_75, c_76, l_76, e8, t_Q_add]
      refine ⟨fun z => by omega, fun _ => ⟨by omega, by omega, by omega, by omega, isQ18, by omega, by omega, by omega, ?_⟩⟩
      have := ih (k + 1) (qAdd M1 18 (M1 9 k) (M1 10 k) (M1 11 k) (M1 12 k)) (by omega) (fun o' c => by rw [qA_o (by omega), f1 o' c]) (by rw [qA_n, s1]; omega) ?_
      · exact this
      · intro q q0 q1
        unfold qAdd
        rw [s1, f1 9 (by decide), f1 10 (by decide), f1 11 (by decide), f1 12 (by decide)]
        by_cases hq : q = k
        · subst hq
          simp [mm_up]
        · have := hv q q0 (by omega)
          simp [mm_up, hq, this]
  refine hJ 0 _ _ _ (show mm_wp _ _ _ mo_Q_copyFrom_0 _ _ _ from ?_)
  simp only [mo_Q_copyFrom_0, mm_wp, mm_ldi, mm_lda, mm_ldl, mm_sti, mm_sta, mm_stl, mm_inc, mm_2i, mm_mm, mm_2l, mm_lcmp, mm_i2l, mm_l2i, mm_cast8, mm_if1, mm_if2, mm_cmp, mm_swi, mm_sw, mm_pop1, mm_dup, mm_dup2, mm_geti, mm_geta, mm_puti, mm_iald, mm_bald, mm_aald, mm_iast, mm_bast, mm_alen, mm_acpy, mm_call, mm_callv, mm_recv, mm_pop, mm_find, mm_push, mm_cats, mm_cat, mm_reti, mm_retz, mm_retl, mm_reta, mm_retv, mm_set1, mm_set2, mm_kill, List.getElem?_cons_zero, List.getElem?_cons_succ, Int.reduceToNat, ↓reduceIte, Nat.reduceEqDiff, Nat.reduceDiv, Nat.reduceAdd, Nat.reduceLeDiff, Nat.zero_le, true_and, and_true, true_or, or_true, mm_b0, mm_b1, mm_lc_lt, mm_lc_le, mm_lc_gt, mm_lc_ge, mm_lc_eq, Int.not_lt, Int.not_le, Decidable.not_not, Int.sub_neg, c_0, c_1, c_2, l_2, c_3, c_4, l_4, c_5, l_5, c_6, l_6, c_7, l_7, c_8, c_9, l_9, c_10, l_10, c_11, l_11, c_12, l_12, c_13, c_14, l_14, c_15, l_15, c_16, l_16, c_17, l_17, c_18, c_19, l_19, c_20, l_20, c_21, l_21, c_22, l_22, c_23, c_24, l_24, c_25, l_25, c_26, c_27, c_28, l_28, c_29, c_30, l_30, c_31, c_32, l_32, c_33, l_33, c_34, l_34, c_35, l_35, c_36, l_36, c_37, l_37, c_38, l_38, c_39, l_39, c_40, c_41, l_41, c_42, c_43, c_44, l_44, c_45, c_46, l_46, c_47, c_48, l_48, c_49, l_49, c_50, l_50, c_51, l_51, c_52, l_52, c_53, l_53, c_54, l_54, c_55, l_55, c_56, l_56, c_57, l_57, c_58, l_58, c_59, l_59, c_60, l_60, c_61, l_61, c_62, c_63, l_63, c_64, l_64, c_65, l_65, c_66, l_66, c_67, l_67, c_68, l_68, c_69, l_69, c_70, l_70, c_71, l_71, c_72, l_72, c_73, l_73, c_74, l_74, c_75, l_75, c_76, l_76]
  exact hl (M 8 4).toNat 0 _ (by omega) (fun o' c => by rw [mm_up_o _ _ (by omega)]) (by rw [mm_up_s]; rfl) (fun q q0 q1 => by omega)
noncomputable def txF (M : mmM) (n : Int) : Int × mmM := rdF 600 1 (nxM (rdZ M n))
/-- the planner's memory behind a text that was taken over: A the reader's -/
def txI (A M' : mmM) : Prop := (∀ o', (0 < o' ∧ o' < 13) ∨ o' = 17 ∨ (22 < o' ∧ o' < 45) ∨ o' = 46 ∨ 47 < o' → M' o' = A o') ∧ M' 13 4 = A 3 4 ∧ M' 13 5 = A 3 5 ∧ (∀ i, 0 ≤ i → i < 60 → M' 14 i = A 4 i) ∧ (∀ i, 0 ≤ i → i < 32 → M' 15 i = A 5 i ∧ M' 16 i = A 6 i) ∧ M' 18 4 = A 8 4 ∧ (∀ q, 0 ≤ q → q < A 8 4 → M' 19 q = A 9 q ∧ M' 20 q = A 10 q ∧ M' 21 q = A 11 q ∧ M' 22 q = A 12 q) ∧ M' 45 1 = 0 ∧ M' 45 2 = -1 ∧ M' 45 3 = 0 ∧ M' 45 4 = 0 ∧ M' 45 5 = 0 ∧ M' 45 6 = 0 ∧ M' 47 2 = 0 ∧ M' 47 3 = A 47 3 ∧ M' 0 9 = 1 ∧ M' 0 10 = 1 ∧ M' 0 11 = 4
theorem rdF_S : ∀ (k : Nat) (L : Int) (M : mmM), rdM M → rdS M → rdS (rdF k L M).2
  | 0, _, _, _, h => h
  | k + 1, L, M, hd, hs => by
    have hf := lineF_f hd hs
    simp only [rdF]
    split
    · exact hf.2.1
    · split
      · exact hf.2.1
      · split
        · exact rdF_S k _ _ (nx_rd hf.1.1) (rdS_nx hf.2.1)
        · exact rf_S hf.2.1
def t_P_text : mmT := fun as M Q => match as with
  | [.inr (.inr o), .inl n] => o = 0 ∧ 0 ≤ M 1 3 ∧ M 1 3 ≤ 600 ∧ (¬ (0 ≤ n ∧ n ≤ M 1 3) → Q (some (vi (-1))) M) ∧ ((0 ≤ n ∧ n ≤ M 1 3) → ((txF M n).1 < 0 → Q (some (vi (txF M n).1)) (mm_up (txF M n).2 1 3 0)) ∧ (0 ≤ (txF M n).1 → ∀ M', txI (mm_up (txF M n).2 1 3 0) M' → Q (some (vi (txF M n).1)) M'))
  | _ => False
set_option maxHeartbeats 4000000 in
set_option maxRecDepth 100000 in
theorem p_P_text : ∀ as M Q, (∀ v ∈ as, mm_vin v) → mm_mem M → t_P_text as M Q → (mm_ent as).length ≤ 3 ∧ mm_ok mb_P_text [(302, t_Rd_read), (402, t_Row_copyFrom), (202, t_Q_copyFrom), (901, t_Win_begin)] (mm_entry 3 as) M Q := by
  intro as M Q hin hM h
  unfold t_P_text at h
  split at h
  rotate_left
  · exact h.elim
  rename_i o n
  have hR_n : mm_R n := hin (vi n) (by simp)
  refine ⟨by simp [mm_ent], (show mm_ok mb_P_text [(302, t_Rd_read), (402, t_Row_copyFrom), (202, t_Q_copyFrom), (901, t_Win_begin)] [some (vr o), some (vi n), none] M Q from ?_)⟩
  intro J hJ
  obtain ⟨rfl, m0, m6, hN, hY⟩ := h
  have h15 : ¬ (0 ≤ n ∧ n ≤ M 1 3) → J 15 [some (vr 0), some (vi n), none] [] M := by
    intro hc
    refine hJ 15 _ _ _ (show mm_wp _ _ _ mo_P_text_15 _ _ _ from ?_)
    simp only [mo_P_text_15, mm_wp, mm_ldi, mm_lda, mm_ldl, mm_sti, mm_sta, mm_stl, mm_inc, mm_2i, mm_mm, mm_2l, mm_lcmp, mm_i2l, mm_l2i, mm_cast8, mm_if1, mm_if2, mm_cmp, mm_swi, mm_sw, mm_pop1, mm_dup, mm_dup2, mm_geti, mm_geta, mm_puti, mm_iald, mm_bald, mm_aald, mm_iast, mm_bast, mm_alen, mm_acpy, mm_call, mm_callv, mm_recv, mm_pop, mm_find, mm_push, mm_cats, mm_cat, mm_reti, mm_retz, mm_retl, mm_reta, mm_retv, mm_set1, mm_set2, mm_kill, List.getElem?_cons_zero, List.getElem?_cons_succ, Int.reduceToNat, ↓reduceIte, Nat.reduceEqDiff, Nat.reduceDiv, Nat.reduceAdd, Nat.reduceLeDiff, Nat.zero_le, true_and, and_true, true_or, or_true, mm_b0, mm_b1, mm_lc_lt, mm_lc_le, mm_lc_gt, mm_lc_ge, mm_lc_eq, Int.not_lt, Int.not_le, Decidable.not_not, Int.sub_neg]
    exact hN hc
  have h17 : (0 ≤ n ∧ n ≤ M 1 3) → J 17 [some (vr 0), some (vi n), none] [] M := by
    intro hc
    obtain ⟨y1, y2⟩ := hY hc
    have hS : rdS (txF M n).2 := by
      have hi : rdI (rdZ M n) := rdZ_i hc.1 (by omega)
      exact rdF_S 600 1 _ (nx_rd hi) (rdS_nx rdZ_S)
    have et : rdF 600 1 (nxM (rdZ M n)) = txF M n := rfl
    generalize txF M n = x at y1 y2 hS et
    have h40 : 0 ≤ x.1 → J 40 [some (vr 0), some (vi n), some (vi x.1)] [] (mm_up x.2 1 3 0) := by
      intro hx
      have y2 := y2 hx
      generalize hA : mm_up x.2 1 3 0 = A at y2
      have hS2 : 0 ≤ A 8 4 ∧ A 8 4 ≤ 24 := by
        unfold rdS at hS
        rw [← hA, mm_up_o _ _ (by decide)]
        omega
      refine hJ 40 _ _ _ (show mm_wp _ _ _ mo_P_text_40 _ _ _ from ?_)
      simp only [mo_P_text_40, mm_wp, mm_ldi, mm_lda, mm_ldl, mm_sti, mm_sta, mm_stl, mm_inc, mm_2i, mm_mm, mm_2l, mm_lcmp, mm_i2l, mm_l2i, mm_cast8, mm_if1, mm_if2, mm_cmp, mm_swi, mm_sw, mm_pop1, mm_dup, mm_dup2, mm_geti, mm_geta, mm_puti, mm_iald, mm_bald, mm_aald, mm_iast, mm_bast, mm_alen, mm_acpy, mm_call, mm_callv, mm_recv, mm_pop, mm_find, mm_push, mm_cats, mm_cat, mm_reti, mm_retz, mm_retl, mm_reta, mm_retv, mm_set1, mm_set2, mm_kill, List.getElem?_cons_zero, List.getElem?_cons_succ, Int.reduceToNat, ↓reduceIte, Nat.reduceEqDiff, Nat.reduceDiv, Nat.reduceAdd, Nat.reduceLeDiff, Nat.zero_le, true_and, and_true, true_or, or_true, mm_b0, mm_b1, mm_lc_lt, mm_lc_le, mm_lc_gt, mm_lc_ge, mm_lc_eq, Int.not_lt, Int.not_le, Decidable.not_not, Int.sub_neg, c_0, c_1, c_2, l_2, c_3, c_4, l_4, c_5, l_5, c_6, l_6, c_7, l_7, c_8, c_9, l_9, c_10, l_10, c_11, l_11, c_12, l_12, c_13, c_14, l_14, c_15, l_15, c_16, l_16, c_17, l_17, c_18, c_19, l_19, c_20, l_20, c_21, l_21, c_22, l_22, c_23, c_24, l_24, c_25, l_25, c_26, c_27, c_28, l_28, c_29, c_30, l_30, c_31, c_32, l_32, c_33, l_33, c_34, l_34, c_35, l_35, c_36, l_36, c_37, l_37, c_38, l_38, c_39, l_39, c_40, c_41, l_41, c_42, c_43, c_44, l_44, c_45, c_46, l_46, c_47, c_48, l_48, c_49, l_49, c_50, l_50, c_51, l_51, c_52, l_52, c_53, l_53, c_54, l_54, c_55, l_55, c_56, l_56, c_57, l_57, c_58, l_58, c_59, l_59, c_60, l_60, c_61, l_61, c_62, c_63, l_63, c_64, l_64, c_65, l_65, c_66, l_66, c_67, l_67, c_68, l_68, c_69, l_69, c_70, l_70, c_71, l_71, c_72, l_72, c_73, l_73, c_74, l_74, c_75, l_75, c_76, l_76, t_Row_copyFrom, t_Q_copyFrom, t_Win_begin]
      refine ⟨isRow13, isRow3, by decide, fun M1 f1 a4 a5 b1 b2 => ?_⟩
      have e8 : M1 8 = A 8 := f1 8 (by decide) (by decide) (by decide) (by decide)
      rw [e8]
      refine ⟨by omega, by omega, fun M2 f2 q4 q5 => ⟨isW45, fun M3 f3 w1 w2 w3 w4 w5 w6 => ?_⟩⟩
      refine y2 _ ⟨fun o' c => ?_, ?_, ?_, fun i i0 i1 => ?_, fun i i0 i1 => ?_, ?_, fun q q0 q1 => ?_, ?_, ?_, ?_, ?_, ?_, ?_, ?_, ?_, ?_, ?_, ?_⟩
      · rw [mm_up_o _ _ (by omega), mm_up_o _ _ (by omega), mm_up_o _ _ (by omega), mm_up_o _ _ (by omega), f3 o' (by omega), f2 o' (by omega), f1 o' (by omega) (by omega) (by omega) (by omega)]
      · simp only [mm_up_o, ne_eq, reduceCtorEq, not_false_eq_true, Nat.reduceEqDiff]
        rw [f3 13 (by decide), f2 13 (by decide), a4]
      · simp only [mm_up_o, ne_eq, reduceCtorEq, not_false_eq_true, Nat.reduceEqDiff]
        rw [f3 13 (by decide), f2 13 (by decide), a5]
      · simp only [mm_up_o, ne_eq, reduceCtorEq, not_false_eq_true, Nat.reduceEqDiff]
        rw [f3 14 (by decide), f2 14 (by decide), b1 i i0 i1]
      · simp only [mm_up_o, ne_eq, reduceCtorEq, not_false_eq_true, Nat.reduceEqDiff]
        rw [f3 15 (by decide), f2 15 (by decide), f3 16 (by decide), f2 16 (by decide)]
        exact b2 i i0 i1
      · simp only [mm_up_o, ne_eq, reduceCtorEq, not_false_eq_true, Nat.reduceEqDiff]
        rw [f3 18 (by decide), q4]
      · simp only [mm_up_o, ne_eq, reduceCtorEq, not_false_eq_true, Nat.reduceEqDiff]
        rw [f3 19 (by decide), f3 20 (by decide), f3 21 (by decide), f3 22 (by decide)]
        have := q5 q q0 q1
        rw [f1 9 (by decide) (by decide) (by decide) (by decide), f1 10 (by decide) (by decide) (by decide) (by decide), f1 11 (by decide) (by decide) (by decide) (by decide), f1 12 (by decide) (by decide) (by decide) (by decide)] at this
        exact this
      all_goals simp [mm_up, w1, w2, w3, w4, w5, w6]
      rw [f3 47 (by decide), f2 47 (by decide), f1 47 (by decide) (by decide) (by decide) (by decide)]
    refine hJ 17 _ _ _ (show mm_wp _ _ _ mo_P_text_17 _ _ _ from ?_)
    simp only [mo_P_text_17, mm_wp, mm_ldi, mm_lda, mm_ldl, mm_sti, mm_sta, mm_stl, mm_inc, mm_2i, mm_mm, mm_2l, mm_lcmp, mm_i2l, mm_l2i, mm_cast8, mm_if1, mm_if2, mm_cmp, mm_swi, mm_sw, mm_pop1, mm_dup, mm_dup2, mm_geti, mm_geta, mm_puti, mm_iald, mm_bald, mm_aald, mm_iast, mm_bast, mm_alen, mm_acpy, mm_call, mm_callv, mm_recv, mm_pop, mm_find, mm_push, mm_cats, mm_cat, mm_reti, mm_retz, mm_retl, mm_reta, mm_retv, mm_set1, mm_set2, mm_kill, List.getElem?_cons_zero, List.getElem?_cons_succ, Int.reduceToNat, ↓reduceIte, Nat.reduceEqDiff, Nat.reduceDiv, Nat.reduceAdd, Nat.reduceLeDiff, Nat.zero_le, true_and, and_true, true_or, or_true, mm_b0, mm_b1, mm_lc_lt, mm_lc_le, mm_lc_gt, mm_lc_ge, mm_lc_eq, Int.not_lt, Int.not_le, Decidable.not_not, Int.sub_neg, c_0, c_1, c_2, l_2, c_3, c_4, l_4, c_5, l_5, c_6, l_6, c_7, l_7, c_8, c_9, l_9, c_10, l_10, c_11, l_11, c_12, l_12, c_13, c_14, l_14, c_15, l_15, c_16, l_16, c_17, l_17, c_18, c_19, l_19, c_20, l_20, c_21, l_21, c_22, l_22, c_23, c_24, l_24, c_25, l_25, c_26, c_27, c_28, l_28, c_29, c_30, l_30, c_31, c_32, l_32, c_33, l_33, c_34, l_34, c_35, l_35, c_36, l_36, c_37, l_37, c_38, l_38, c_39, l_39, c_40, c_41, l_41, c_42, c_43, c_44, l_44, c_45, c_46, l_46, c_47, c_48, l_48, c_49, l_49, c_50, l_50, c_51, l_51, c_52, l_52, c_53, l_53, c_54, l_54, c_55, l_55, c_56, l_56, c_57, l_57, c_58, l_58, c_59, l_59, c_60, l_60, c_61, l_61, c_62, c_63, l_63, c_64, l_64, c_65, l_65, c_66, l_66, c_67, l_67, c_68, l_68, c_69, l_69, c_70, l_70, c_71, l_71, c_72, l_72, c_73, l_73, c_74, l_74, c_75, l_75, c_76, l_76, t_Rd_read]
    rw [et]
    exact ⟨hc.1, hc.2, m6, fun z => h40 z, fun z => y1 (by omega)⟩
  refine hJ 0 _ _ _ (show mm_wp _ _ _ mo_P_text_0 _ _ _ from ?_)
  simp only [mo_P_text_0, mm_wp, mm_ldi, mm_lda, mm_ldl, mm_sti, mm_sta, mm_stl, mm_inc, mm_2i, mm_mm, mm_2l, mm_lcmp, mm_i2l, mm_l2i, mm_cast8, mm_if1, mm_if2, mm_cmp, mm_swi, mm_sw, mm_pop1, mm_dup, mm_dup2, mm_geti, mm_geta, mm_puti, mm_iald, mm_bald, mm_aald, mm_iast, mm_bast, mm_alen, mm_acpy, mm_call, mm_callv, mm_recv, mm_pop, mm_find, mm_push, mm_cats, mm_cat, mm_reti, mm_retz, mm_retl, mm_reta, mm_retv, mm_set1, mm_set2, mm_kill, List.getElem?_cons_zero, List.getElem?_cons_succ, Int.reduceToNat, ↓reduceIte, Nat.reduceEqDiff, Nat.reduceDiv, Nat.reduceAdd, Nat.reduceLeDiff, Nat.zero_le, true_and, and_true, true_or, or_true, mm_b0, mm_b1, mm_lc_lt, mm_lc_le, mm_lc_gt, mm_lc_ge, mm_lc_eq, Int.not_lt, Int.not_le, Decidable.not_not, Int.sub_neg, c_0, c_1, c_2, l_2, c_3, c_4, l_4, c_5, l_5, c_6, l_6, c_7, l_7, c_8, c_9, l_9, c_10, l_10, c_11, l_11, c_12, l_12, c_13, c_14, l_14, c_15, l_15, c_16, l_16, c_17, l_17, c_18, c_19, l_19, c_20, l_20, c_21, l_21, c_22, l_22, c_23, c_24, l_24, c_25, l_25, c_26, c_27, c_28, l_28, c_29, c_30, l_30, c_31, c_32, l_32, c_33, l_33, c_34, l_34, c_35, l_35, c_36, l_36, c_37, l_37, c_38, l_38, c_39, l_39, c_40, c_41, l_41, c_42, c_43, c_44, l_44, c_45, c_46, l_46, c_47, c_48, l_48, c_49, l_49, c_50, l_50, c_51, l_51, c_52, l_52, c_53, l_53, c_54, l_54, c_55, l_55, c_56, l_56, c_57, l_57, c_58, l_58, c_59, l_59, c_60, l_60, c_61, l_61, c_62, c_63, l_63, c_64, l_64, c_65, l_65, c_66, l_66, c_67, l_67, c_68, l_68, c_69, l_69, c_70, l_70, c_71, l_71, c_72, l_72, c_73, l_73, c_74, l_74, c_75, l_75, c_76, l_76]
  exact ⟨fun z => h15 (by omega), fun _ => ⟨fun z => h17 (by omega), fun z => h15 (by omega)⟩⟩
