/-! home, back -/
def t_P_home : mmT := fun as M Q => match as with
  | [.inr (.inr o)] => o = 0 ∧ wnI M ∧ M 13 4 ≤ 60 ∧ M 13 5 ≤ 32 ∧ ∀ M', (∀ o', o' ≠ 45 → M' o' = M o') → M' 45 1 = 0 → M' 45 2 = -1 → M' 45 3 = 0 → M' 45 4 = M 45 4 + (M 45 2 + M 45 1 + 1) → M' 45 5 = M 45 5 + M 45 3 → M' 45 6 = 0 → Q (some (vi (M 45 2 + M 45 1 + 1 + M 45 3))) M'
  | _ => False
set_option maxHeartbeats 4000000 in
set_option maxRecDepth 100000 in
theorem p_P_home : ∀ as M Q, (∀ v ∈ as, mm_vin v) → mm_mem M → t_P_home as M Q → (mm_ent as).length ≤ 2 ∧ mm_ok mb_P_home [(908, t_Win_shift)] (mm_entry 2 as) M Q := by
  intro as M Q hin hM h
  unfold t_P_home at h
  split at h
  rotate_left
  · exact h.elim
  rename_i o
  refine ⟨by simp [mm_ent], (show mm_ok mb_P_home [(908, t_Win_shift)] [some (vr o), none] M Q from ?_)⟩
  intro J hJ
  obtain ⟨rfl, hw, h1, h2, h⟩ := h
  unfold wnI at hw
  have hq : ∀ M' (z : Int), (∀ o', o' ≠ 45 → M' o' = M o') → M' 45 1 = 0 → M' 45 2 = -1 → M' 45 3 = 0 → M' 45 4 = M 45 4 + (M 45 2 + M 45 1 + 1) → M' 45 5 = M 45 5 + M 45 3 → M' 45 6 = 0 → z = M 45 2 + M 45 1 + 1 + M 45 3 → Q (some (vi z)) M' := by
    intro M' z a b c d e f g hz
    rw [hz]; exact h M' a b c d e f g
  refine hJ 0 _ _ _ (show mm_wp _ _ _ mo_P_home_0 _ _ _ from ?_)
  simp only [mo_P_home_0, mm_wp, mm_ldi, mm_lda, mm_ldl, mm_sti, mm_sta, mm_stl, mm_inc, mm_2i, mm_mm, mm_2l, mm_lcmp, mm_i2l, mm_l2i, mm_cast8, mm_if1, mm_if2, mm_cmp, mm_swi, mm_sw, mm_pop1, mm_dup, mm_dup2, mm_geti, mm_geta, mm_puti, mm_iald, mm_bald, mm_aald, mm_iast, mm_bast, mm_alen, mm_acpy, mm_call, mm_callv, mm_recv, mm_pop, mm_find, mm_push, mm_cats, mm_cat, mm_reti, mm_retz, mm_retl, mm_reta, mm_retv, mm_set1, mm_set2, mm_kill, List.getElem?_cons_zero, List.getElem?_cons_succ, Int.reduceToNat, ↓reduceIte, Nat.reduceEqDiff, Nat.reduceDiv, Nat.reduceAdd, Nat.reduceLeDiff, Nat.zero_le, true_and, and_true, true_or, or_true, mm_b0, mm_b1, mm_lc_lt, mm_lc_le, mm_lc_gt, mm_lc_ge, mm_lc_eq, Int.not_lt, Int.not_le, Decidable.not_not, Int.sub_neg, c_0, c_1, c_2, l_2, c_3, c_4, l_4, c_5, l_5, c_6, l_6, c_7, l_7, c_8, c_9, l_9, c_10, l_10, c_11, l_11, c_12, l_12, c_13, c_14, l_14, c_15, l_15, c_16, l_16, c_17, l_17, c_18, c_19, l_19, c_20, l_20, c_21, l_21, c_22, l_22, c_23, c_24, l_24, c_25, l_25, c_26, c_27, c_28, l_28, c_29, c_30, l_30, c_31, c_32, l_32, c_33, l_33, c_34, l_34, c_35, l_35, c_36, l_36, c_37, l_37, c_38, l_38, c_39, l_39, c_40, c_41, l_41, c_42, c_43, c_44, l_44, c_45, c_46, l_46, c_47, c_48, l_48, c_49, l_49, c_50, l_50, c_51, l_51, c_52, l_52, c_53, l_53, c_54, l_54, c_55, l_55, c_56, l_56, c_57, l_57, c_58, l_58, c_59, l_59, c_60, l_60, c_61, l_61, c_62, c_63, l_63, c_64, l_64, c_65, l_65, c_66, l_66, c_67, l_67, c_68, l_68, c_69, l_69, c_70, l_70, c_71, l_71, c_72, l_72, c_73, l_73, c_74, l_74, c_75, l_75, c_76, l_76, t_Win_shift, wSh, Int.reduceEq, mm_up_if]
  refine ⟨by omega, by omega, isW45, by omega, isW45, by omega, by omega, by omega, isW45, by omega, by omega, isW45, by omega, by omega, hq _ _ (fun o' ho' => ?_) ?_ ?_ ?_ ?_ ?_ ?_ ?_⟩
  · simp only [mm_up_o _ _ ho']
  all_goals (try simp only [mm_up_if, Int.reduceEq, ↓reduceIte])
  all_goals (try omega)
def bkA (M : mmM) : Int := (M 47 3 + 11) % 12
def bkM (M : mmM) : mmM := mm_up (mm_up M 47 2 (M 47 2 - 1)) 47 3 (bkA M)
def t_P_back : mmT := fun as M Q => match as with
  | [.inr (.inr o)] => o = 0 ∧ acI M ∧ wnI M ∧ M 13 4 ≤ 60 ∧ M 13 5 ≤ 32 ∧ 0 ≤ M 18 4 ∧ (M 47 2 = 0 → Q (some (vi 0)) M) ∧ (0 < M 47 2 → (0 ≤ M 48 (bkA M) ∧ M 48 (bkA M) ≤ 5) ∧ (M 48 (bkA M) = 0 → 0 < M 13 5 ∧ Q (some (vi 1)) (mm_up (if M 45 3 < M 13 5 then bkM M else mm_up (mm_up (bkM M) 45 3 (M 45 3 - 1)) 45 5 (M 45 5 + 1)) 13 5 (M 13 5 - 1))) ∧ (M 48 (bkA M) = 1 → 0 < M 18 4 ∧ Q (some (vi 1)) (mm_up (bkM M) 18 4 (M 18 4 - 1))) ∧ (M 48 (bkA M) = 2 → M 18 4 ≤ 24 ∧ Q (some (vi 1)) (qAdd (bkM M) 18 (M (50 + (bkA M).toNat) 0) (M (50 + (bkA M).toNat) 1) (M (50 + (bkA M).toNat) 2) (M (50 + (bkA M).toNat) 3))) ∧ (M 48 (bkA M) = 3 → Q (some (vi 1)) (mm_up (bkM M) 0 9 (M (50 + (bkA M).toNat) 0))) ∧ (M 48 (bkA M) = 4 → Q (some (vi 1)) (mm_up (mm_up (bkM M) 0 10 (M (50 + (bkA M).toNat) 0)) 0 11 (M (50 + (bkA M).toNat) 1))) ∧ (M 48 (bkA M) = 5 → (0 ≤ M (50 + (bkA M).toNat) 0 ∧ M (50 + (bkA M).toNat) 0 < M 13 4) ∧ Q (some (vi 1)) (mm_up (bkM M) 14 (M (50 + (bkA M).toNat) 0) (M (50 + (bkA M).toNat) 1))))
  | _ => False
theorem bkM_o {M : mmM} {o : Nat} (h : o ≠ 47) : bkM M o = M o := by unfold bkM; rw [mm_up_o _ _ h, mm_up_o _ _ h]
set_option maxHeartbeats 4000000 in
set_option maxRecDepth 100000 in
theorem p_P_back : ∀ as M Q, (∀ v ∈ as, mm_vin v) → mm_mem M → t_P_back as M Q → (mm_ent as).length ≤ 3 ∧ mm_ok mb_P_back [(2, t_Acts_takeLast), (1035, t_P_takeBackChange), (205, t_Q_removeLast), (204, t_Q_add), (408, t_Row_setCell)] (mm_entry 3 as) M Q := by
  intro as M Q hin hM h
  unfold t_P_back at h
  split at h
  rotate_left
  · exact h.elim
  rename_i o
  refine ⟨by simp [mm_ent], (show mm_ok mb_P_back [(2, t_Acts_takeLast), (1035, t_P_takeBackChange), (205, t_Q_removeLast), (204, t_Q_add), (408, t_Row_setCell)] [some (vr o), none, none] M Q from ?_)⟩
  intro J hJ
  obtain ⟨rfl, ha, hw, h1, h2, h3, hN, hY⟩ := h
  have ha' := ha
  unfold acI at ha'
  refine hJ 0 _ _ _ (show mm_wp _ _ _ mo_P_back_0 _ _ _ from ?_)
  simp only [mo_P_back_0, mm_wp, mm_ldi, mm_lda, mm_ldl, mm_sti, mm_sta, mm_stl, mm_inc, mm_2i, mm_mm, mm_2l, mm_lcmp, mm_i2l, mm_l2i, mm_cast8, mm_if1, mm_if2, mm_cmp, mm_swi, mm_sw, mm_pop1, mm_dup, mm_dup2, mm_geti, mm_geta, mm_puti, mm_iald, mm_bald, mm_aald, mm_iast, mm_bast, mm_alen, mm_acpy, mm_call, mm_callv, mm_recv, mm_pop, mm_find, mm_push, mm_cats, mm_cat, mm_reti, mm_retz, mm_retl, mm_reta, mm_retv, mm_set1, mm_set2, mm_kill, List.getElem?_cons_zero, List.getElem?_cons_succ, Int.reduceToNat, ↓reduceIte, Nat.reduceEqDiff, Nat.reduceDiv, Nat.reduceAdd, Nat.reduceLeDiff, Nat.zero_le, true_and, and_true, true_or, or_true, mm_b0, mm_b1, mm_lc_lt, mm_lc_le, mm_lc_gt, mm_lc_ge, mm_lc_eq, Int.not_lt, Int.not_le, Decidable.not_not, Int.sub_neg, c_0, c_1, c_2, l_2, c_3, c_4, l_4, c_5, l_5, c_6, l_6, c_7, l_7, c_8, c_9, l_9, c_10, l_10, c_11, l_11, c_12, l_12, c_13, c_14, l_14, c_15, l_15, c_16, l_16, c_17, l_17, c_18, c_19, l_19, c_20, l_20, c_21, l_21, c_22, l_22, c_23, c_24, l_24, c_25, l_25, c_26, c_27, c_28, l_28, c_29, c_30, l_30, c_31, c_32, l_32, c_33, l_33, c_34, l_34, c_35, l_35, c_36, l_36, c_37, l_37, c_38, l_38, c_39, l_39, c_40, c_41, l_41, c_42, c_43, c_44, l_44, c_45, c_46, l_46, c_47, c_48, l_48, c_49, l_49, c_50, l_50, c_51, l_51, c_52, l_52, c_53, l_53, c_54, l_54, c_55, l_55, c_56, l_56, c_57, l_57, c_58, l_58, c_59, l_59, c_60, l_60, c_61, l_61, c_62, c_63, l_63, c_64, l_64, c_65, l_65, c_66, l_66, c_67, l_67, c_68, l_68, c_69, l_69, c_70, l_70, c_71, l_71, c_72, l_72, c_73, l_73, c_74, l_74, c_75, l_75, c_76, l_76, t_Acts_takeLast]
  refine ⟨ha, fun z => ⟨fun w => absurd trivial w, fun _ => hN z⟩, fun z => ⟨fun _ => ?_, fun w => by omega⟩⟩
  obtain ⟨hk, y0, y1, y2, y3, y4, y5⟩ := hY z
  have hA : (M 47 3 + 11) % 12 = bkA M := rfl
  have hMm : mm_up (mm_up M 47 2 (M 47 2 - 1)) 47 3 (bkA M) = bkM M := rfl
  rw [hA, hMm]
  have hab : 0 ≤ bkA M ∧ bkA M < 12 := by unfold bkA; omega
  have hc := c50 (bkA M).toNat (by omega)
  have e : ∀ o, o ≠ 47 → bkM M o = M o := fun o ho => bkM_o ho
  have e48 := e 48 (by decide)
  have er := e (50 + (bkA M).toNat) (by omega)
  have e13 := e 13 (by decide)
  have e18 := e 18 (by decide)
  have e45 := e 45 (by decide)
  have hw2 : wnI (bkM M) := by unfold wnI; rw [e13, e45]; exact hw
  have fin : ∀ M2 : mmM, Q (some (vi 1)) M2 → J 147 [some (vr 0), some (vi (bkA M)), some (vr (50 + (bkA M).toNat))] [] M2 := by
    intro M2 hq
    refine hJ 147 _ _ _ (show mm_wp _ _ _ mo_P_back_147 _ _ _ from ?_)
    simp only [mo_P_back_147, mm_wp, mm_ldi, mm_lda, mm_ldl, mm_sti, mm_sta, mm_stl, mm_inc, mm_2i, mm_mm, mm_2l, mm_lcmp, mm_i2l, mm_l2i, mm_cast8, mm_if1, mm_if2, mm_cmp, mm_swi, mm_sw, mm_pop1, mm_dup, mm_dup2, mm_geti, mm_geta, mm_puti, mm_iald, mm_bald, mm_aald, mm_iast, mm_bast, mm_alen, mm_acpy, mm_call, mm_callv, mm_recv, mm_pop, mm_find, mm_push, mm_cats, mm_cat, mm_reti, mm_retz, mm_retl, mm_reta, mm_retv, mm_set1, mm_set2, mm_kill, List.getElem?_cons_zero, List.getElem?_cons_succ, Int.reduceToNat, ↓reduceIte, Nat.reduceEqDiff, Nat.reduceDiv, Nat.reduceAdd, Nat.reduceLeDiff, Nat.zero_le, true_and, and_true, true_or, or_true, mm_b0, mm_b1, mm_lc_lt, mm_lc_le, mm_lc_gt, mm_lc_ge, mm_lc_eq, Int.not_lt, Int.not_le, Decidable.not_not, Int.sub_neg]
    exact hq
  have b68 : M 48 (bkA M) = 0 → J 68 [some (vr 0), some (vi (bkA M)), some (vr (50 + (bkA M).toNat))] [] (bkM M) := by
    intro hz
    have hq := y0 hz
    refine hJ 68 _ _ _ (show mm_wp _ _ _ mo_P_back_68 _ _ _ from ?_)
    simp only [mo_P_back_68, mm_wp, mm_ldi, mm_lda, mm_ldl, mm_sti, mm_sta, mm_stl, mm_inc, mm_2i, mm_mm, mm_2l, mm_lcmp, mm_i2l, mm_l2i, mm_cast8, mm_if1, mm_if2, mm_cmp, mm_swi, mm_sw, mm_pop1, mm_dup, mm_dup2, mm_geti, mm_geta, mm_puti, mm_iald, mm_bald, mm_aald, mm_iast, mm_bast, mm_alen, mm_acpy, mm_call, mm_callv, mm_recv, mm_pop, mm_find, mm_push, mm_cats, mm_cat, mm_reti, mm_retz, mm_retl, mm_reta, mm_retv, mm_set1, mm_set2, mm_kill, List.getElem?_cons_zero, List.getElem?_cons_succ, Int.reduceToNat, ↓reduceIte, Nat.reduceEqDiff, Nat.reduceDiv, Nat.reduceAdd, Nat.reduceLeDiff, Nat.zero_le, true_and, and_true, true_or, or_true, mm_b0, mm_b1, mm_lc_lt, mm_lc_le, mm_lc_gt, mm_lc_ge, mm_lc_eq, Int.not_lt, Int.not_le, Decidable.not_not, Int.sub_neg, c_0, c_1, c_2, l_2, c_3, c_4, l_4, c_5, l_5, c_6, l_6, c_7, l_7, c_8, c_9, l_9, c_10, l_10, c_11, l_11, c_12, l_12, c_13, c_14, l_14, c_15, l_15, c_16, l_16, c_17, l_17, c_18, c_19, l_19, c_20, l_20, c_21, l_21, c_22, l_22, c_23, c_24, l_24, c_25, l_25, c_26, c_27, c_28, l_28, c_29, c_30, l_30, c_31, c_32, l_32, c_33, l_33, c_34, l_34, c_35, l_35, c_36, l_36, c_37, l_37, c_38, l_38, c_39, l_39, c_40, c_41, l_41, c_42, c_43, c_44, l_44, c_45, c_46, l_46, c_47, c_48, l_48, c_49, l_49, c_50, l_50, c_51, l_51, c_52, l_52, c_53, l_53, c_54, l_54, c_55, l_55, c_56, l_56, c_57, l_57, c_58, l_58, c_59, l_59, c_60, l_60, c_61, l_61, c_62, c_63, l_63, c_64, l_64, c_65, l_65, c_66, l_66, c_67, l_67, c_68, l_68, c_69, l_69, c_70, l_70, c_71, l_71, c_72, l_72, c_73, l_73, c_74, l_74, c_75, l_75, c_76, l_76, t_P_takeBackChange]
    rw [e13, e45]
    exact ⟨hw2, hq.1, h2, h1, fin _ hq.2⟩
  have b75 : M 48 (bkA M) = 1 → J 75 [some (vr 0), some (vi (bkA M)), some (vr (50 + (bkA M).toNat))] [] (bkM M) := by
    intro hz
    have hq := y1 hz
    refine hJ 75 _ _ _ (show mm_wp _ _ _ mo_P_back_75 _ _ _ from ?_)
    simp only [mo_P_back_75, mm_wp, mm_ldi, mm_lda, mm_ldl, mm_sti, mm_sta, mm_stl, mm_inc, mm_2i, mm_mm, mm_2l, mm_lcmp, mm_i2l, mm_l2i, mm_cast8, mm_if1, mm_if2, mm_cmp, mm_swi, mm_sw, mm_pop1, mm_dup, mm_dup2, mm_geti, mm_geta, mm_puti, mm_iald, mm_bald, mm_aald, mm_iast, mm_bast, mm_alen, mm_acpy, mm_call, mm_callv, mm_recv, mm_pop, mm_find, mm_push, mm_cats, mm_cat, mm_reti, mm_retz, mm_retl, mm_reta, mm_retv, mm_set1, mm_set2, mm_kill, List.getElem?_cons_zero, List.getElem?_cons_succ, Int.reduceToNat, ↓reduceIte, Nat.reduceEqDiff, Nat.reduceDiv, Nat.reduceAdd, Nat.reduceLeDiff, Nat.zero_le, true_and, and_true, true_or, or_true, mm_b0, mm_b1, mm_lc_lt, mm_lc_le, mm_lc_gt, mm_lc_ge, mm_lc_eq, Int.not_lt, Int.not_le, Decidable.not_not, Int.sub_neg, c_0, c_1, c_2, l_2, c_3, c_4, l_4, c_5, l_5, c_6, l_6, c_7, l_7, c_8, c_9, l_9, c_10, l_10, c_11, l_11, c_12, l_12, c_13, c_14, l_14, c_15, l_15, c_16, l_16, c_17, l_17, c_18, c_19, l_19, c_20, l_20, c_21, l_21, c_22, l_22, c_23, c_24, l_24, c_25, l_25, c_26, c_27, c_28, l_28, c_29, c_30, l_30, c_31, c_32, l_32, c_33, l_33, c_34, l_34, c_35, l_35, c_36, l_36, c_37, l_37, c_38, l_38, c_39, l_39, c_40, c_41, l_41, c_42, c_43, c_44, l_44, c_45, c_46, l_46, c_47, c_48, l_48, c_49, l_49, c_50, l_50, c_51, l_51, c_52, l_52, c_53, l_53, c_54, l_54, c_55, l_55, c_56, l_56, c_57, l_57, c_58, l_58, c_59, l_59, c_60, l_60, c_61, l_61, c_62, c_63, l_63, c_64, l_64, c_65, l_65, c_66, l_66, c_67, l_67, c_68, l_68, c_69, l_69, c_70, l_70, c_71, l_71, c_72, l_72, c_73, l_73, c_74, l_74, c_75, l_75, c_76, l_76, t_Q_removeLast]
    rw [e18]
    exact ⟨isQ18, hq.1, fin _ hq.2⟩
  have b85 : M 48 (bkA M) = 2 → J 85 [some (vr 0), some (vi (bkA M)), some (vr (50 + (bkA M).toNat))] [] (bkM M) := by
    intro hz
    have hq := y2 hz
    refine hJ 85 _ _ _ (show mm_wp _ _ _ mo_P_back_85 _ _ _ from ?_)
    simp only [mo_P_back_85, mm_wp, mm_ldi, mm_lda, mm_ldl, mm_sti, mm_sta, mm_stl, mm_inc, mm_2i, mm_mm, mm_2l, mm_lcmp, mm_i2l, mm_l2i, mm_cast8, mm_if1, mm_if2, mm_cmp, mm_swi, mm_sw, mm_pop1, mm_dup, mm_dup2, mm_geti, mm_geta, mm_puti, mm_iald, mm_bald, mm_aald, mm_iast, mm_bast, mm_alen, mm_acpy, mm_call, mm_callv, mm_recv, mm_pop, mm_find, mm_push, mm_cats, mm_cat, mm_reti, mm_retz, mm_retl, mm_reta, mm_retv, mm_set1, mm_set2, mm_kill, List.getElem?_cons_zero, List.getElem?_cons_succ, Int.reduceToNat, ↓reduceIte, Nat.reduceEqDiff, Nat.reduceDiv, Nat.reduceAdd, Nat.reduceLeDiff, Nat.zero_le, true_and, and_true, true_or, or_true, mm_b0, mm_b1, mm_lc_lt, mm_lc_le, mm_lc_gt, mm_lc_ge, mm_lc_eq, Int.not_lt, Int.not_le, Decidable.not_not, Int.sub_neg, c_0, c_1, c_2, l_2, c_3, c_4, l_4, c_5, l_5, c_6, l_6, c_7, l_7, c_8, c_9, l_9, c_10, l_10, c_11, l_11, c_12, l_12, c_13, c_14, l_14, c_15, l_15, c_16, l_16, c_17, l_17, c_18, c_19, l_19, c_20, l_20, c_21, l_21, c_22, l_22, c_23, c_24, l_24, c_25, l_25, c_26, c_27, c_28, l_28, c_29, c_30, l_30, c_31, c_32, l_32, c_33, l_33, c_34, l_34, c_35, l_35, c_36, l_36, c_37, l_37, c_38, l_38, c_39, l_39, c_40, c_41, l_41, c_42, c_43, c_44, l_44, c_45, c_46, l_46, c_47, c_48, l_48, c_49, l_49, c_50, l_50, c_51, l_51, c_52, l_52, c_53, l_53, c_54, l_54, c_55, l_55, c_56, l_56, c_57, l_57, c_58, l_58, c_59, l_59, c_60, l_60, c_61, l_61, c_62, c_63, l_63, c_64, l_64, c_65, l_65, c_66, l_66, c_67, l_67, c_68, l_68, c_69, l_69, c_70, l_70, c_71, l_71, c_72, l_72, c_73, l_73, c_74, l_74, c_75, l_75, c_76, l_76, t_Q_add, hc.1, hc.2, er]
    rw [e18]
    repeat (refine And.intro (by omega) ?_)
    exact ⟨isQ18, h3, hq.1, fin _ hq.2⟩
  have b107 : M 48 (bkA M) = 3 → J 107 [some (vr 0), some (vi (bkA M)), some (vr (50 + (bkA M).toNat))] [] (bkM M) := by
    intro hz
    refine hJ 107 _ _ _ (show mm_wp _ _ _ mo_P_back_107 _ _ _ from ?_)
    simp only [mo_P_back_107, mm_wp, mm_ldi, mm_lda, mm_ldl, mm_sti, mm_sta, mm_stl, mm_inc, mm_2i, mm_mm, mm_2l, mm_lcmp, mm_i2l, mm_l2i, mm_cast8, mm_if1, mm_if2, mm_cmp, mm_swi, mm_sw, mm_pop1, mm_dup, mm_dup2, mm_geti, mm_geta, mm_puti, mm_iald, mm_bald, mm_aald, mm_iast, mm_bast, mm_alen, mm_acpy, mm_call, mm_callv, mm_recv, mm_pop, mm_find, mm_push, mm_cats, mm_cat, mm_reti, mm_retz, mm_retl, mm_reta, mm_retv, mm_set1, mm_set2, mm_kill, List.getElem?_cons_zero, List.getElem?_cons_succ, Int.reduceToNat, ↓reduceIte, Nat.reduceEqDiff, Nat.reduceDiv, Nat.reduceAdd, Nat.reduceLeDiff, Nat.zero_le, true_and, and_true, true_or, or_true, mm_b0, mm_b1, mm_lc_lt, mm_lc_le, mm_lc_gt, mm_lc_ge, mm_lc_eq, Int.not_lt, Int.not_le, Decidable.not_not, Int.sub_neg, c_0, c_1, c_2, l_2, c_3, c_4, l_4, c_5, l_5, c_6, l_6, c_7, l_7, c_8, c_9, l_9, c_10, l_10, c_11, l_11, c_12, l_12, c_13, c_14, l_14, c_15, l_15, c_16, l_16, c_17, l_17, c_18, c_19, l_19, c_20, l_20, c_21, l_21, c_22, l_22, c_23, c_24, l_24, c_25, l_25, c_26, c_27, c_28, l_28, c_29, c_30, l_30, c_31, c_32, l_32, c_33, l_33, c_34, l_34, c_35, l_35, c_36, l_36, c_37, l_37, c_38, l_38, c_39, l_39, c_40, c_41, l_41, c_42, c_43, c_44, l_44, c_45, c_46, l_46, c_47, c_48, l_48, c_49, l_49, c_50, l_50, c_51, l_51, c_52, l_52, c_53, l_53, c_54, l_54, c_55, l_55, c_56, l_56, c_57, l_57, c_58, l_58, c_59, l_59, c_60, l_60, c_61, l_61, c_62, c_63, l_63, c_64, l_64, c_65, l_65, c_66, l_66, c_67, l_67, c_68, l_68, c_69, l_69, c_70, l_70, c_71, l_71, c_72, l_72, c_73, l_73, c_74, l_74, c_75, l_75, c_76, l_76, hc.1, hc.2, er]
    exact ⟨by omega, fin _ (y3 hz)⟩
  have b117 : M 48 (bkA M) = 4 → J 117 [some (vr 0), some (vi (bkA M)), some (vr (50 + (bkA M).toNat))] [] (bkM M) := by
    intro hz
    have er2 : ∀ i v, mm_up (bkM M) 0 i v (50 + (bkA M).toNat) = M (50 + (bkA M).toNat) := fun i v => by rw [mm_up_o _ _ (by omega), er]
    refine hJ 117 _ _ _ (show mm_wp _ _ _ mo_P_back_117 _ _ _ from ?_)
    simp only [mo_P_back_117, mm_wp, mm_ldi, mm_lda, mm_ldl, mm_sti, mm_sta, mm_stl, mm_inc, mm_2i, mm_mm, mm_2l, mm_lcmp, mm_i2l, mm_l2i, mm_cast8, mm_if1, mm_if2, mm_cmp, mm_swi, mm_sw, mm_pop1, mm_dup, mm_dup2, mm_geti, mm_geta, mm_puti, mm_iald, mm_bald, mm_aald, mm_iast, mm_bast, mm_alen, mm_acpy, mm_call, mm_callv, mm_recv, mm_pop, mm_find, mm_push, mm_cats, mm_cat, mm_reti, mm_retz, mm_retl, mm_reta, mm_retv, mm_set1, mm_set2, mm_kill, List.getElem?_cons_zero, List.getElem?_cons_succ, Int.reduceToNat, ↓reduceIte, Nat.reduceEqDiff, Nat.reduceDiv, Nat.reduceAdd, Nat.reduceLeDiff, Nat.zero_le, true_and, and_true, true_or, or_true, mm_b0, mm_b1, mm_lc_lt, mm_lc_le, mm_lc_gt, mm_lc_ge, mm_lc_eq, Int.not_lt, Int.not_le, Decidable.not_not, Int.sub_neg, c_0, c_1, c_2, l_2, c_3, c_4, l_4, c_5, l_5, c_6, l_6, c_7, l_7, c_8, c_9, l_9, c_10, l_10, c_11, l_11, c_12, l_12, c_13, c_14, l_14, c_15, l_15, c_16, l_16, c_17, l_17, c_18, c_19, l_19, c_20, l_20, c_21, l_21, c_22, l_22, c_23, c_24, l_24, c_25, l_25, c_26, c_27, c_28, l_28, c_29, c_30, l_30, c_31, c_32, l_32, c_33, l_33, c_34, l_34, c_35, l_35, c_36, l_36, c_37, l_37, c_38, l_38, c_39, l_39, c_40, c_41, l_41, c_42, c_43, c_44, l_44, c_45, c_46, l_46, c_47, c_48, l_48, c_49, l_49, c_50, l_50, c_51, l_51, c_52, l_52, c_53, l_53, c_54, l_54, c_55, l_55, c_56, l_56, c_57, l_57, c_58, l_58, c_59, l_59, c_60, l_60, c_61, l_61, c_62, c_63, l_63, c_64, l_64, c_65, l_65, c_66, l_66, c_67, l_67, c_68, l_68, c_69, l_69, c_70, l_70, c_71, l_71, c_72, l_72, c_73, l_73, c_74, l_74, c_75, l_75, c_76, l_76, hc.1, hc.2, er, er2]
    exact ⟨by omega, by omega, fin _ (y4 hz)⟩
  have b134 : M 48 (bkA M) = 5 → J 134 [some (vr 0), some (vi (bkA M)), some (vr (50 + (bkA M).toNat))] [] (bkM M) := by
    intro hz
    have hq := y5 hz
    refine hJ 134 _ _ _ (show mm_wp _ _ _ mo_P_back_134 _ _ _ from ?_)
    simp only [mo_P_back_134, mm_wp, mm_ldi, mm_lda, mm_ldl, mm_sti, mm_sta, mm_stl, mm_inc, mm_2i, mm_mm, mm_2l, mm_lcmp, mm_i2l, mm_l2i, mm_cast8, mm_if1, mm_if2, mm_cmp, mm_swi, mm_sw, mm_pop1, mm_dup, mm_dup2, mm_geti, mm_geta, mm_puti, mm_iald, mm_bald, mm_aald, mm_iast, mm_bast, mm_alen, mm_acpy, mm_call, mm_callv, mm_recv, mm_pop, mm_find, mm_push, mm_cats, mm_cat, mm_reti, mm_retz, mm_retl, mm_reta, mm_retv, mm_set1, mm_set2, mm_kill, List.getElem?_cons_zero, List.getElem?_cons_succ, Int.reduceToNat, ↓reduceIte, Nat.reduceEqDiff, Nat.reduceDiv, Nat.reduceAdd, Nat.reduceLeDiff, Nat.zero_le, true_and, and_true, true_or, or_true, mm_b0, mm_b1, mm_lc_lt, mm_lc_le, mm_lc_gt, mm_lc_ge, mm_lc_eq, Int.not_lt, Int.not_le, Decidable.not_not, Int.sub_neg, c_0, c_1, c_2, l_2, c_3, c_4, l_4, c_5, l_5, c_6, l_6, c_7, l_7, c_8, c_9, l_9, c_10, l_10, c_11, l_11, c_12, l_12, c_13, c_14, l_14, c_15, l_15, c_16, l_16, c_17, l_17, c_18, c_19, l_19, c_20, l_20, c_21, l_21, c_22, l_22, c_23, c_24, l_24, c_25, l_25, c_26, c_27, c_28, l_28, c_29, c_30, l_30, c_31, c_32, l_32, c_33, l_33, c_34, l_34, c_35, l_35, c_36, l_36, c_37, l_37, c_38, l_38, c_39, l_39, c_40, c_41, l_41, c_42, c_43, c_44, l_44, c_45, c_46, l_46, c_47, c_48, l_48, c_49, l_49, c_50, l_50, c_51, l_51, c_52, l_52, c_53, l_53, c_54, l_54, c_55, l_55, c_56, l_56, c_57, l_57, c_58, l_58, c_59, l_59, c_60, l_60, c_61, l_61, c_62, c_63, l_63, c_64, l_64, c_65, l_65, c_66, l_66, c_67, l_67, c_68, l_68, c_69, l_69, c_70, l_70, c_71, l_71, c_72, l_72, c_73, l_73, c_74, l_74, c_75, l_75, c_76, l_76, t_Row_setCell, hc.1, hc.2, er]
    rw [e13]
    repeat (refine And.intro (by omega) ?_)
    exact fin _ hq.2
  refine hJ 15 _ _ _ (show mm_wp _ _ _ mo_P_back_15 _ _ _ from ?_)
  simp only [mo_P_back_15, mm_wp, mm_ldi, mm_lda, mm_ldl, mm_sti, mm_sta, mm_stl, mm_inc, mm_2i, mm_mm, mm_2l, mm_lcmp, mm_i2l, mm_l2i, mm_cast8, mm_if1, mm_if2, mm_cmp, mm_swi, mm_sw, mm_pop1, mm_dup, mm_dup2, mm_geti, mm_geta, mm_puti, mm_iald, mm_bald, mm_aald, mm_iast, mm_bast, mm_alen, mm_acpy, mm_call, mm_callv, mm_recv, mm_pop, mm_find, mm_push, mm_cats, mm_cat, mm_reti, mm_retz, mm_retl, mm_reta, mm_retv, mm_set1, mm_set2, mm_kill, List.getElem?_cons_zero, List.getElem?_cons_succ, Int.reduceToNat, ↓reduceIte, Nat.reduceEqDiff, Nat.reduceDiv, Nat.reduceAdd, Nat.reduceLeDiff, Nat.zero_le, true_and, and_true, true_or, or_true, mm_b0, mm_b1, mm_lc_lt, mm_lc_le, mm_lc_gt, mm_lc_ge, mm_lc_eq, Int.not_lt, Int.not_le, Decidable.not_not, Int.sub_neg, c_0, c_1, c_2, l_2, c_3, c_4, l_4, c_5, l_5, c_6, l_6, c_7, l_7, c_8, c_9, l_9, c_10, l_10, c_11, l_11, c_12, l_12, c_13, c_14, l_14, c_15, l_15, c_16, l_16, c_17, l_17, c_18, c_19, l_19, c_20, l_20, c_21, l_21, c_22, l_22, c_23, c_24, l_24, c_25, l_25, c_26, c_27, c_28, l_28, c_29, c_30, l_30, c_31, c_32, l_32, c_33, l_33, c_34, l_34, c_35, l_35, c_36, l_36, c_37, l_37, c_38, l_38, c_39, l_39, c_40, c_41, l_41, c_42, c_43, c_44, l_44, c_45, c_46, l_46, c_47, c_48, l_48, c_49, l_49, c_50, l_50, c_51, l_51, c_52, l_52, c_53, l_53, c_54, l_54, c_55, l_55, c_56, l_56, c_57, l_57, c_58, l_58, c_59, l_59, c_60, l_60, c_61, l_61, c_62, c_63, l_63, c_64, l_64, c_65, l_65, c_66, l_66, c_67, l_67, c_68, l_68, c_69, l_69, c_70, l_70, c_71, l_71, c_72, l_72, c_73, l_73, c_74, l_74, c_75, l_75, c_76, l_76, e48, Nat.reduceAdd]
  refine ⟨by omega, by omega, b68, fun z1 => ⟨b75, fun z2 => ⟨b85, fun z3 => ⟨b107, fun z4 => ⟨b117, fun z5 => b134 (by omega)⟩⟩⟩⟩⟩
