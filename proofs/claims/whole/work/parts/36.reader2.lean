/-! the planner's Reader: lines -/
def rdS (M : mmM) : Prop := 0 ≤ M 3 4 ∧ M 3 4 ≤ 60 ∧ 0 ≤ M 3 5 ∧ M 3 5 ≤ 32 ∧ 0 ≤ M 8 4 ∧ M 8 4 ≤ 24
theorem rdS_nx {M : mmM} (h : rdS M) : rdS (nxM M) := by
  unfold rdS
  rw [nx_o M (by decide), nx_o M (by decide)]
  exact h
theorem rf_o (M : mmM) (k : Int) {o : Nat} (h : o ≠ 1) : rfM M k o = M o := by
  unfold rfM
  rw [mm_up_o _ _ h]
theorem rf_i (M : mmM) (k : Int) {i : Int} (h : i ≠ 9) : rfM M k 1 i = M 1 i := by
  unfold rfM
  rw [mm_up_i _ h]
theorem rf_rd {M : mmM} {k : Int} (h : rdM M) : rdM (rfM M k) := by
  unfold rdM rdI
  rw [rf_i _ _ (by decide), rf_i _ _ (by decide), rf_i _ _ (by decide)]
  exact h
theorem rf_S {M : mmM} {k : Int} (h : rdS M) : rdS (rfM M k) := by
  unfold rdS
  rw [rf_o M k (by decide), rf_o M k (by decide)]
  exact h
def clA (M : mmM) : mmM := mm_up (mm_up M 4 (M 3 4) (M 1 8)) 3 4 (M 3 4 + 1)
noncomputable def clF (M : mmM) : Int × mmM := if whP M 0 63 then (if M 3 4 < 60 then (1, nxM (clA M)) else (0, rfM M 4)) else (0, rfM M (whK M))
theorem up_rd {M : mmM} {o : Nat} {i v : Int} (ho : o ≠ 1) (h : rdM M) : rdM (mm_up M o i v) := by
  unfold rdM rdI
  rw [mm_up_o _ _ (Ne.symm ho)]
  exact h
theorem clA_rd {M : mmM} (h : rdM M) : rdM (clA M) := up_rd (by decide) (up_rd (by decide) h)
theorem whK_b (M : mmM) : 0 ≤ whK M ∧ whK M ≤ 10 := by
  unfold whK
  split <;> omega
def t_Rd_readCell : mmT := fun as M Q => match as with
  | [.inr (.inr o)] => o = 1 ∧ rdM M ∧ rdS M ∧ Q (some (vi (clF M).1)) (clF M).2
  | _ => False
set_option maxHeartbeats 4000000 in
set_option maxRecDepth 100000 in
theorem p_Rd_readCell : ∀ as M Q, (∀ v ∈ as, mm_vin v) → mm_mem M → t_Rd_readCell as M Q → (mm_ent as).length ≤ 1 ∧ mm_ok mb_Rd_readCell [(312, t_Rd_isWhole), (405, t_Row_hasRoomForCell), (310, t_Rd_refuse), (407, t_Row_addCell), (314, t_Rd_next)] (mm_entry 1 as) M Q := by
  intro as M Q hin hM h
  unfold t_Rd_readCell at h
  split at h
  rotate_left
  · exact h.elim
  rename_i o
  refine ⟨by simp [mm_ent], (show mm_ok mb_Rd_readCell [(312, t_Rd_isWhole), (405, t_Row_hasRoomForCell), (310, t_Rd_refuse), (407, t_Row_addCell), (314, t_Rd_next)] [some (vr o)] M Q from ?_)⟩
  intro J hJ
  obtain ⟨rfl, hd, hs, h⟩ := h
  have hs2 := hs
  unfold rdS at hs2
  have hdA := (clA_rd hd).1
  unfold clF at h
  by_cases c1 : whP M 0 63
  · rw [if_pos c1] at h
    have h12 : J 12 [some (vr 1)] [] M := by
      by_cases c2 : M 3 4 < 60
      · rw [if_pos c2] at h
        have h28 : J 28 [some (vr 1)] [] M := by
          refine hJ 28 _ _ _ (show mm_wp _ _ _ mo_Rd_readCell_28 _ _ _ from ?_)
          simp only [mo_Rd_readCell_28, mm_wp, mm_ldi, mm_lda, mm_ldl, mm_sti, mm_sta, mm_stl, mm_inc, mm_2i, mm_mm, mm_2l, mm_lcmp, mm_i2l, mm_l2i, mm_cast8, mm_if1, mm_if2, mm_cmp, mm_swi, mm_sw, mm_pop1, mm_dup, mm_dup2, mm_geti, mm_geta, mm_puti, mm_iald, mm_bald, mm_aald, mm_iast, mm_bast, mm_alen, mm_acpy, mm_call, mm_callv, mm_recv, mm_pop, mm_find, mm_push, mm_cats, mm_cat, mm_reti, mm_retz, mm_retl, mm_reta, mm_retv, mm_set1, mm_set2, mm_kill, List.getElem?_cons_zero, List.getElem?_cons_succ, Int.reduceToNat, ↓reduceIte, Nat.reduceEqDiff, Nat.reduceDiv, Nat.reduceAdd, Nat.reduceLeDiff, Nat.zero_le, true_and, and_true, true_or, or_true, mm_b0, mm_b1, mm_lc_lt, mm_lc_le, mm_lc_gt, mm_lc_ge, mm_lc_eq, Int.not_lt, Int.not_le, Decidable.not_not, Int.sub_neg, c_0, c_1, c_2, l_2, c_3, c_4, l_4, c_5, l_5, c_6, l_6, c_7, l_7, c_8, c_9, l_9, c_10, l_10, c_11, l_11, c_12, l_12, c_13, c_14, l_14, c_15, l_15, c_16, l_16, c_17, l_17, c_18, c_19, l_19, c_20, l_20, c_21, l_21, c_22, l_22, c_23, c_24, l_24, c_25, l_25, c_26, c_27, c_28, l_28, c_29, c_30, l_30, c_31, c_32, l_32, c_33, l_33, c_34, l_34, c_35, l_35, c_36, l_36, c_37, l_37, c_38, l_38, c_39, l_39, c_40, c_41, l_41, c_42, c_43, c_44, l_44, c_45, c_46, l_46, c_47, c_48, l_48, c_49, l_49, c_50, l_50, c_51, l_51, c_52, l_52, c_53, l_53, c_54, l_54, c_55, l_55, c_56, l_56, c_57, l_57, c_58, l_58, c_59, l_59, c_60, l_60, c_61, l_61, c_62, c_63, l_63, c_64, l_64, c_65, l_65, c_66, l_66, c_67, l_67, c_68, l_68, c_69, l_69, c_70, l_70, c_71, l_71, c_72, l_72, c_73, l_73, c_74, l_74, c_75, l_75, c_76, l_76, t_Row_addCell, t_Rd_next]
          exact ⟨by omega, by omega, hdA, h⟩
        refine hJ 12 _ _ _ (show mm_wp _ _ _ mo_Rd_readCell_12 _ _ _ from ?_)
        simp only [mo_Rd_readCell_12, mm_wp, mm_ldi, mm_lda, mm_ldl, mm_sti, mm_sta, mm_stl, mm_inc, mm_2i, mm_mm, mm_2l, mm_lcmp, mm_i2l, mm_l2i, mm_cast8, mm_if1, mm_if2, mm_cmp, mm_swi, mm_sw, mm_pop1, mm_dup, mm_dup2, mm_geti, mm_geta, mm_puti, mm_iald, mm_bald, mm_aald, mm_iast, mm_bast, mm_alen, mm_acpy, mm_call, mm_callv, mm_recv, mm_pop, mm_find, mm_push, mm_cats, mm_cat, mm_reti, mm_retz, mm_retl, mm_reta, mm_retv, mm_set1, mm_set2, mm_kill, List.getElem?_cons_zero, List.getElem?_cons_succ, Int.reduceToNat, ↓reduceIte, Nat.reduceEqDiff, Nat.reduceDiv, Nat.reduceAdd, Nat.reduceLeDiff, Nat.zero_le, true_and, and_true, true_or, or_true, mm_b0, mm_b1, mm_lc_lt, mm_lc_le, mm_lc_gt, mm_lc_ge, mm_lc_eq, Int.not_lt, Int.not_le, Decidable.not_not, Int.sub_neg, c_0, c_1, c_2, l_2, c_3, c_4, l_4, c_5, l_5, c_6, l_6, c_7, l_7, c_8, c_9, l_9, c_10, l_10, c_11, l_11, c_12, l_12, c_13, c_14, l_14, c_15, l_15, c_16, l_16, c_17, l_17, c_18, c_19, l_19, c_20, l_20, c_21, l_21, c_22, l_22, c_23, c_24, l_24, c_25, l_25, c_26, c_27, c_28, l_28, c_29, c_30, l_30, c_31, c_32, l_32, c_33, l_33, c_34, l_34, c_35, l_35, c_36, l_36, c_37, l_37, c_38, l_38, c_39, l_39, c_40, c_41, l_41, c_42, c_43, c_44, l_44, c_45, c_46, l_46, c_47, c_48, l_48, c_49, l_49, c_50, l_50, c_51, l_51, c_52, l_52, c_53, l_53, c_54, l_54, c_55, l_55, c_56, l_56, c_57, l_57, c_58, l_58, c_59, l_59, c_60, l_60, c_61, l_61, c_62, c_63, l_63, c_64, l_64, c_65, l_65, c_66, l_66, c_67, l_67, c_68, l_68, c_69, l_69, c_70, l_70, c_71, l_71, c_72, l_72, c_73, l_73, c_74, l_74, c_75, l_75, c_76, l_76, t_Row_hasRoomForCell, t_Rd_refuse]
        exact ⟨fun _ => h28, fun z => by first | omega | simp at z⟩
      · rw [if_neg c2] at h
        refine hJ 12 _ _ _ (show mm_wp _ _ _ mo_Rd_readCell_12 _ _ _ from ?_)
        simp only [mo_Rd_readCell_12, mm_wp, mm_ldi, mm_lda, mm_ldl, mm_sti, mm_sta, mm_stl, mm_inc, mm_2i, mm_mm, mm_2l, mm_lcmp, mm_i2l, mm_l2i, mm_cast8, mm_if1, mm_if2, mm_cmp, mm_swi, mm_sw, mm_pop1, mm_dup, mm_dup2, mm_geti, mm_geta, mm_puti, mm_iald, mm_bald, mm_aald, mm_iast, mm_bast, mm_alen, mm_acpy, mm_call, mm_callv, mm_recv, mm_pop, mm_find, mm_push, mm_cats, mm_cat, mm_reti, mm_retz, mm_retl, mm_reta, mm_retv, mm_set1, mm_set2, mm_kill, List.getElem?_cons_zero, List.getElem?_cons_succ, Int.reduceToNat, ↓reduceIte, Nat.reduceEqDiff, Nat.reduceDiv, Nat.reduceAdd, Nat.reduceLeDiff, Nat.zero_le, true_and, and_true, true_or, or_true, mm_b0, mm_b1, mm_lc_lt, mm_lc_le, mm_lc_gt, mm_lc_ge, mm_lc_eq, Int.not_lt, Int.not_le, Decidable.not_not, Int.sub_neg, c_0, c_1, c_2, l_2, c_3, c_4, l_4, c_5, l_5, c_6, l_6, c_7, l_7, c_8, c_9, l_9, c_10, l_10, c_11, l_11, c_12, l_12, c_13, c_14, l_14, c_15, l_15, c_16, l_16, c_17, l_17, c_18, c_19, l_19, c_20, l_20, c_21, l_21, c_22, l_22, c_23, c_24, l_24, c_25, l_25, c_26, c_27, c_28, l_28, c_29, c_30, l_30, c_31, c_32, l_32, c_33, l_33, c_34, l_34, c_35, l_35, c_36, l_36, c_37, l_37, c_38, l_38, c_39, l_39, c_40, c_41, l_41, c_42, c_43, c_44, l_44, c_45, c_46, l_46, c_47, c_48, l_48, c_49, l_49, c_50, l_50, c_51, l_51, c_52, l_52, c_53, l_53, c_54, l_54, c_55, l_55, c_56, l_56, c_57, l_57, c_58, l_58, c_59, l_59, c_60, l_60, c_61, l_61, c_62, c_63, l_63, c_64, l_64, c_65, l_65, c_66, l_66, c_67, l_67, c_68, l_68, c_69, l_69, c_70, l_70, c_71, l_71, c_72, l_72, c_73, l_73, c_74, l_74, c_75, l_75, c_76, l_76, t_Row_hasRoomForCell, t_Rd_refuse]
        exact ⟨fun z => by first | omega | simp at z, fun z => ⟨hd, by omega, by omega, h⟩⟩
    refine hJ 0 _ _ _ (show mm_wp _ _ _ mo_Rd_readCell_0 _ _ _ from ?_)
    simp only [mo_Rd_readCell_0, mm_wp, mm_ldi, mm_lda, mm_ldl, mm_sti, mm_sta, mm_stl, mm_inc, mm_2i, mm_mm, mm_2l, mm_lcmp, mm_i2l, mm_l2i, mm_cast8, mm_if1, mm_if2, mm_cmp, mm_swi, mm_sw, mm_pop1, mm_dup, mm_dup2, mm_geti, mm_geta, mm_puti, mm_iald, mm_bald, mm_aald, mm_iast, mm_bast, mm_alen, mm_acpy, mm_call, mm_callv, mm_recv, mm_pop, mm_find, mm_push, mm_cats, mm_cat, mm_reti, mm_retz, mm_retl, mm_reta, mm_retv, mm_set1, mm_set2, mm_kill, List.getElem?_cons_zero, List.getElem?_cons_succ, Int.reduceToNat, ↓reduceIte, Nat.reduceEqDiff, Nat.reduceDiv, Nat.reduceAdd, Nat.reduceLeDiff, Nat.zero_le, true_and, and_true, true_or, or_true, mm_b0, mm_b1, mm_lc_lt, mm_lc_le, mm_lc_gt, mm_lc_ge, mm_lc_eq, Int.not_lt, Int.not_le, Decidable.not_not, Int.sub_neg, c_0, c_1, c_2, l_2, c_3, c_4, l_4, c_5, l_5, c_6, l_6, c_7, l_7, c_8, c_9, l_9, c_10, l_10, c_11, l_11, c_12, l_12, c_13, c_14, l_14, c_15, l_15, c_16, l_16, c_17, l_17, c_18, c_19, l_19, c_20, l_20, c_21, l_21, c_22, l_22, c_23, c_24, l_24, c_25, l_25, c_26, c_27, c_28, l_28, c_29, c_30, l_30, c_31, c_32, l_32, c_33, l_33, c_34, l_34, c_35, l_35, c_36, l_36, c_37, l_37, c_38, l_38, c_39, l_39, c_40, c_41, l_41, c_42, c_43, c_44, l_44, c_45, c_46, l_46, c_47, c_48, l_48, c_49, l_49, c_50, l_50, c_51, l_51, c_52, l_52, c_53, l_53, c_54, l_54, c_55, l_55, c_56, l_56, c_57, l_57, c_58, l_58, c_59, l_59, c_60, l_60, c_61, l_61, c_62, c_63, l_63, c_64, l_64, c_65, l_65, c_66, l_66, c_67, l_67, c_68, l_68, c_69, l_69, c_70, l_70, c_71, l_71, c_72, l_72, c_73, l_73, c_74, l_74, c_75, l_75, c_76, l_76, t_Rd_isWhole]
    exact ⟨hd, fun _ => ⟨fun _ => h12, fun z => by first | omega | simp at z⟩, fun z => absurd c1 z⟩
  · rw [if_neg c1] at h
    refine hJ 0 _ _ _ (show mm_wp _ _ _ mo_Rd_readCell_0 _ _ _ from ?_)
    simp only [mo_Rd_readCell_0, mm_wp, mm_ldi, mm_lda, mm_ldl, mm_sti, mm_sta, mm_stl, mm_inc, mm_2i, mm_mm, mm_2l, mm_lcmp, mm_i2l, mm_l2i, mm_cast8, mm_if1, mm_if2, mm_cmp, mm_swi, mm_sw, mm_pop1, mm_dup, mm_dup2, mm_geti, mm_geta, mm_puti, mm_iald, mm_bald, mm_aald, mm_iast, mm_bast, mm_alen, mm_acpy, mm_call, mm_callv, mm_recv, mm_pop, mm_find, mm_push, mm_cats, mm_cat, mm_reti, mm_retz, mm_retl, mm_reta, mm_retv, mm_set1, mm_set2, mm_kill, List.getElem?_cons_zero, List.getElem?_cons_succ, Int.reduceToNat, ↓reduceIte, Nat.reduceEqDiff, Nat.reduceDiv, Nat.reduceAdd, Nat.reduceLeDiff, Nat.zero_le, true_and, and_true, true_or, or_true, mm_b0, mm_b1, mm_lc_lt, mm_lc_le, mm_lc_gt, mm_lc_ge, mm_lc_eq, Int.not_lt, Int.not_le, Decidable.not_not, Int.sub_neg, c_0, c_1, c_2, l_2, c_3, c_4, l_4, c_5, l_5, c_6, l_6, c_7, l_7, c_8, c_9, l_9, c_10, l_10, c_11, l_11, c_12, l_12, c_13, c_14, l_14, c_15, l_15, c_16, l_16, c_17, l_17, c_18, c_19, l_19, c_20, l_20, c_21, l_21, c_22, l_22, c_23, c_24, l_24, c_25, l_25, c_26, c_27, c_28, l_28, c_29, c_30, l_30, c_31, c_32, l_32, c_33, l_33, c_34, l_34, c_35, l_35, c_36, l_36, c_37, l_37, c_38, l_38, c_39, l_39, c_40, c_41, l_41, c_42, c_43, c_44, l_44, c_45, c_46, l_46, c_47, c_48, l_48, c_49, l_49, c_50, l_50, c_51, l_51, c_52, l_52, c_53, l_53, c_54, l_54, c_55, l_55, c_56, l_56, c_57, l_57, c_58, l_58, c_59, l_59, c_60, l_60, c_61, l_61, c_62, c_63, l_63, c_64, l_64, c_65, l_65, c_66, l_66, c_67, l_67, c_68, l_68, c_69, l_69, c_70, l_70, c_71, l_71, c_72, l_72, c_73, l_73, c_74, l_74, c_75, l_75, c_76, l_76, t_Rd_isWhole]
    exact ⟨hd, fun z => absurd z c1, fun _ => ⟨fun z => by first | omega | simp at z, fun _ => h⟩⟩
theorem clF_f {M : mmM} (hd : rdM M) (hs : rdS M) : rdM (clF M).2 ∧ rdS (clF M).2 ∧ ((clF M).1 = 0 ∨ ((clF M).1 = 1 ∧ (clF M).2 3 4 = M 3 4 + 1)) := by
  unfold clF
  by_cases c1 : whP M 0 63
  · rw [if_pos c1]
    by_cases c2 : M 3 4 < 60
    · rw [if_pos c2]
      have e1 : clA M 3 4 = M 3 4 + 1 := mm_up_s _ _ _ _
      have e2 : clA M 3 5 = M 3 5 := by unfold clA; rw [mm_up_i _ (by decide), mm_up_o _ _ (by decide)]
      have e3 : clA M 8 = M 8 := by unfold clA; rw [mm_up_o _ _ (by decide), mm_up_o _ _ (by decide)]
      refine ⟨nx_rd (clA_rd hd).1, rdS_nx ?_, Or.inr ⟨rfl, ?_⟩⟩
      · unfold rdS at hs ⊢
        rw [e1, e2, e3]
        omega
      · show nxM (clA M) 3 4 = _
        rw [nx_o _ (by decide), e1]
    · rw [if_neg c2]
      exact ⟨rf_rd hd, rf_S hs, Or.inl rfl⟩
  · rw [if_neg c1]
    exact ⟨rf_rd hd, rf_S hs, Or.inl rfl⟩
noncomputable def rlF : Nat → Int × mmM → Int × mmM
  | 0, x => x
  | k + 1, x => if x.1 = 1 ∧ x.2 1 5 = 4 then rlF k (clF (nxM x.2)) else x
noncomputable def rowE (x : Int × mmM) : Int × mmM := if x.1 = 1 ∧ x.2 3 4 < 2 ∧ (x.2 1 5 = 3 ∨ x.2 1 5 = 0) then (0, rfM x.2 5) else x
noncomputable def rowF (M : mmM) : Int × mmM := if 0 < M 3 4 then (0, rfM M 3) else rowE (rlF 60 (clF (nxM M)))
def t_Rd_readRow : mmT := fun as M Q => match as with
  | [.inr (.inr o)] => o = 1 ∧ rdM M ∧ rdS M ∧ Q (some (vi (rowF M).1)) (rowF M).2
  | _ => False
set_option maxHeartbeats 4000000 in
set_option maxRecDepth 100000 in
theorem p_Rd_readRow : ∀ as M Q, (∀ v ∈ as, mm_vin v) → mm_mem M → t_Rd_readRow as M Q → (mm_ent as).length ≤ 3 ∧ mm_ok mb_Rd_readRow [(310, t_Rd_refuse), (314, t_Rd_next), (305, t_Rd_readCell)] (mm_entry 3 as) M Q := by
  intro as M Q hin hM h
  unfold t_Rd_readRow at h
  split at h
  rotate_left
  · exact h.elim
  rename_i o
  refine ⟨by simp [mm_ent], (show mm_ok mb_Rd_readRow [(310, t_Rd_refuse), (314, t_Rd_next), (305, t_Rd_readCell)] [some (vr o), none, none] M Q from ?_)⟩
  intro J hJ
  obtain ⟨rfl, hd, hs, h⟩ := h
  unfold rowF at h
  by_cases c1 : 0 < M 3 4
  · rw [if_pos c1] at h
    refine hJ 0 _ _ _ (show mm_wp _ _ _ mo_Rd_readRow_0 _ _ _ from ?_)
    simp only [mo_Rd_readRow_0, mm_wp, mm_ldi, mm_lda, mm_ldl, mm_sti, mm_sta, mm_stl, mm_inc, mm_2i, mm_mm, mm_2l, mm_lcmp, mm_i2l, mm_l2i, mm_cast8, mm_if1, mm_if2, mm_cmp, mm_swi, mm_sw, mm_pop1, mm_dup, mm_dup2, mm_geti, mm_geta, mm_puti, mm_iald, mm_bald, mm_aald, mm_iast, mm_bast, mm_alen, mm_acpy, mm_call, mm_callv, mm_recv, mm_pop, mm_find, mm_push, mm_cats, mm_cat, mm_reti, mm_retz, mm_retl, mm_reta, mm_retv, mm_set1, mm_set2, mm_kill, List.getElem?_cons_zero, List.getElem?_cons_succ, Int.reduceToNat, ↓reduceIte, Nat.reduceEqDiff, Nat.reduceDiv, Nat.reduceAdd, Nat.reduceLeDiff, Nat.zero_le, true_and, and_true, true_or, or_true, mm_b0, mm_b1, mm_lc_lt, mm_lc_le, mm_lc_gt, mm_lc_ge, mm_lc_eq, Int.not_lt, Int.not_le, Decidable.not_not, Int.sub_neg, c_0, c_1, c_2, l_2, c_3, c_4, l_4, c_5, l_5, c_6, l_6, c_7, l_7, c_8, c_9, l_9, c_10, l_10, c_11, l_11, c_12, l_12, c_13, c_14, l_14, c_15, l_15, c_16, l_16, c_17, l_17, c_18, c_19, l_19, c_20, l_20, c_21, l_21, c_22, l_22, c_23, c_24, l_24, c_25, l_25, c_26, c_27, c_28, l_28, c_29, c_30, l_30, c_31, c_32, l_32, c_33, l_33, c_34, l_34, c_35, l_35, c_36, l_36, c_37, l_37, c_38, l_38, c_39, l_39, c_40, c_41, l_41, c_42, c_43, c_44, l_44, c_45, c_46, l_46, c_47, c_48, l_48, c_49, l_49, c_50, l_50, c_51, l_51, c_52, l_52, c_53, l_53, c_54, l_54, c_55, l_55, c_56, l_56, c_57, l_57, c_58, l_58, c_59, l_59, c_60, l_60, c_61, l_61, c_62, c_63, l_63, c_64, l_64, c_65, l_65, c_66, l_66, c_67, l_67, c_68, l_68, c_69, l_69, c_70, l_70, c_71, l_71, c_72, l_72, c_73, l_73, c_74, l_74, c_75, l_75, c_76, l_76, t_Rd_refuse]
    exact ⟨fun z => by first | omega | simp at z, fun _ => ⟨hd, by omega, by omega, h⟩⟩
  · rw [if_neg c1] at h
    have h60 : ∀ (x : Int × mmM) (c : Int), rdM x.2 → (x.1 = 0 ∨ x.1 = 1) → rowE x = rowE (rlF 60 (clF (nxM M))) → J 60 [some (vr 1), some (vi x.1), some (vi c)] [] x.2 := by
      intro x c hx h01 he
      rw [← he] at h
      unfold rowE at h
      have h96 : ¬ (x.1 = 1 ∧ x.2 3 4 < 2 ∧ (x.2 1 5 = 3 ∨ x.2 1 5 = 0)) → J 96 [some (vr 1), some (vi x.1), some (vi c)] [] x.2 := by
        intro hn
        rw [if_neg hn] at h
        refine hJ 96 _ _ _ (show mm_wp _ _ _ mo_Rd_readRow_96 _ _ _ from ?_)
        simp only [mo_Rd_readRow_96, mm_wp, mm_ldi, mm_lda, mm_ldl, mm_sti, mm_sta, mm_stl, mm_inc, mm_2i, mm_mm, mm_2l, mm_lcmp, mm_i2l, mm_l2i, mm_cast8, mm_if1, mm_if2, mm_cmp, mm_swi, mm_sw, mm_pop1, mm_dup, mm_dup2, mm_geti, mm_geta, mm_puti, mm_iald, mm_bald, mm_aald, mm_iast, mm_bast, mm_alen, mm_acpy, mm_call, mm_callv, mm_recv, mm_pop, mm_find, mm_push, mm_cats, mm_cat, mm_reti, mm_retz, mm_retl, mm_reta, mm_retv, mm_set1, mm_set2, mm_kill, List.getElem?_cons_zero, List.getElem?_cons_succ, Int.reduceToNat, ↓reduceIte, Nat.reduceEqDiff, Nat.reduceDiv, Nat.reduceAdd, Nat.reduceLeDiff, Nat.zero_le, true_and, and_true, true_or, or_true, mm_b0, mm_b1, mm_lc_lt, mm_lc_le, mm_lc_gt, mm_lc_ge, mm_lc_eq, Int.not_lt, Int.not_le, Decidable.not_not, Int.sub_neg]
        exact ⟨h01, h⟩
      have h90 : (x.1 = 1 ∧ x.2 3 4 < 2 ∧ (x.2 1 5 = 3 ∨ x.2 1 5 = 0)) → J 90 [some (vr 1), some (vi x.1), some (vi c)] [] x.2 := by
        intro hn
        rw [if_pos hn] at h
        refine hJ 90 _ _ _ (show mm_wp _ _ _ mo_Rd_readRow_90 _ _ _ from ?_)
        simp only [mo_Rd_readRow_90, mm_wp, mm_ldi, mm_lda, mm_ldl, mm_sti, mm_sta, mm_stl, mm_inc, mm_2i, mm_mm, mm_2l, mm_lcmp, mm_i2l, mm_l2i, mm_cast8, mm_if1, mm_if2, mm_cmp, mm_swi, mm_sw, mm_pop1, mm_dup, mm_dup2, mm_geti, mm_geta, mm_puti, mm_iald, mm_bald, mm_aald, mm_iast, mm_bast, mm_alen, mm_acpy, mm_call, mm_callv, mm_recv, mm_pop, mm_find, mm_push, mm_cats, mm_cat, mm_reti, mm_retz, mm_retl, mm_reta, mm_retv, mm_set1, mm_set2, mm_kill, List.getElem?_cons_zero, List.getElem?_cons_succ, Int.reduceToNat, ↓reduceIte, Nat.reduceEqDiff, Nat.reduceDiv, Nat.reduceAdd, Nat.reduceLeDiff, Nat.zero_le, true_and, and_true, true_or, or_true, mm_b0, mm_b1, mm_lc_lt, mm_lc_le, mm_lc_gt, mm_lc_ge, mm_lc_eq, Int.not_lt, Int.not_le, Decidable.not_not, Int.sub_neg, c_0, c_1, c_2, l_2, c_3, c_4, l_4, c_5, l_5, c_6, l_6, c_7, l_7, c_8, c_9, l_9, c_10, l_10, c_11, l_11, c_12, l_12, c_13, c_14, l_14, c_15, l_15, c_16, l_16, c_17, l_17, c_18, c_19, l_19, c_20, l_20, c_21, l_21, c_22, l_22, c_23, c_24, l_24, c_25, l_25, c_26, c_27, c_28, l_28, c_29, c_30, l_30, c_31, c_32, l_32, c_33, l_33, c_34, l_34, c_35, l_35, c_36, l_36, c_37, l_37, c_38, l_38, c_39, l_39, c_40, c_41, l_41, c_42, c_43, c_44, l_44, c_45, c_46, l_46, c_47, c_48, l_48, c_49, l_49, c_50, l_50, c_51, l_51, c_52, l_52, c_53, l_53, c_54, l_54, c_55, l_55, c_56, l_56, c_57, l_57, c_58, l_58, c_59, l_59, c_60, l_60, c_61, l_61, c_62, c_63, l_63, c_64, l_64, c_65, l_65, c_66, l_66, c_67, l_67, c_68, l_68, c_69, l_69, c_70, l_70, c_71, l_71, c_72, l_72, c_73, l_73, c_74, l_74, c_75, l_75, c_76, l_76, t_Rd_refuse]
        exact ⟨hx, by omega, by omega, h⟩
      refine hJ 60 _ _ _ (show mm_wp _ _ _ mo_Rd_readRow_60 _ _ _ from ?_)
      simp only [mo_Rd_readRow_60, mm_wp, mm_ldi, mm_lda, mm_ldl, mm_sti, mm_sta, mm_stl, mm_inc, mm_2i, mm_mm, mm_2l, mm_lcmp, mm_i2l, mm_l2i, mm_cast8, mm_if1, mm_if2, mm_cmp, mm_swi, mm_sw, mm_pop1, mm_dup, mm_dup2, mm_geti, mm_geta, mm_puti, mm_iald, mm_bald, mm_aald, mm_iast, mm_bast, mm_alen, mm_acpy, mm_call, mm_callv, mm_recv, mm_pop, mm_find, mm_push, mm_cats, mm_cat, mm_reti, mm_retz, mm_retl, mm_reta, mm_retv, mm_set1, mm_set2, mm_kill, List.getElem?_cons_zero, List.getElem?_cons_succ, Int.reduceToNat, ↓reduceIte, Nat.reduceEqDiff, Nat.reduceDiv, Nat.reduceAdd, Nat.reduceLeDiff, Nat.zero_le, true_and, and_true, true_or, or_true, mm_b0, mm_b1, mm_lc_lt, mm_lc_le, mm_lc_gt, mm_lc_ge, mm_lc_eq, Int.not_lt, Int.not_le, Decidable.not_not, Int.sub_neg, c_0, c_1, c_2, l_2, c_3, c_4, l_4, c_5, l_5, c_6, l_6, c_7, l_7, c_8, c_9, l_9, c_10, l_10, c_11, l_11, c_12, l_12, c_13, c_14, l_14, c_15, l_15, c_16, l_16, c_17, l_17, c_18, c_19, l_19, c_20, l_20, c_21, l_21, c_22, l_22, c_23, c_24, l_24, c_25, l_25, c_26, c_27, c_28, l_28, c_29, c_30, l_30, c_31, c_32, l_32, c_33, l_33, c_34, l_34, c_35, l_35, c_36, l_36, c_37, l_37, c_38, l_38, c_39, l_39, c_40, c_41, l_41, c_42, c_43, c_44, l_44, c_45, c_46, l_46, c_47, c_48, l_48, c_49, l_49, c_50, l_50, c_51, l_51, c_52, l_52, c_53, l_53, c_54, l_54, c_55, l_55, c_56, l_56, c_57, l_57, c_58, l_58, c_59, l_59, c_60, l_60, c_61, l_61, c_62, c_63, l_63, c_64, l_64, c_65, l_65, c_66, l_66, c_67, l_67, c_68, l_68, c_69, l_69, c_70, l_70, c_71, l_71, c_72, l_72, c_73, l_73, c_74, l_74, c_75, l_75, c_76, l_76]
      refine ⟨fun z => h96 (by omega), fun z => ⟨fun z2 => h96 (by omega), fun z2 => ⟨fun z3 => h90 (by omega), fun z3 => ⟨fun z4 => h96 (by omega), fun z4 => h90 (by omega)⟩⟩⟩⟩
    have hl : ∀ (k : Nat) (x : Int × mmM), k ≤ 60 → rdM x.2 → rdS x.2 → (x.1 = 0 ∨ (x.1 = 1 ∧ x.2 3 4 = 61 - k)) → rowE (rlF k x) = rowE (rlF 60 (clF (nxM M))) → J 27 [some (vr 1), some (vi x.1), some (vi (61 - k))] [] x.2 := by
      intro k
      induction k with
      | zero =>
        intro x k6 hx hxs h01 he
        unfold rdS at hxs
        have := h60 x (61 - (0 : Nat)) hx (by omega) he
        refine hJ 27 _ _ _ (show mm_wp _ _ _ mo_Rd_readRow_27 _ _ _ from ?_)
        simp only [mo_Rd_readRow_27, mm_wp, mm_ldi, mm_lda, mm_ldl, mm_sti, mm_sta, mm_stl, mm_inc, mm_2i, mm_mm, mm_2l, mm_lcmp, mm_i2l, mm_l2i, mm_cast8, mm_if1, mm_if2, mm_cmp, mm_swi, mm_sw, mm_pop1, mm_dup, mm_dup2, mm_geti, mm_geta, mm_puti, mm_iald, mm_bald, mm_aald, mm_iast, mm_bast, mm_alen, mm_acpy, mm_call, mm_callv, mm_recv, mm_pop, mm_find, mm_push, mm_cats, mm_cat, mm_reti, mm_retz, mm_retl, mm_reta, mm_retv, mm_set1, mm_set2, mm_kill, List.getElem?_cons_zero, List.getElem?_cons_succ, Int.reduceToNat, ↓reduceIte, Nat.reduceEqDiff, Nat.reduceDiv, Nat.reduceAdd, Nat.reduceLeDiff, Nat.zero_le, true_and, and_true, true_or, or_true, mm_b0, mm_b1, mm_lc_lt, mm_lc_le, mm_lc_gt, mm_lc_ge, mm_lc_eq, Int.not_lt, Int.not_le, Decidable.not_not, Int.sub_neg, c_0, c_1, c_2, l_2, c_3, c_4, l_4, c_5, l_5, c_6, l_6, c_7, l_7, c_8, c_9, l_9, c_10, l_10, c_11, l_11, c_12, l_12, c_13, c_14, l_14, c_15, l_15, c_16, l_16, c_17, l_17, c_18, c_19, l_19, c_20, l_20, c_21, l_21, c_22, l_22, c_23, c_24, l_24, c_25, l_25, c_26, c_27, c_28, l_28, c_29, c_30, l_30, c_31, c_32, l_32, c_33, l_33, c_34, l_34, c_35, l_35, c_36, l_36, c_37, l_37, c_38, l_38, c_39, l_39, c_40, c_41, l_41, c_42, c_43, c_44, l_44, c_45, c_46, l_46, c_47, c_48, l_48, c_49, l_49, c_50, l_50, c_51, l_51, c_52, l_52, c_53, l_53, c_54, l_54, c_55, l_55, c_56, l_56, c_57, l_57, c_58, l_58, c_59, l_59, c_60, l_60, c_61, l_61, c_62, c_63, l_63, c_64, l_64, c_65, l_65, c_66, l_66, c_67, l_67, c_68, l_68, c_69, l_69, c_70, l_70, c_71, l_71, c_72, l_72, c_73, l_73, c_74, l_74, c_75, l_75, c_76, l_76]
        exact ⟨fun _ => this, fun z => by first | omega | simp at z⟩
      | succ k ih =>
        intro x k6 hx hxs h01 he
        simp only [rlF] at he
        by_cases c : x.1 = 1 ∧ x.2 1 5 = 4
        · rw [if_pos c] at he
          have hn := nx_rd hx.1
          have hns := rdS_nx hxs
          have hf := clF_f hn hns
          have i1 := ih (clF (nxM x.2)) (by omega) hf.1 hf.2.1 (by have := hf.2.2; rw [nx_o x.2 (by decide)] at this; omega) he
          rw [show (61 : Int) - k = 61 - ((k + 1 : Nat) : Int) + 1 by omega] at i1
          refine hJ 27 _ _ _ (show mm_wp _ _ _ mo_Rd_readRow_27 _ _ _ from ?_)
          simp only [mo_Rd_readRow_27, mm_wp, mm_ldi, mm_lda, mm_ldl, mm_sti, mm_sta, mm_stl, mm_inc, mm_2i, mm_mm, mm_2l, mm_lcmp, mm_i2l, mm_l2i, mm_cast8, mm_if1, mm_if2, mm_cmp, mm_swi, mm_sw, mm_pop1, mm_dup, mm_dup2, mm_geti, mm_geta, mm_puti, mm_iald, mm_bald, mm_aald, mm_iast, mm_bast, mm_alen, mm_acpy, mm_call, mm_callv, mm_recv, mm_pop, mm_find, mm_push, mm_cats, mm_cat, mm_reti, mm_retz, mm_retl, mm_reta, mm_retv, mm_set1, mm_set2, mm_kill, List.getElem?_cons_zero, List.getElem?_cons_succ, Int.reduceToNat, ↓reduceIte, Nat.reduceEqDiff, Nat.reduceDiv, Nat.reduceAdd, Nat.reduceLeDiff, Nat.zero_le, true_and, and_true, true_or, or_true, mm_b0, mm_b1, mm_lc_lt, mm_lc_le, mm_lc_gt, mm_lc_ge, mm_lc_eq, Int.not_lt, Int.not_le, Decidable.not_not, Int.sub_neg, c_0, c_1, c_2, l_2, c_3, c_4, l_4, c_5, l_5, c_6, l_6, c_7, l_7, c_8, c_9, l_9, c_10, l_10, c_11, l_11, c_12, l_12, c_13, c_14, l_14, c_15, l_15, c_16, l_16, c_17, l_17, c_18, c_19, l_19, c_20, l_20, c_21, l_21, c_22, l_22, c_23, c_24, l_24, c_25, l_25, c_26, c_27, c_28, l_28, c_29, c_30, l_30, c_31, c_32, l_32, c_33, l_33, c_34, l_34, c_35, l_35, c_36, l_36, c_37, l_37, c_38, l_38, c_39, l_39, c_40, c_41, l_41, c_42, c_43, c_44, l_44, c_45, c_46, l_46, c_47, c_48, l_48, c_49, l_49, c_50, l_50, c_51, l_51, c_52, l_52, c_53, l_53, c_54, l_54, c_55, l_55, c_56, l_56, c_57, l_57, c_58, l_58, c_59, l_59, c_60, l_60, c_61, l_61, c_62, c_63, l_63, c_64, l_64, c_65, l_65, c_66, l_66, c_67, l_67, c_68, l_68, c_69, l_69, c_70, l_70, c_71, l_71, c_72, l_72, c_73, l_73, c_74, l_74, c_75, l_75, c_76, l_76, t_Rd_next, t_Rd_readCell]
          exact ⟨fun z => by first | omega | simp at z, fun _ => ⟨fun z => by first | omega | simp at z, fun _ => ⟨fun z => by first | omega | simp at z, fun _ => ⟨hx.1, hn, hns, by omega, i1⟩⟩⟩⟩
        · rw [if_neg c] at he
          have := h60 x (61 - ((k + 1 : Nat) : Int)) hx (by omega) he
          refine hJ 27 _ _ _ (show mm_wp _ _ _ mo_Rd_readRow_27 _ _ _ from ?_)
          simp only [mo_Rd_readRow_27, mm_wp, mm_ldi, mm_lda, mm_ldl, mm_sti, mm_sta, mm_stl, mm_inc, mm_2i, mm_mm, mm_2l, mm_lcmp, mm_i2l, mm_l2i, mm_cast8, mm_if1, mm_if2, mm_cmp, mm_swi, mm_sw, mm_pop1, mm_dup, mm_dup2, mm_geti, mm_geta, mm_puti, mm_iald, mm_bald, mm_aald, mm_iast, mm_bast, mm_alen, mm_acpy, mm_call, mm_callv, mm_recv, mm_pop, mm_find, mm_push, mm_cats, mm_cat, mm_reti, mm_retz, mm_retl, mm_reta, mm_retv, mm_set1, mm_set2, mm_kill, List.getElem?_cons_zero, List.getElem?_cons_succ, Int.reduceToNat, ↓reduceIte, Nat.reduceEqDiff, Nat.reduceDiv, Nat.reduceAdd, Nat.reduceLeDiff, Nat.zero_le, true_and, and_true, true_or, or_true, mm_b0, mm_b1, mm_lc_lt, mm_lc_le, mm_lc_gt, mm_lc_ge, mm_lc_eq, Int.not_lt, Int.not_le, Decidable.not_not, Int.sub_neg, c_0, c_1, c_2, l_2, c_3, c_4, l_4, c_5, l_5, c_6, l_6, c_7, l_7, c_8, c_9, l_9, c_10, l_10, c_11, l_11, c_12, l_12, c_13, c_14, l_14, c_15, l_15, c_16, l_16, c_17, l_17, c_18, c_19, l_19, c_20, l_20, c_21, l_21, c_22, l_22, c_23, c_24, l_24, c_25, l_25, c_26, c_27, c_28, l_28, c_29, c_30, l_30, c_31, c_32, l_32, c_33, l_33, c_34, l_34, c_35, l_35, c_36, l_36, c_37, l_37, c_38, l_38, c_39, l_39, c_40, c_41, l_41, c_42, c_43, c_44, l_44, c_45, c_46, l_46, c_47, c_48, l_48, c_49, l_49, c_50, l_50, c_51, l_51, c_52, l_52, c_53, l_53, c_54, l_54, c_55, l_55, c_56, l_56, c_57, l_57, c_58, l_58, c_59, l_59, c_60, l_60, c_61, l_61, c_62, c_63, l_63, c_64, l_64, c_65, l_65, c_66, l_66, c_67, l_67, c_68, l_68, c_69, l_69, c_70, l_70, c_71, l_71, c_72, l_72, c_73, l_73, c_74, l_74, c_75, l_75, c_76, l_76]
          exact ⟨fun _ => this, fun z => ⟨fun _ => this, fun z2 => absurd ⟨by omega, by omega⟩ c⟩⟩
    have h16 : J 16 [some (vr 1), none, none] [] M := by
      have hn := nx_rd hd.1
      have hns := rdS_nx hs
      have hf := clF_f hn hns
      unfold rdS at hs
      refine hJ 16 _ _ _ (show mm_wp _ _ _ mo_Rd_readRow_16 _ _ _ from ?_)
      simp only [mo_Rd_readRow_16, mm_wp, mm_ldi, mm_lda, mm_ldl, mm_sti, mm_sta, mm_stl, mm_inc, mm_2i, mm_mm, mm_2l, mm_lcmp, mm_i2l, mm_l2i, mm_cast8, mm_if1, mm_if2, mm_cmp, mm_swi, mm_sw, mm_pop1, mm_dup, mm_dup2, mm_geti, mm_geta, mm_puti, mm_iald, mm_bald, mm_aald, mm_iast, mm_bast, mm_alen, mm_acpy, mm_call, mm_callv, mm_recv, mm_pop, mm_find, mm_push, mm_cats, mm_cat, mm_reti, mm_retz, mm_retl, mm_reta, mm_retv, mm_set1, mm_set2, mm_kill, List.getElem?_cons_zero, List.getElem?_cons_succ, Int.reduceToNat, ↓reduceIte, Nat.reduceEqDiff, Nat.reduceDiv, Nat.reduceAdd, Nat.reduceLeDiff, Nat.zero_le, true_and, and_true, true_or, or_true, mm_b0, mm_b1, mm_lc_lt, mm_lc_le, mm_lc_gt, mm_lc_ge, mm_lc_eq, Int.not_lt, Int.not_le, Decidable.not_not, Int.sub_neg, c_0, c_1, c_2, l_2, c_3, c_4, l_4, c_5, l_5, c_6, l_6, c_7, l_7, c_8, c_9, l_9, c_10, l_10, c_11, l_11, c_12, l_12, c_13, c_14, l_14, c_15, l_15, c_16, l_16, c_17, l_17, c_18, c_19, l_19, c_20, l_20, c_21, l_21, c_22, l_22, c_23, c_24, l_24, c_25, l_25, c_26, c_27, c_28, l_28, c_29, c_30, l_30, c_31, c_32, l_32, c_33, l_33, c_34, l_34, c_35, l_35, c_36, l_36, c_37, l_37, c_38, l_38, c_39, l_39, c_40, c_41, l_41, c_42, c_43, c_44, l_44, c_45, c_46, l_46, c_47, c_48, l_48, c_49, l_49, c_50, l_50, c_51, l_51, c_52, l_52, c_53, l_53, c_54, l_54, c_55, l_55, c_56, l_56, c_57, l_57, c_58, l_58, c_59, l_59, c_60, l_60, c_61, l_61, c_62, c_63, l_63, c_64, l_64, c_65, l_65, c_66, l_66, c_67, l_67, c_68, l_68, c_69, l_69, c_70, l_70, c_71, l_71, c_72, l_72, c_73, l_73, c_74, l_74, c_75, l_75, c_76, l_76, t_Rd_next, t_Rd_readCell]
      exact ⟨hd.1, hn, hns, hl 60 (clF (nxM M)) (by omega) hf.1 hf.2.1 (by have := hf.2.2; rw [nx_o M (by decide)] at this; omega) rfl⟩
    refine hJ 0 _ _ _ (show mm_wp _ _ _ mo_Rd_readRow_0 _ _ _ from ?_)
    simp only [mo_Rd_readRow_0, mm_wp, mm_ldi, mm_lda, mm_ldl, mm_sti, mm_sta, mm_stl, mm_inc, mm_2i, mm_mm, mm_2l, mm_lcmp, mm_i2l, mm_l2i, mm_cast8, mm_if1, mm_if2, mm_cmp, mm_swi, mm_sw, mm_pop1, mm_dup, mm_dup2, mm_geti, mm_geta, mm_puti, mm_iald, mm_bald, mm_aald, mm_iast, mm_bast, mm_alen, mm_acpy, mm_call, mm_callv, mm_recv, mm_pop, mm_find, mm_push, mm_cats, mm_cat, mm_reti, mm_retz, mm_retl, mm_reta, mm_retv, mm_set1, mm_set2, mm_kill, List.getElem?_cons_zero, List.getElem?_cons_succ, Int.reduceToNat, ↓reduceIte, Nat.reduceEqDiff, Nat.reduceDiv, Nat.reduceAdd, Nat.reduceLeDiff, Nat.zero_le, true_and, and_true, true_or, or_true, mm_b0, mm_b1, mm_lc_lt, mm_lc_le, mm_lc_gt, mm_lc_ge, mm_lc_eq, Int.not_lt, Int.not_le, Decidable.not_not, Int.sub_neg, c_0, c_1, c_2, l_2, c_3, c_4, l_4, c_5, l_5, c_6, l_6, c_7, l_7, c_8, c_9, l_9, c_10, l_10, c_11, l_11, c_12, l_12, c_13, c_14, l_14, c_15, l_15, c_16, l_16, c_17, l_17, c_18, c_19, l_19, c_20, l_20, c_21, l_21, c_22, l_22, c_23, c_24, l_24, c_25, l_25, c_26, c_27, c_28, l_28, c_29, c_30, l_30, c_31, c_32, l_32, c_33, l_33, c_34, l_34, c_35, l_35, c_36, l_36, c_37, l_37, c_38, l_38, c_39, l_39, c_40, c_41, l_41, c_42, c_43, c_44, l_44, c_45, c_46, l_46, c_47, c_48, l_48, c_49, l_49, c_50, l_50, c_51, l_51, c_52, l_52, c_53, l_53, c_54, l_54, c_55, l_55, c_56, l_56, c_57, l_57, c_58, l_58, c_59, l_59, c_60, l_60, c_61, l_61, c_62, c_63, l_63, c_64, l_64, c_65, l_65, c_66, l_66, c_67, l_67, c_68, l_68, c_69, l_69, c_70, l_70, c_71, l_71, c_72, l_72, c_73, l_73, c_74, l_74, c_75, l_75, c_76, l_76, t_Rd_refuse]
    exact ⟨fun _ => h16, fun z => by first | omega | simp at z⟩
def chA (M : mmM) (i v : Int) : mmM := mm_up (mm_up (mm_up M 5 (M 3 5) i) 6 (M 3 5) v) 3 5 (M 3 5 + 1)
noncomputable def setF (M : mmM) : Int × mmM := if M 3 4 = 0 then (0, rfM M 5) else if 32 ≤ M 3 5 then (0, rfM M 4) else if whP (nxM M) 0 (M 3 4 - 1) then (if whP (nxM (nxM M)) 0 63 then (1, nxM (chA (nxM (nxM M)) (nxM M 1 8) (nxM (nxM M) 1 8))) else (0, rfM (nxM (nxM M)) (whK (nxM (nxM M))))) else (0, rfM (nxM M) (whK (nxM M)))
theorem chA_rd {M : mmM} {i v : Int} (h : rdM M) : rdM (chA M i v) := up_rd (by decide) (up_rd (by decide) (up_rd (by decide) h))
def t_Rd_readSet : mmT := fun as M Q => match as with
  | [.inr (.inr o)] => o = 1 ∧ rdM M ∧ rdS M ∧ Q (some (vi (setF M).1)) (setF M).2
  | _ => False
set_option maxHeartbeats 4000000 in
set_option maxRecDepth 100000 in
theorem p_Rd_readSet : ∀ as M Q, (∀ v ∈ as, mm_vin v) → mm_mem M → t_Rd_readSet as M Q → (mm_ent as).length ≤ 2 ∧ mm_ok mb_Rd_readSet [(310, t_Rd_refuse), (406, t_Row_hasRoomForChange), (314, t_Rd_next), (312, t_Rd_isWhole), (409, t_Row_addChange)] (mm_entry 2 as) M Q := by
  intro as M Q hin hM h
  unfold t_Rd_readSet at h
  split at h
  rotate_left
  · exact h.elim
  rename_i o
  refine ⟨by simp [mm_ent], (show mm_ok mb_Rd_readSet [(310, t_Rd_refuse), (406, t_Row_hasRoomForChange), (314, t_Rd_next), (312, t_Rd_isWhole), (409, t_Row_addChange)] [some (vr o), none] M Q from ?_)⟩
  intro J hJ
  obtain ⟨rfl, hd, hs, h⟩ := h
  have hd1 := nx_rd hd.1
  have hd2 := nx_rd hd1.1
  have hs2 := hs
  unfold rdS at hs2
  have n3 : nxM M 3 = M 3 := nx_o M (by decide)
  have n33 : nxM (nxM M) 3 = M 3 := by rw [nx_o _ (by decide), n3]
  unfold setF at h
  have h16 : ¬ M 3 4 = 0 → J 16 [some (vr 1), none] [] M := by
    intro c0
    rw [if_neg c0] at h
    have h32 : ¬ 32 ≤ M 3 5 → J 32 [some (vr 1), none] [] M := by
      intro c1
      rw [if_neg c1] at h
      have h55 : whP (nxM M) 0 (M 3 4 - 1) → J 55 [some (vr 1), none] [] (nxM M) := by
        intro c2
        rw [if_pos c2] at h
        have h76 : whP (nxM (nxM M)) 0 63 → J 76 [some (vr 1), some (vi (nxM M 1 8))] [] (nxM (nxM M)) := by
          intro c3
          rw [if_pos c3] at h
          refine hJ 76 _ _ _ (show mm_wp _ _ _ mo_Rd_readSet_76 _ _ _ from ?_)
          simp only [mo_Rd_readSet_76, mm_wp, mm_ldi, mm_lda, mm_ldl, mm_sti, mm_sta, mm_stl, mm_inc, mm_2i, mm_mm, mm_2l, mm_lcmp, mm_i2l, mm_l2i, mm_cast8, mm_if1, mm_if2, mm_cmp, mm_swi, mm_sw, mm_pop1, mm_dup, mm_dup2, mm_geti, mm_geta, mm_puti, mm_iald, mm_bald, mm_aald, mm_iast, mm_bast, mm_alen, mm_acpy, mm_call, mm_callv, mm_recv, mm_pop, mm_find, mm_push, mm_cats, mm_cat, mm_reti, mm_retz, mm_retl, mm_reta, mm_retv, mm_set1, mm_set2, mm_kill, List.getElem?_cons_zero, List.getElem?_cons_succ, Int.reduceToNat, ↓reduceIte, Nat.reduceEqDiff, Nat.reduceDiv, Nat.reduceAdd, Nat.reduceLeDiff, Nat.zero_le, true_and, and_true, true_or, or_true, mm_b0, mm_b1, mm_lc_lt, mm_lc_le, mm_lc_gt, mm_lc_ge, mm_lc_eq, Int.not_lt, Int.not_le, Decidable.not_not, Int.sub_neg, c_0, c_1, c_2, l_2, c_3, c_4, l_4, c_5, l_5, c_6, l_6, c_7, l_7, c_8, c_9, l_9, c_10, l_10, c_11, l_11, c_12, l_12, c_13, c_14, l_14, c_15, l_15, c_16, l_16, c_17, l_17, c_18, c_19, l_19, c_20, l_20, c_21, l_21, c_22, l_22, c_23, c_24, l_24, c_25, l_25, c_26, c_27, c_28, l_28, c_29, c_30, l_30, c_31, c_32, l_32, c_33, l_33, c_34, l_34, c_35, l_35, c_36, l_36, c_37, l_37, c_38, l_38, c_39, l_39, c_40, c_41, l_41, c_42, c_43, c_44, l_44, c_45, c_46, l_46, c_47, c_48, l_48, c_49, l_49, c_50, l_50, c_51, l_51, c_52, l_52, c_53, l_53, c_54, l_54, c_55, l_55, c_56, l_56, c_57, l_57, c_58, l_58, c_59, l_59, c_60, l_60, c_61, l_61, c_62, c_63, l_63, c_64, l_64, c_65, l_65, c_66, l_66, c_67, l_67, c_68, l_68, c_69, l_69, c_70, l_70, c_71, l_71, c_72, l_72, c_73, l_73, c_74, l_74, c_75, l_75, c_76, l_76, t_Row_addChange, t_Rd_next]
          rw [n33]
          refine ⟨by omega, by omega, (chA_rd hd2).1, ?_⟩
          unfold chA at h
          rw [n33] at h
          exact h
        refine hJ 55 _ _ _ (show mm_wp _ _ _ mo_Rd_readSet_55 _ _ _ from ?_)
        simp only [mo_Rd_readSet_55, mm_wp, mm_ldi, mm_lda, mm_ldl, mm_sti, mm_sta, mm_stl, mm_inc, mm_2i, mm_mm, mm_2l, mm_lcmp, mm_i2l, mm_l2i, mm_cast8, mm_if1, mm_if2, mm_cmp, mm_swi, mm_sw, mm_pop1, mm_dup, mm_dup2, mm_geti, mm_geta, mm_puti, mm_iald, mm_bald, mm_aald, mm_iast, mm_bast, mm_alen, mm_acpy, mm_call, mm_callv, mm_recv, mm_pop, mm_find, mm_push, mm_cats, mm_cat, mm_reti, mm_retz, mm_retl, mm_reta, mm_retv, mm_set1, mm_set2, mm_kill, List.getElem?_cons_zero, List.getElem?_cons_succ, Int.reduceToNat, ↓reduceIte, Nat.reduceEqDiff, Nat.reduceDiv, Nat.reduceAdd, Nat.reduceLeDiff, Nat.zero_le, true_and, and_true, true_or, or_true, mm_b0, mm_b1, mm_lc_lt, mm_lc_le, mm_lc_gt, mm_lc_ge, mm_lc_eq, Int.not_lt, Int.not_le, Decidable.not_not, Int.sub_neg, c_0, c_1, c_2, l_2, c_3, c_4, l_4, c_5, l_5, c_6, l_6, c_7, l_7, c_8, c_9, l_9, c_10, l_10, c_11, l_11, c_12, l_12, c_13, c_14, l_14, c_15, l_15, c_16, l_16, c_17, l_17, c_18, c_19, l_19, c_20, l_20, c_21, l_21, c_22, l_22, c_23, c_24, l_24, c_25, l_25, c_26, c_27, c_28, l_28, c_29, c_30, l_30, c_31, c_32, l_32, c_33, l_33, c_34, l_34, c_35, l_35, c_36, l_36, c_37, l_37, c_38, l_38, c_39, l_39, c_40, c_41, l_41, c_42, c_43, c_44, l_44, c_45, c_46, l_46, c_47, c_48, l_48, c_49, l_49, c_50, l_50, c_51, l_51, c_52, l_52, c_53, l_53, c_54, l_54, c_55, l_55, c_56, l_56, c_57, l_57, c_58, l_58, c_59, l_59, c_60, l_60, c_61, l_61, c_62, c_63, l_63, c_64, l_64, c_65, l_65, c_66, l_66, c_67, l_67, c_68, l_68, c_69, l_69, c_70, l_70, c_71, l_71, c_72, l_72, c_73, l_73, c_74, l_74, c_75, l_75, c_76, l_76, t_Rd_next, t_Rd_isWhole]
        refine ⟨hd1.1, hd2, fun c3 => ⟨fun _ => h76 c3, fun z => by first | omega | simp at z⟩, fun c3 => ⟨fun z => by first | omega | simp at z, fun _ => ?_⟩⟩
        rw [if_neg c3] at h
        exact h
      refine hJ 32 _ _ _ (show mm_wp _ _ _ mo_Rd_readSet_32 _ _ _ from ?_)
      simp only [mo_Rd_readSet_32, mm_wp, mm_ldi, mm_lda, mm_ldl, mm_sti, mm_sta, mm_stl, mm_inc, mm_2i, mm_mm, mm_2l, mm_lcmp, mm_i2l, mm_l2i, mm_cast8, mm_if1, mm_if2, mm_cmp, mm_swi, mm_sw, mm_pop1, mm_dup, mm_dup2, mm_geti, mm_geta, mm_puti, mm_iald, mm_bald, mm_aald, mm_iast, mm_bast, mm_alen, mm_acpy, mm_call, mm_callv, mm_recv, mm_pop, mm_find, mm_push, mm_cats, mm_cat, mm_reti, mm_retz, mm_retl, mm_reta, mm_retv, mm_set1, mm_set2, mm_kill, List.getElem?_cons_zero, List.getElem?_cons_succ, Int.reduceToNat, ↓reduceIte, Nat.reduceEqDiff, Nat.reduceDiv, Nat.reduceAdd, Nat.reduceLeDiff, Nat.zero_le, true_and, and_true, true_or, or_true, mm_b0, mm_b1, mm_lc_lt, mm_lc_le, mm_lc_gt, mm_lc_ge, mm_lc_eq, Int.not_lt, Int.not_le, Decidable.not_not, Int.sub_neg, c_0, c_1, c_2, l_2, c_3, c_4, l_4, c_5, l_5, c_6, l_6, c_7, l_7, c_8, c_9, l_9, c_10, l_10, c_11, l_11, c_12, l_12, c_13, c_14, l_14, c_15, l_15, c_16, l_16, c_17, l_17, c_18, c_19, l_19, c_20, l_20, c_21, l_21, c_22, l_22, c_23, c_24, l_24, c_25, l_25, c_26, c_27, c_28, l_28, c_29, c_30, l_30, c_31, c_32, l_32, c_33, l_33, c_34, l_34, c_35, l_35, c_36, l_36, c_37, l_37, c_38, l_38, c_39, l_39, c_40, c_41, l_41, c_42, c_43, c_44, l_44, c_45, c_46, l_46, c_47, c_48, l_48, c_49, l_49, c_50, l_50, c_51, l_51, c_52, l_52, c_53, l_53, c_54, l_54, c_55, l_55, c_56, l_56, c_57, l_57, c_58, l_58, c_59, l_59, c_60, l_60, c_61, l_61, c_62, c_63, l_63, c_64, l_64, c_65, l_65, c_66, l_66, c_67, l_67, c_68, l_68, c_69, l_69, c_70, l_70, c_71, l_71, c_72, l_72, c_73, l_73, c_74, l_74, c_75, l_75, c_76, l_76, t_Rd_next, t_Rd_isWhole, n3]
      refine ⟨hd.1, by omega, hd1, fun c3 => ⟨fun _ => h55 c3, fun z => by first | omega | simp at z⟩, fun c3 => ⟨fun z => by first | omega | simp at z, fun _ => ?_⟩⟩
      rw [if_neg c3] at h
      exact h
    refine hJ 16 _ _ _ (show mm_wp _ _ _ mo_Rd_readSet_16 _ _ _ from ?_)
    simp only [mo_Rd_readSet_16, mm_wp, mm_ldi, mm_lda, mm_ldl, mm_sti, mm_sta, mm_stl, mm_inc, mm_2i, mm_mm, mm_2l, mm_lcmp, mm_i2l, mm_l2i, mm_cast8, mm_if1, mm_if2, mm_cmp, mm_swi, mm_sw, mm_pop1, mm_dup, mm_dup2, mm_geti, mm_geta, mm_puti, mm_iald, mm_bald, mm_aald, mm_iast, mm_bast, mm_alen, mm_acpy, mm_call, mm_callv, mm_recv, mm_pop, mm_find, mm_push, mm_cats, mm_cat, mm_reti, mm_retz, mm_retl, mm_reta, mm_retv, mm_set1, mm_set2, mm_kill, List.getElem?_cons_zero, List.getElem?_cons_succ, Int.reduceToNat, ↓reduceIte, Nat.reduceEqDiff, Nat.reduceDiv, Nat.reduceAdd, Nat.reduceLeDiff, Nat.zero_le, true_and, and_true, true_or, or_true, mm_b0, mm_b1, mm_lc_lt, mm_lc_le, mm_lc_gt, mm_lc_ge, mm_lc_eq, Int.not_lt, Int.not_le, Decidable.not_not, Int.sub_neg, c_0, c_1, c_2, l_2, c_3, c_4, l_4, c_5, l_5, c_6, l_6, c_7, l_7, c_8, c_9, l_9, c_10, l_10, c_11, l_11, c_12, l_12, c_13, c_14, l_14, c_15, l_15, c_16, l_16, c_17, l_17, c_18, c_19, l_19, c_20, l_20, c_21, l_21, c_22, l_22, c_23, c_24, l_24, c_25, l_25, c_26, c_27, c_28, l_28, c_29, c_30, l_30, c_31, c_32, l_32, c_33, l_33, c_34, l_34, c_35, l_35, c_36, l_36, c_37, l_37, c_38, l_38, c_39, l_39, c_40, c_41, l_41, c_42, c_43, c_44, l_44, c_45, c_46, l_46, c_47, c_48, l_48, c_49, l_49, c_50, l_50, c_51, l_51, c_52, l_52, c_53, l_53, c_54, l_54, c_55, l_55, c_56, l_56, c_57, l_57, c_58, l_58, c_59, l_59, c_60, l_60, c_61, l_61, c_62, c_63, l_63, c_64, l_64, c_65, l_65, c_66, l_66, c_67, l_67, c_68, l_68, c_69, l_69, c_70, l_70, c_71, l_71, c_72, l_72, c_73, l_73, c_74, l_74, c_75, l_75, c_76, l_76, t_Row_hasRoomForChange, t_Rd_refuse]
    refine ⟨fun z => h32 (by omega), fun z => ⟨hd, by omega, by omega, ?_⟩⟩
    rw [if_pos (by omega)] at h
    exact h
  refine hJ 0 _ _ _ (show mm_wp _ _ _ mo_Rd_readSet_0 _ _ _ from ?_)
  simp only [mo_Rd_readSet_0, mm_wp, mm_ldi, mm_lda, mm_ldl, mm_sti, mm_sta, mm_stl, mm_inc, mm_2i, mm_mm, mm_2l, mm_lcmp, mm_i2l, mm_l2i, mm_cast8, mm_if1, mm_if2, mm_cmp, mm_swi, mm_sw, mm_pop1, mm_dup, mm_dup2, mm_geti, mm_geta, mm_puti, mm_iald, mm_bald, mm_aald, mm_iast, mm_bast, mm_alen, mm_acpy, mm_call, mm_callv, mm_recv, mm_pop, mm_find, mm_push, mm_cats, mm_cat, mm_reti, mm_retz, mm_retl, mm_reta, mm_retv, mm_set1, mm_set2, mm_kill, List.getElem?_cons_zero, List.getElem?_cons_succ, Int.reduceToNat, ↓reduceIte, Nat.reduceEqDiff, Nat.reduceDiv, Nat.reduceAdd, Nat.reduceLeDiff, Nat.zero_le, true_and, and_true, true_or, or_true, mm_b0, mm_b1, mm_lc_lt, mm_lc_le, mm_lc_gt, mm_lc_ge, mm_lc_eq, Int.not_lt, Int.not_le, Decidable.not_not, Int.sub_neg, c_0, c_1, c_2, l_2, c_3, c_4, l_4, c_5, l_5, c_6, l_6, c_7, l_7, c_8, c_9, l_9, c_10, l_10, c_11, l_11, c_12, l_12, c_13, c_14, l_14, c_15, l_15, c_16, l_16, c_17, l_17, c_18, c_19, l_19, c_20, l_20, c_21, l_21, c_22, l_22, c_23, c_24, l_24, c_25, l_25, c_26, c_27, c_28, l_28, c_29, c_30, l_30, c_31, c_32, l_32, c_33, l_33, c_34, l_34, c_35, l_35, c_36, l_36, c_37, l_37, c_38, l_38, c_39, l_39, c_40, c_41, l_41, c_42, c_43, c_44, l_44, c_45, c_46, l_46, c_47, c_48, l_48, c_49, l_49, c_50, l_50, c_51, l_51, c_52, l_52, c_53, l_53, c_54, l_54, c_55, l_55, c_56, l_56, c_57, l_57, c_58, l_58, c_59, l_59, c_60, l_60, c_61, l_61, c_62, c_63, l_63, c_64, l_64, c_65, l_65, c_66, l_66, c_67, l_67, c_68, l_68, c_69, l_69, c_70, l_70, c_71, l_71, c_72, l_72, c_73, l_73, c_74, l_74, c_75, l_75, c_76, l_76, t_Rd_refuse]
  refine ⟨fun z => h16 z, fun z => ⟨hd, by omega, by omega, ?_⟩⟩
  rw [if_pos z] at h
  exact h
noncomputable def tmF (M : mmM) (k f l : Int) : Int × mmM := if wdB M 3 = true then (if whP (nxM M) 0 (M 3 5) then (1, qAdd (nxM (nxM M)) 8 k f l (nxM M 1 8)) else (0, rfM (nxM M) (whK (nxM M)))) else (1, qAdd M 8 k f l (M 3 5))
def t_Rd_readTime : mmT := fun as M Q => match as with
  | [.inr (.inr o), .inl k, .inl f, .inl l] => o = 1 ∧ rdM M ∧ rdS M ∧ M 8 4 < 24 ∧ Q (some (vi (tmF M k f l).1)) (tmF M k f l).2
  | _ => False
set_option maxHeartbeats 4000000 in
set_option maxRecDepth 100000 in
theorem p_Rd_readTime : ∀ as M Q, (∀ v ∈ as, mm_vin v) → mm_mem M → t_Rd_readTime as M Q → (mm_ent as).length ≤ 5 ∧ mm_ok mb_Rd_readTime [(313, t_Rd_isWord), (314, t_Rd_next), (312, t_Rd_isWhole), (204, t_Q_add)] (mm_entry 5 as) M Q := by
  intro as M Q hin hM h
  unfold t_Rd_readTime at h
  split at h
  rotate_left
  · exact h.elim
  rename_i o k f l
  have hR_k : mm_R k := hin (vi k) (by simp)
  have hR_f : mm_R f := hin (vi f) (by simp)
  have hR_l : mm_R l := hin (vi l) (by simp)
  refine ⟨by simp [mm_ent], (show mm_ok mb_Rd_readTime [(313, t_Rd_isWord), (314, t_Rd_next), (312, t_Rd_isWhole), (204, t_Q_add)] [some (vr o), some (vi k), some (vi f), some (vi l), none] M Q from ?_)⟩
  intro J hJ
  obtain ⟨rfl, hd, hs, hq, h⟩ := h
  have hd1 := nx_rd hd.1
  unfold rdS at hs
  have n3 : nxM M 3 = M 3 := nx_o M (by decide)
  have n8 : nxM (nxM M) 8 = M 8 := by rw [nx_o _ (by decide), nx_o _ (by decide)]
  unfold tmF at h
  have h49 : ∀ (M1 : mmM) (t : Int), M1 8 = M 8 → Q (some (vi 1)) (qAdd M1 8 k f l t) → J 49 [some (vr 1), some (vi k), some (vi f), some (vi l), some (vi t)] [] M1 := by
    intro M1 t e hq
    refine hJ 49 _ _ _ (show mm_wp _ _ _ mo_Rd_readTime_49 _ _ _ from ?_)
    simp only [mo_Rd_readTime_49, mm_wp, mm_ldi, mm_lda, mm_ldl, mm_sti, mm_sta, mm_stl, mm_inc, mm_2i, mm_mm, mm_2l, mm_lcmp, mm_i2l, mm_l2i, mm_cast8, mm_if1, mm_if2, mm_cmp, mm_swi, mm_sw, mm_pop1, mm_dup, mm_dup2, mm_geti, mm_geta, mm_puti, mm_iald, mm_bald, mm_aald, mm_iast, mm_bast, mm_alen, mm_acpy, mm_call, mm_callv, mm_recv, mm_pop, mm_find, mm_push, mm_cats, mm_cat, mm_reti, mm_retz, mm_retl, mm_reta, mm_retv, mm_set1, mm_set2, mm_kill, List.getElem?_cons_zero, List.getElem?_cons_succ, Int.reduceToNat, ↓reduceIte, Nat.reduceEqDiff, Nat.reduceDiv, Nat.reduceAdd, Nat.reduceLeDiff, Nat.zero_le, true_and, and_true, true_or, or_true, mm_b0, mm_b1, mm_lc_lt, mm_lc_le, mm_lc_gt, mm_lc_ge, mm_lc_eq, Int.not_lt, Int.not_le, Decidable.not_not, Int.sub_neg, c_0, c_1, c_2, l_2, c_3, c_4, l_4, c_5, l_5, c_6, l_6, c_7, l_7, c_8, c_9, l_9, c_10, l_10, c_11, l_11, c_12, l_12, c_13, c_14, l_14, c_15, l_15, c_16, l_16, c_17, l_17, c_18, c_19, l_19, c_20, l_20, c_21, l_21, c_22, l_22, c_23, c_24, l_24, c_25, l_25, c_26, c_27, c_28, l_28, c_29, c_30, l_30, c_31, c_32, l_32, c_33, l_33, c_34, l_34, c_35, l_35, c_36, l_36, c_37, l_37, c_38, l_38, c_39, l_39, c_40, c_41, l_41, c_42, c_43, c_44, l_44, c_45, c_46, l_46, c_47, c_48, l_48, c_49, l_49, c_50, l_50, c_51, l_51, c_52, l_52, c_53, l_53, c_54, l_54, c_55, l_55, c_56, l_56, c_57, l_57, c_58, l_58, c_59, l_59, c_60, l_60, c_61, l_61, c_62, c_63, l_63, c_64, l_64, c_65, l_65, c_66, l_66, c_67, l_67, c_68, l_68, c_69, l_69, c_70, l_70, c_71, l_71, c_72, l_72, c_73, l_73, c_74, l_74, c_75, l_75, c_76, l_76, t_Q_add]
    rw [e]
    exact ⟨isQ8, by omega, by omega, hq⟩
  have h39 : wdB M 3 = true → whP (nxM M) 0 (M 3 5) → J 39 [some (vr 1), some (vi k), some (vi f), some (vi l), some (vi (M 3 5))] [] (nxM M) := by
    intro c1 c2
    rw [if_pos c1, if_pos c2] at h
    refine hJ 39 _ _ _ (show mm_wp _ _ _ mo_Rd_readTime_39 _ _ _ from ?_)
    simp only [mo_Rd_readTime_39, mm_wp, mm_ldi, mm_lda, mm_ldl, mm_sti, mm_sta, mm_stl, mm_inc, mm_2i, mm_mm, mm_2l, mm_lcmp, mm_i2l, mm_l2i, mm_cast8, mm_if1, mm_if2, mm_cmp, mm_swi, mm_sw, mm_pop1, mm_dup, mm_dup2, mm_geti, mm_geta, mm_puti, mm_iald, mm_bald, mm_aald, mm_iast, mm_bast, mm_alen, mm_acpy, mm_call, mm_callv, mm_recv, mm_pop, mm_find, mm_push, mm_cats, mm_cat, mm_reti, mm_retz, mm_retl, mm_reta, mm_retv, mm_set1, mm_set2, mm_kill, List.getElem?_cons_zero, List.getElem?_cons_succ, Int.reduceToNat, ↓reduceIte, Nat.reduceEqDiff, Nat.reduceDiv, Nat.reduceAdd, Nat.reduceLeDiff, Nat.zero_le, true_and, and_true, true_or, or_true, mm_b0, mm_b1, mm_lc_lt, mm_lc_le, mm_lc_gt, mm_lc_ge, mm_lc_eq, Int.not_lt, Int.not_le, Decidable.not_not, Int.sub_neg, c_0, c_1, c_2, l_2, c_3, c_4, l_4, c_5, l_5, c_6, l_6, c_7, l_7, c_8, c_9, l_9, c_10, l_10, c_11, l_11, c_12, l_12, c_13, c_14, l_14, c_15, l_15, c_16, l_16, c_17, l_17, c_18, c_19, l_19, c_20, l_20, c_21, l_21, c_22, l_22, c_23, c_24, l_24, c_25, l_25, c_26, c_27, c_28, l_28, c_29, c_30, l_30, c_31, c_32, l_32, c_33, l_33, c_34, l_34, c_35, l_35, c_36, l_36, c_37, l_37, c_38, l_38, c_39, l_39, c_40, c_41, l_41, c_42, c_43, c_44, l_44, c_45, c_46, l_46, c_47, c_48, l_48, c_49, l_49, c_50, l_50, c_51, l_51, c_52, l_52, c_53, l_53, c_54, l_54, c_55, l_55, c_56, l_56, c_57, l_57, c_58, l_58, c_59, l_59, c_60, l_60, c_61, l_61, c_62, c_63, l_63, c_64, l_64, c_65, l_65, c_66, l_66, c_67, l_67, c_68, l_68, c_69, l_69, c_70, l_70, c_71, l_71, c_72, l_72, c_73, l_73, c_74, l_74, c_75, l_75, c_76, l_76, t_Rd_next]
    exact ⟨hd1.1, h49 _ _ n8 h⟩
  refine hJ 0 _ _ _ (show mm_wp _ _ _ mo_Rd_readTime_0 _ _ _ from ?_)
  simp only [mo_Rd_readTime_0, mm_wp, mm_ldi, mm_lda, mm_ldl, mm_sti, mm_sta, mm_stl, mm_inc, mm_2i, mm_mm, mm_2l, mm_lcmp, mm_i2l, mm_l2i, mm_cast8, mm_if1, mm_if2, mm_cmp, mm_swi, mm_sw, mm_pop1, mm_dup, mm_dup2, mm_geti, mm_geta, mm_puti, mm_iald, mm_bald, mm_aald, mm_iast, mm_bast, mm_alen, mm_acpy, mm_call, mm_callv, mm_recv, mm_pop, mm_find, mm_push, mm_cats, mm_cat, mm_reti, mm_retz, mm_retl, mm_reta, mm_retv, mm_set1, mm_set2, mm_kill, List.getElem?_cons_zero, List.getElem?_cons_succ, Int.reduceToNat, ↓reduceIte, Nat.reduceEqDiff, Nat.reduceDiv, Nat.reduceAdd, Nat.reduceLeDiff, Nat.zero_le, true_and, and_true, true_or, or_true, mm_b0, mm_b1, mm_lc_lt, mm_lc_le, mm_lc_gt, mm_lc_ge, mm_lc_eq, Int.not_lt, Int.not_le, Decidable.not_not, Int.sub_neg, c_0, c_1, c_2, l_2, c_3, c_4, l_4, c_5, l_5, c_6, l_6, c_7, l_7, c_8, c_9, l_9, c_10, l_10, c_11, l_11, c_12, l_12, c_13, c_14, l_14, c_15, l_15, c_16, l_16, c_17, l_17, c_18, c_19, l_19, c_20, l_20, c_21, l_21, c_22, l_22, c_23, c_24, l_24, c_25, l_25, c_26, c_27, c_28, l_28, c_29, c_30, l_30, c_31, c_32, l_32, c_33, l_33, c_34, l_34, c_35, l_35, c_36, l_36, c_37, l_37, c_38, l_38, c_39, l_39, c_40, c_41, l_41, c_42, c_43, c_44, l_44, c_45, c_46, l_46, c_47, c_48, l_48, c_49, l_49, c_50, l_50, c_51, l_51, c_52, l_52, c_53, l_53, c_54, l_54, c_55, l_55, c_56, l_56, c_57, l_57, c_58, l_58, c_59, l_59, c_60, l_60, c_61, l_61, c_62, c_63, l_63, c_64, l_64, c_65, l_65, c_66, l_66, c_67, l_67, c_68, l_68, c_69, l_69, c_70, l_70, c_71, l_71, c_72, l_72, c_73, l_73, c_74, l_74, c_75, l_75, c_76, l_76, t_Rd_isWord, t_Rd_next, t_Rd_isWhole, n3, Nat.reduceSub]
  refine ⟨hd, fun z => ?_, fun z => ⟨hd.1, hd1, fun c => ⟨fun _ => h39 z c, fun z2 => by first | omega | simp at z2⟩, fun c => ⟨fun z2 => by first | omega | simp at z2, fun _ => ?_⟩⟩⟩
  · rw [if_neg z] at h
    exact h49 M _ rfl h
  · rw [if_pos z, if_neg c] at h
    exact h
noncomputable def askF (M : mmM) : Int × mmM := if M 3 4 = 0 then (0, rfM M 5) else if 24 ≤ M 8 4 then (0, rfM M 4) else if kdF (nxM M) = -1 then (0, rfM (nxM M) 1) else if whP (nxM (nxM M)) 0 (M 3 4 - 1) then (if whP (nxM (nxM (nxM M))) (nxM (nxM M) 1 8) (M 3 4 - 1) then tmF (nxM (nxM (nxM (nxM M)))) (kdF (nxM M)) (nxM (nxM M) 1 8) (nxM (nxM (nxM M)) 1 8) else (0, rfM (nxM (nxM (nxM M))) (whK (nxM (nxM (nxM M)))))) else (0, rfM (nxM (nxM M)) (whK (nxM (nxM M))))
theorem tmF_01 (M : mmM) (k f l : Int) : (tmF M k f l).1 = 0 ∨ (tmF M k f l).1 = 1 := by
  unfold tmF
  split
  · split
    · exact Or.inr rfl
    · exact Or.inl rfl
  · exact Or.inr rfl
def t_Rd_readAsk : mmT := fun as M Q => match as with
  | [.inr (.inr o)] => o = 1 ∧ rdM M ∧ rdS M ∧ Q (some (vi (askF M).1)) (askF M).2
  | _ => False
set_option maxHeartbeats 4000000 in
set_option maxRecDepth 100000 in
theorem p_Rd_readAsk : ∀ as M Q, (∀ v ∈ as, mm_vin v) → mm_mem M → t_Rd_readAsk as M Q → (mm_ent as).length ≤ 4 ∧ mm_ok mb_Rd_readAsk [(310, t_Rd_refuse), (314, t_Rd_next), (309, t_Rd_kindHere), (312, t_Rd_isWhole), (308, t_Rd_readTime)] (mm_entry 4 as) M Q := by
  intro as M Q hin hM h
  unfold t_Rd_readAsk at h
  split at h
  rotate_left
  · exact h.elim
  rename_i o
  refine ⟨by simp [mm_ent], (show mm_ok mb_Rd_readAsk [(310, t_Rd_refuse), (314, t_Rd_next), (309, t_Rd_kindHere), (312, t_Rd_isWhole), (308, t_Rd_readTime)] [some (vr o), none, none, none] M Q from ?_)⟩
  intro J hJ
  obtain ⟨rfl, hd, hs, h⟩ := h
  have hd1 := nx_rd hd.1
  have hd2 := nx_rd hd1.1
  have hd3 := nx_rd hd2.1
  have hd4 := nx_rd hd3.1
  have hs4 := rdS_nx (rdS_nx (rdS_nx (rdS_nx hs)))
  have hs2 := hs
  unfold rdS at hs2
  have n3 : nxM M 3 = M 3 := nx_o M (by decide)
  have n33 : nxM (nxM M) 3 = M 3 := by rw [nx_o _ (by decide), n3]
  have n333 : nxM (nxM (nxM M)) 3 = M 3 := by rw [nx_o _ (by decide), n33]
  have n8 : nxM (nxM (nxM (nxM M))) 8 = M 8 := by rw [nx_o _ (by decide), nx_o _ (by decide), nx_o _ (by decide), nx_o _ (by decide)]
  unfold askF at h
  have h16 : ¬ M 3 4 = 0 → J 16 [some (vr 1), none, none, none] [] M := by
    intro c0
    rw [if_neg c0] at h
    have h34 : ¬ 24 ≤ M 8 4 → J 34 [some (vr 1), none, none, none] [] M := by
      intro c1
      rw [if_neg c1] at h
      have h54 : ¬ kdF (nxM M) = -1 → J 54 [some (vr 1), some (vi (kdF (nxM M))), none, none] [] (nxM M) := by
        intro c2
        rw [if_neg c2] at h
        have h77 : whP (nxM (nxM M)) 0 (M 3 4 - 1) → J 77 [some (vr 1), some (vi (kdF (nxM M))), none, none] [] (nxM (nxM M)) := by
          intro c3
          rw [if_pos c3] at h
          have h105 : whP (nxM (nxM (nxM M))) (nxM (nxM M) 1 8) (M 3 4 - 1) → J 105 [some (vr 1), some (vi (kdF (nxM M))), some (vi (nxM (nxM M) 1 8)), none] [] (nxM (nxM (nxM M))) := by
            intro c4
            rw [if_pos c4] at h
            refine hJ 105 _ _ _ (show mm_wp _ _ _ mo_Rd_readAsk_105 _ _ _ from ?_)
            simp only [mo_Rd_readAsk_105, mm_wp, mm_ldi, mm_lda, mm_ldl, mm_sti, mm_sta, mm_stl, mm_inc, mm_2i, mm_mm, mm_2l, mm_lcmp, mm_i2l, mm_l2i, mm_cast8, mm_if1, mm_if2, mm_cmp, mm_swi, mm_sw, mm_pop1, mm_dup, mm_dup2, mm_geti, mm_geta, mm_puti, mm_iald, mm_bald, mm_aald, mm_iast, mm_bast, mm_alen, mm_acpy, mm_call, mm_callv, mm_recv, mm_pop, mm_find, mm_push, mm_cats, mm_cat, mm_reti, mm_retz, mm_retl, mm_reta, mm_retv, mm_set1, mm_set2, mm_kill, List.getElem?_cons_zero, List.getElem?_cons_succ, Int.reduceToNat, ↓reduceIte, Nat.reduceEqDiff, Nat.reduceDiv, Nat.reduceAdd, Nat.reduceLeDiff, Nat.zero_le, true_and, and_true, true_or, or_true, mm_b0, mm_b1, mm_lc_lt, mm_lc_le, mm_lc_gt, mm_lc_ge, mm_lc_eq, Int.not_lt, Int.not_le, Decidable.not_not, Int.sub_neg, c_0, c_1, c_2, l_2, c_3, c_4, l_4, c_5, l_5, c_6, l_6, c_7, l_7, c_8, c_9, l_9, c_10, l_10, c_11, l_11, c_12, l_12, c_13, c_14, l_14, c_15, l_15, c_16, l_16, c_17, l_17, c_18, c_19, l_19, c_20, l_20, c_21, l_21, c_22, l_22, c_23, c_24, l_24, c_25, l_25, c_26, c_27, c_28, l_28, c_29, c_30, l_30, c_31, c_32, l_32, c_33, l_33, c_34, l_34, c_35, l_35, c_36, l_36, c_37, l_37, c_38, l_38, c_39, l_39, c_40, c_41, l_41, c_42, c_43, c_44, l_44, c_45, c_46, l_46, c_47, c_48, l_48, c_49, l_49, c_50, l_50, c_51, l_51, c_52, l_52, c_53, l_53, c_54, l_54, c_55, l_55, c_56, l_56, c_57, l_57, c_58, l_58, c_59, l_59, c_60, l_60, c_61, l_61, c_62, c_63, l_63, c_64, l_64, c_65, l_65, c_66, l_66, c_67, l_67, c_68, l_68, c_69, l_69, c_70, l_70, c_71, l_71, c_72, l_72, c_73, l_73, c_74, l_74, c_75, l_75, c_76, l_76, t_Rd_next, t_Rd_readTime]
            rw [n8]
            exact ⟨hd3.1, hd4, hs4, by omega, tmF_01 _ _ _ _, h⟩
          refine hJ 77 _ _ _ (show mm_wp _ _ _ mo_Rd_readAsk_77 _ _ _ from ?_)
          simp only [mo_Rd_readAsk_77, mm_wp, mm_ldi, mm_lda, mm_ldl, mm_sti, mm_sta, mm_stl, mm_inc, mm_2i, mm_mm, mm_2l, mm_lcmp, mm_i2l, mm_l2i, mm_cast8, mm_if1, mm_if2, mm_cmp, mm_swi, mm_sw, mm_pop1, mm_dup, mm_dup2, mm_geti, mm_geta, mm_puti, mm_iald, mm_bald, mm_aald, mm_iast, mm_bast, mm_alen, mm_acpy, mm_call, mm_callv, mm_recv, mm_pop, mm_find, mm_push, mm_cats, mm_cat, mm_reti, mm_retz, mm_retl, mm_reta, mm_retv, mm_set1, mm_set2, mm_kill, List.getElem?_cons_zero, List.getElem?_cons_succ, Int.reduceToNat, ↓reduceIte, Nat.reduceEqDiff, Nat.reduceDiv, Nat.reduceAdd, Nat.reduceLeDiff, Nat.zero_le, true_and, and_true, true_or, or_true, mm_b0, mm_b1, mm_lc_lt, mm_lc_le, mm_lc_gt, mm_lc_ge, mm_lc_eq, Int.not_lt, Int.not_le, Decidable.not_not, Int.sub_neg, c_0, c_1, c_2, l_2, c_3, c_4, l_4, c_5, l_5, c_6, l_6, c_7, l_7, c_8, c_9, l_9, c_10, l_10, c_11, l_11, c_12, l_12, c_13, c_14, l_14, c_15, l_15, c_16, l_16, c_17, l_17, c_18, c_19, l_19, c_20, l_20, c_21, l_21, c_22, l_22, c_23, c_24, l_24, c_25, l_25, c_26, c_27, c_28, l_28, c_29, c_30, l_30, c_31, c_32, l_32, c_33, l_33, c_34, l_34, c_35, l_35, c_36, l_36, c_37, l_37, c_38, l_38, c_39, l_39, c_40, c_41, l_41, c_42, c_43, c_44, l_44, c_45, c_46, l_46, c_47, c_48, l_48, c_49, l_49, c_50, l_50, c_51, l_51, c_52, l_52, c_53, l_53, c_54, l_54, c_55, l_55, c_56, l_56, c_57, l_57, c_58, l_58, c_59, l_59, c_60, l_60, c_61, l_61, c_62, c_63, l_63, c_64, l_64, c_65, l_65, c_66, l_66, c_67, l_67, c_68, l_68, c_69, l_69, c_70, l_70, c_71, l_71, c_72, l_72, c_73, l_73, c_74, l_74, c_75, l_75, c_76, l_76, t_Rd_next, t_Rd_isWhole, n333]
          refine ⟨hd2.1, by omega, hd3, fun c4 => ⟨fun _ => h105 c4, fun z => by first | omega | simp at z⟩, fun c4 => ⟨fun z => by first | omega | simp at z, fun _ => ?_⟩⟩
          rw [if_neg c4] at h
          exact h
        refine hJ 54 _ _ _ (show mm_wp _ _ _ mo_Rd_readAsk_54 _ _ _ from ?_)
        simp only [mo_Rd_readAsk_54, mm_wp, mm_ldi, mm_lda, mm_ldl, mm_sti, mm_sta, mm_stl, mm_inc, mm_2i, mm_mm, mm_2l, mm_lcmp, mm_i2l, mm_l2i, mm_cast8, mm_if1, mm_if2, mm_cmp, mm_swi, mm_sw, mm_pop1, mm_dup, mm_dup2, mm_geti, mm_geta, mm_puti, mm_iald, mm_bald, mm_aald, mm_iast, mm_bast, mm_alen, mm_acpy, mm_call, mm_callv, mm_recv, mm_pop, mm_find, mm_push, mm_cats, mm_cat, mm_reti, mm_retz, mm_retl, mm_reta, mm_retv, mm_set1, mm_set2, mm_kill, List.getElem?_cons_zero, List.getElem?_cons_succ, Int.reduceToNat, ↓reduceIte, Nat.reduceEqDiff, Nat.reduceDiv, Nat.reduceAdd, Nat.reduceLeDiff, Nat.zero_le, true_and, and_true, true_or, or_true, mm_b0, mm_b1, mm_lc_lt, mm_lc_le, mm_lc_gt, mm_lc_ge, mm_lc_eq, Int.not_lt, Int.not_le, Decidable.not_not, Int.sub_neg, c_0, c_1, c_2, l_2, c_3, c_4, l_4, c_5, l_5, c_6, l_6, c_7, l_7, c_8, c_9, l_9, c_10, l_10, c_11, l_11, c_12, l_12, c_13, c_14, l_14, c_15, l_15, c_16, l_16, c_17, l_17, c_18, c_19, l_19, c_20, l_20, c_21, l_21, c_22, l_22, c_23, c_24, l_24, c_25, l_25, c_26, c_27, c_28, l_28, c_29, c_30, l_30, c_31, c_32, l_32, c_33, l_33, c_34, l_34, c_35, l_35, c_36, l_36, c_37, l_37, c_38, l_38, c_39, l_39, c_40, c_41, l_41, c_42, c_43, c_44, l_44, c_45, c_46, l_46, c_47, c_48, l_48, c_49, l_49, c_50, l_50, c_51, l_51, c_52, l_52, c_53, l_53, c_54, l_54, c_55, l_55, c_56, l_56, c_57, l_57, c_58, l_58, c_59, l_59, c_60, l_60, c_61, l_61, c_62, c_63, l_63, c_64, l_64, c_65, l_65, c_66, l_66, c_67, l_67, c_68, l_68, c_69, l_69, c_70, l_70, c_71, l_71, c_72, l_72, c_73, l_73, c_74, l_74, c_75, l_75, c_76, l_76, t_Rd_next, t_Rd_isWhole, n33]
        refine ⟨hd1.1, by omega, hd2, fun c3 => ⟨fun _ => h77 c3, fun z => by first | omega | simp at z⟩, fun c3 => ⟨fun z => by first | omega | simp at z, fun _ => ?_⟩⟩
        rw [if_neg c3] at h
        exact h
      refine hJ 34 _ _ _ (show mm_wp _ _ _ mo_Rd_readAsk_34 _ _ _ from ?_)
      simp only [mo_Rd_readAsk_34, mm_wp, mm_ldi, mm_lda, mm_ldl, mm_sti, mm_sta, mm_stl, mm_inc, mm_2i, mm_mm, mm_2l, mm_lcmp, mm_i2l, mm_l2i, mm_cast8, mm_if1, mm_if2, mm_cmp, mm_swi, mm_sw, mm_pop1, mm_dup, mm_dup2, mm_geti, mm_geta, mm_puti, mm_iald, mm_bald, mm_aald, mm_iast, mm_bast, mm_alen, mm_acpy, mm_call, mm_callv, mm_recv, mm_pop, mm_find, mm_push, mm_cats, mm_cat, mm_reti, mm_retz, mm_retl, mm_reta, mm_retv, mm_set1, mm_set2, mm_kill, List.getElem?_cons_zero, List.getElem?_cons_succ, Int.reduceToNat, ↓reduceIte, Nat.reduceEqDiff, Nat.reduceDiv, Nat.reduceAdd, Nat.reduceLeDiff, Nat.zero_le, true_and, and_true, true_or, or_true, mm_b0, mm_b1, mm_lc_lt, mm_lc_le, mm_lc_gt, mm_lc_ge, mm_lc_eq, Int.not_lt, Int.not_le, Decidable.not_not, Int.sub_neg, c_0, c_1, c_2, l_2, c_3, c_4, l_4, c_5, l_5, c_6, l_6, c_7, l_7, c_8, c_9, l_9, c_10, l_10, c_11, l_11, c_12, l_12, c_13, c_14, l_14, c_15, l_15, c_16, l_16, c_17, l_17, c_18, c_19, l_19, c_20, l_20, c_21, l_21, c_22, l_22, c_23, c_24, l_24, c_25, l_25, c_26, c_27, c_28, l_28, c_29, c_30, l_30, c_31, c_32, l_32, c_33, l_33, c_34, l_34, c_35, l_35, c_36, l_36, c_37, l_37, c_38, l_38, c_39, l_39, c_40, c_41, l_41, c_42, c_43, c_44, l_44, c_45, c_46, l_46, c_47, c_48, l_48, c_49, l_49, c_50, l_50, c_51, l_51, c_52, l_52, c_53, l_53, c_54, l_54, c_55, l_55, c_56, l_56, c_57, l_57, c_58, l_58, c_59, l_59, c_60, l_60, c_61, l_61, c_62, c_63, l_63, c_64, l_64, c_65, l_65, c_66, l_66, c_67, l_67, c_68, l_68, c_69, l_69, c_70, l_70, c_71, l_71, c_72, l_72, c_73, l_73, c_74, l_74, c_75, l_75, c_76, l_76, t_Rd_next, t_Rd_kindHere, t_Rd_refuse]
      refine ⟨hd.1, hd1, fun c2 => h54 c2, fun c2 => ⟨hd1, by omega, by omega, ?_⟩⟩
      rw [if_pos c2] at h
      exact h
    refine hJ 16 _ _ _ (show mm_wp _ _ _ mo_Rd_readAsk_16 _ _ _ from ?_)
    simp only [mo_Rd_readAsk_16, mm_wp, mm_ldi, mm_lda, mm_ldl, mm_sti, mm_sta, mm_stl, mm_inc, mm_2i, mm_mm, mm_2l, mm_lcmp, mm_i2l, mm_l2i, mm_cast8, mm_if1, mm_if2, mm_cmp, mm_swi, mm_sw, mm_pop1, mm_dup, mm_dup2, mm_geti, mm_geta, mm_puti, mm_iald, mm_bald, mm_aald, mm_iast, mm_bast, mm_alen, mm_acpy, mm_call, mm_callv, mm_recv, mm_pop, mm_find, mm_push, mm_cats, mm_cat, mm_reti, mm_retz, mm_retl, mm_reta, mm_retv, mm_set1, mm_set2, mm_kill, List.getElem?_cons_zero, List.getElem?_cons_succ, Int.reduceToNat, ↓reduceIte, Nat.reduceEqDiff, Nat.reduceDiv, Nat.reduceAdd, Nat.reduceLeDiff, Nat.zero_le, true_and, and_true, true_or, or_true, mm_b0, mm_b1, mm_lc_lt, mm_lc_le, mm_lc_gt, mm_lc_ge, mm_lc_eq, Int.not_lt, Int.not_le, Decidable.not_not, Int.sub_neg, c_0, c_1, c_2, l_2, c_3, c_4, l_4, c_5, l_5, c_6, l_6, c_7, l_7, c_8, c_9, l_9, c_10, l_10, c_11, l_11, c_12, l_12, c_13, c_14, l_14, c_15, l_15, c_16, l_16, c_17, l_17, c_18, c_19, l_19, c_20, l_20, c_21, l_21, c_22, l_22, c_23, c_24, l_24, c_25, l_25, c_26, c_27, c_28, l_28, c_29, c_30, l_30, c_31, c_32, l_32, c_33, l_33, c_34, l_34, c_35, l_35, c_36, l_36, c_37, l_37, c_38, l_38, c_39, l_39, c_40, c_41, l_41, c_42, c_43, c_44, l_44, c_45, c_46, l_46, c_47, c_48, l_48, c_49, l_49, c_50, l_50, c_51, l_51, c_52, l_52, c_53, l_53, c_54, l_54, c_55, l_55, c_56, l_56, c_57, l_57, c_58, l_58, c_59, l_59, c_60, l_60, c_61, l_61, c_62, c_63, l_63, c_64, l_64, c_65, l_65, c_66, l_66, c_67, l_67, c_68, l_68, c_69, l_69, c_70, l_70, c_71, l_71, c_72, l_72, c_73, l_73, c_74, l_74, c_75, l_75, c_76, l_76, t_Rd_refuse]
    refine ⟨fun z => h34 (by omega), fun z => ⟨hd, by omega, by omega, ?_⟩⟩
    rw [if_pos (by omega)] at h
    exact h
  refine hJ 0 _ _ _ (show mm_wp _ _ _ mo_Rd_readAsk_0 _ _ _ from ?_)
  simp only [mo_Rd_readAsk_0, mm_wp, mm_ldi, mm_lda, mm_ldl, mm_sti, mm_sta, mm_stl, mm_inc, mm_2i, mm_mm, mm_2l, mm_lcmp, mm_i2l, mm_l2i, mm_cast8, mm_if1, mm_if2, mm_cmp, mm_swi, mm_sw, mm_pop1, mm_dup, mm_dup2, mm_geti, mm_geta, mm_puti, mm_iald, mm_bald, mm_aald, mm_iast, mm_bast, mm_alen, mm_acpy, mm_call, mm_callv, mm_recv, mm_pop, mm_find, mm_push, mm_cats, mm_cat, mm_reti, mm_retz, mm_retl, mm_reta, mm_retv, mm_set1, mm_set2, mm_kill, List.getElem?_cons_zero, List.getElem?_cons_succ, Int.reduceToNat, ↓reduceIte, Nat.reduceEqDiff, Nat.reduceDiv, Nat.reduceAdd, Nat.reduceLeDiff, Nat.zero_le, true_and, and_true, true_or, or_true, mm_b0, mm_b1, mm_lc_lt, mm_lc_le, mm_lc_gt, mm_lc_ge, mm_lc_eq, Int.not_lt, Int.not_le, Decidable.not_not, Int.sub_neg, c_0, c_1, c_2, l_2, c_3, c_4, l_4, c_5, l_5, c_6, l_6, c_7, l_7, c_8, c_9, l_9, c_10, l_10, c_11, l_11, c_12, l_12, c_13, c_14, l_14, c_15, l_15, c_16, l_16, c_17, l_17, c_18, c_19, l_19, c_20, l_20, c_21, l_21, c_22, l_22, c_23, c_24, l_24, c_25, l_25, c_26, c_27, c_28, l_28, c_29, c_30, l_30, c_31, c_32, l_32, c_33, l_33, c_34, l_34, c_35, l_35, c_36, l_36, c_37, l_37, c_38, l_38, c_39, l_39, c_40, c_41, l_41, c_42, c_43, c_44, l_44, c_45, c_46, l_46, c_47, c_48, l_48, c_49, l_49, c_50, l_50, c_51, l_51, c_52, l_52, c_53, l_53, c_54, l_54, c_55, l_55, c_56, l_56, c_57, l_57, c_58, l_58, c_59, l_59, c_60, l_60, c_61, l_61, c_62, c_63, l_63, c_64, l_64, c_65, l_65, c_66, l_66, c_67, l_67, c_68, l_68, c_69, l_69, c_70, l_70, c_71, l_71, c_72, l_72, c_73, l_73, c_74, l_74, c_75, l_75, c_76, l_76, t_Rd_refuse]
  refine ⟨fun z => h16 z, fun z => ⟨hd, by omega, by omega, ?_⟩⟩
  rw [if_pos z] at h
  exact h
noncomputable def lineF (M : mmM) : Int × mmM := if wdB M 0 = true then rowF M else if wdB M 1 = true then setF M else if wdB M 2 = true then askF M else (0, rfM M 1)
theorem rlF_01 : ∀ (k : Nat) (x : Int × mmM), rdM x.2 → rdS x.2 → (x.1 = 0 ∨ x.1 = 1) → rdM (rlF k x).2 ∧ rdS (rlF k x).2 ∧ ((rlF k x).1 = 0 ∨ (rlF k x).1 = 1)
  | 0, x, h1, h2, h3 => ⟨h1, h2, h3⟩
  | k + 1, x, h1, h2, h3 => by
    simp only [rlF]
    split
    · have hf := clF_f (nx_rd h1.1) (rdS_nx h2)
      exact rlF_01 k _ hf.1 hf.2.1 (by have := hf.2.2; omega)
    · exact ⟨h1, h2, h3⟩
theorem rowF_f {M : mmM} (hd : rdM M) (hs : rdS M) : rdM (rowF M).2 ∧ rdS (rowF M).2 ∧ ((rowF M).1 = 0 ∨ (rowF M).1 = 1) := by
  unfold rowF
  split
  · exact ⟨rf_rd hd, rf_S hs, Or.inl rfl⟩
  · have hf := clF_f (nx_rd hd.1) (rdS_nx hs)
    have h2 := rlF_01 60 _ hf.1 hf.2.1 (by have := hf.2.2; omega)
    unfold rowE
    split
    · exact ⟨rf_rd h2.1, rf_S h2.2.1, Or.inl rfl⟩
    · exact h2
theorem chA_S {M : mmM} {i v : Int} (h : rdS M) (h5 : M 3 5 < 32) : rdS (chA M i v) := by
  have e1 : chA M i v 3 5 = M 3 5 + 1 := mm_up_s _ _ _ _
  have e2 : chA M i v 3 4 = M 3 4 := by unfold chA; rw [mm_up_i _ (by decide), mm_up_o _ _ (by decide), mm_up_o _ _ (by decide)]
  have e3 : chA M i v 8 = M 8 := by unfold chA; rw [mm_up_o _ _ (by decide), mm_up_o _ _ (by decide), mm_up_o _ _ (by decide)]
  unfold rdS at h ⊢
  rw [e1, e2, e3]
  omega
theorem setF_f {M : mmM} (hd : rdM M) (hs : rdS M) : rdM (setF M).2 ∧ rdS (setF M).2 ∧ ((setF M).1 = 0 ∨ (setF M).1 = 1) := by
  have hd1 := nx_rd hd.1
  have hd2 := nx_rd hd1.1
  have hs1 := rdS_nx hs
  have hs2 := rdS_nx hs1
  unfold setF
  split
  · exact ⟨rf_rd hd, rf_S hs, Or.inl rfl⟩
  · split
    · exact ⟨rf_rd hd, rf_S hs, Or.inl rfl⟩
    · rename_i c5
      split
      · split
        · exact ⟨nx_rd (chA_rd hd2).1, rdS_nx (chA_S hs2 (by rw [nx_o _ (by decide), nx_o _ (by decide)]; omega)), Or.inr rfl⟩
        · exact ⟨rf_rd hd2, rf_S hs2, Or.inl rfl⟩
      · exact ⟨rf_rd hd1, rf_S hs1, Or.inl rfl⟩
theorem qA_o {M : mmM} {o : Nat} {k f l t : Int} {o' : Nat} (h : o' < o ∨ o + 4 < o') : qAdd M o k f l t o' = M o' := by
  unfold qAdd
  rw [mm_up_o _ _ (by omega), mm_up_o _ _ (by omega), mm_up_o _ _ (by omega), mm_up_o _ _ (by omega), mm_up_o _ _ (by omega)]
theorem qA_n {M : mmM} {o : Nat} {k f l t : Int} : qAdd M o k f l t o 4 = M o 4 + 1 := by
  unfold qAdd
  rw [mm_up_s]
theorem qA_rd {M : mmM} {k f l t : Int} (h : rdM M) : rdM (qAdd M 8 k f l t) := by
  unfold rdM rdI
  rw [qA_o (by omega)]
  exact h
theorem qA_S {M : mmM} {k f l t : Int} (h : rdS M) (h5 : M 8 4 < 24) : rdS (qAdd M 8 k f l t) := by
  unfold rdS at h ⊢
  rw [qA_n, qA_o (by omega)]
  omega
theorem tmF_f {M : mmM} {k f l : Int} (hd : rdM M) (hs : rdS M) (hq : M 8 4 < 24) : rdM (tmF M k f l).2 ∧ rdS (tmF M k f l).2 ∧ ((tmF M k f l).1 = 0 ∨ (tmF M k f l).1 = 1) := by
  have hd1 := nx_rd hd.1
  have hd2 := nx_rd hd1.1
  have hs1 := rdS_nx hs
  have hs2 := rdS_nx hs1
  unfold tmF
  split
  · split
    · exact ⟨qA_rd hd2, qA_S hs2 (by rw [nx_o _ (by decide), nx_o _ (by decide)]; omega), Or.inr rfl⟩
    · exact ⟨rf_rd hd1, rf_S hs1, Or.inl rfl⟩
  · exact ⟨qA_rd hd, qA_S hs hq, Or.inr rfl⟩
theorem askF_f {M : mmM} (hd : rdM M) (hs : rdS M) : rdM (askF M).2 ∧ rdS (askF M).2 ∧ ((askF M).1 = 0 ∨ (askF M).1 = 1) := by
  have hd1 := nx_rd hd.1
  have hd2 := nx_rd hd1.1
  have hd3 := nx_rd hd2.1
  have hd4 := nx_rd hd3.1
  have hs1 := rdS_nx hs
  have hs2 := rdS_nx hs1
  have hs3 := rdS_nx hs2
  have hs4 := rdS_nx hs3
  unfold askF
  split
  · exact ⟨rf_rd hd, rf_S hs, Or.inl rfl⟩
  · split
    · exact ⟨rf_rd hd, rf_S hs, Or.inl rfl⟩
    · rename_i c5
      split
      · exact ⟨rf_rd hd1, rf_S hs1, Or.inl rfl⟩
      · split
        · split
          · exact tmF_f hd4 hs4 (by rw [nx_o _ (by decide), nx_o _ (by decide), nx_o _ (by decide), nx_o _ (by decide)]; omega)
          · exact ⟨rf_rd hd3, rf_S hs3, Or.inl rfl⟩
        · exact ⟨rf_rd hd2, rf_S hs2, Or.inl rfl⟩
theorem lineF_f {M : mmM} (hd : rdM M) (hs : rdS M) : rdM (lineF M).2 ∧ rdS (lineF M).2 ∧ ((lineF M).1 = 0 ∨ (lineF M).1 = 1) := by
  unfold lineF
  split
  · exact rowF_f hd hs
  · split
    · exact setF_f hd hs
    · split
      · exact askF_f hd hs
      · exact ⟨rf_rd hd, rf_S hs, Or.inl rfl⟩
def t_Rd_readLine : mmT := fun as M Q => match as with
  | [.inr (.inr o)] => o = 1 ∧ rdM M ∧ rdS M ∧ Q (some (vi (lineF M).1)) (lineF M).2
  | _ => False
set_option maxHeartbeats 4000000 in
set_option maxRecDepth 100000 in
theorem p_Rd_readLine : ∀ as M Q, (∀ v ∈ as, mm_vin v) → mm_mem M → t_Rd_readLine as M Q → (mm_ent as).length ≤ 1 ∧ mm_ok mb_Rd_readLine [(313, t_Rd_isWord), (304, t_Rd_readRow), (306, t_Rd_readSet), (307, t_Rd_readAsk), (310, t_Rd_refuse)] (mm_entry 1 as) M Q := by
  intro as M Q hin hM h
  unfold t_Rd_readLine at h
  split at h
  rotate_left
  · exact h.elim
  rename_i o
  refine ⟨by simp [mm_ent], (show mm_ok mb_Rd_readLine [(313, t_Rd_isWord), (304, t_Rd_readRow), (306, t_Rd_readSet), (307, t_Rd_readAsk), (310, t_Rd_refuse)] [some (vr o)] M Q from ?_)⟩
  intro J hJ
  obtain ⟨rfl, hd, hs, h⟩ := h
  unfold lineF at h
  have f1 := rowF_f hd hs
  have f2 := setF_f hd hs
  have f3 := askF_f hd hs
  have h49 : ∀ (z : Int) (M1 : mmM), (z = 0 ∨ z = 1) → Q (some (vi z)) M1 → J 49 [some (vr 1)] [vi z] M1 := by
    intro z M1 hz hq
    refine hJ 49 _ _ _ (show mm_wp _ _ _ mo_Rd_readLine_49 _ _ _ from ?_)
    simp only [mo_Rd_readLine_49, mm_wp, mm_ldi, mm_lda, mm_ldl, mm_sti, mm_sta, mm_stl, mm_inc, mm_2i, mm_mm, mm_2l, mm_lcmp, mm_i2l, mm_l2i, mm_cast8, mm_if1, mm_if2, mm_cmp, mm_swi, mm_sw, mm_pop1, mm_dup, mm_dup2, mm_geti, mm_geta, mm_puti, mm_iald, mm_bald, mm_aald, mm_iast, mm_bast, mm_alen, mm_acpy, mm_call, mm_callv, mm_recv, mm_pop, mm_find, mm_push, mm_cats, mm_cat, mm_reti, mm_retz, mm_retl, mm_reta, mm_retv, mm_set1, mm_set2, mm_kill, List.getElem?_cons_zero, List.getElem?_cons_succ, Int.reduceToNat, ↓reduceIte, Nat.reduceEqDiff, Nat.reduceDiv, Nat.reduceAdd, Nat.reduceLeDiff, Nat.zero_le, true_and, and_true, true_or, or_true, mm_b0, mm_b1, mm_lc_lt, mm_lc_le, mm_lc_gt, mm_lc_ge, mm_lc_eq, Int.not_lt, Int.not_le, Decidable.not_not, Int.sub_neg]
    exact ⟨hz, hq⟩
  have h28 : ¬ wdB M 0 = true → ¬ wdB M 1 = true → J 28 [some (vr 1)] [] M := by
    intro c0 c1
    rw [if_neg c0, if_neg c1] at h
    have h44 : ¬ wdB M 2 = true → J 44 [some (vr 1)] [] M := by
      intro c2
      rw [if_neg c2] at h
      refine hJ 44 _ _ _ (show mm_wp _ _ _ mo_Rd_readLine_44 _ _ _ from ?_)
      simp only [mo_Rd_readLine_44, mm_wp, mm_ldi, mm_lda, mm_ldl, mm_sti, mm_sta, mm_stl, mm_inc, mm_2i, mm_mm, mm_2l, mm_lcmp, mm_i2l, mm_l2i, mm_cast8, mm_if1, mm_if2, mm_cmp, mm_swi, mm_sw, mm_pop1, mm_dup, mm_dup2, mm_geti, mm_geta, mm_puti, mm_iald, mm_bald, mm_aald, mm_iast, mm_bast, mm_alen, mm_acpy, mm_call, mm_callv, mm_recv, mm_pop, mm_find, mm_push, mm_cats, mm_cat, mm_reti, mm_retz, mm_retl, mm_reta, mm_retv, mm_set1, mm_set2, mm_kill, List.getElem?_cons_zero, List.getElem?_cons_succ, Int.reduceToNat, ↓reduceIte, Nat.reduceEqDiff, Nat.reduceDiv, Nat.reduceAdd, Nat.reduceLeDiff, Nat.zero_le, true_and, and_true, true_or, or_true, mm_b0, mm_b1, mm_lc_lt, mm_lc_le, mm_lc_gt, mm_lc_ge, mm_lc_eq, Int.not_lt, Int.not_le, Decidable.not_not, Int.sub_neg, c_0, c_1, c_2, l_2, c_3, c_4, l_4, c_5, l_5, c_6, l_6, c_7, l_7, c_8, c_9, l_9, c_10, l_10, c_11, l_11, c_12, l_12, c_13, c_14, l_14, c_15, l_15, c_16, l_16, c_17, l_17, c_18, c_19, l_19, c_20, l_20, c_21, l_21, c_22, l_22, c_23, c_24, l_24, c_25, l_25, c_26, c_27, c_28, l_28, c_29, c_30, l_30, c_31, c_32, l_32, c_33, l_33, c_34, l_34, c_35, l_35, c_36, l_36, c_37, l_37, c_38, l_38, c_39, l_39, c_40, c_41, l_41, c_42, c_43, c_44, l_44, c_45, c_46, l_46, c_47, c_48, l_48, c_49, l_49, c_50, l_50, c_51, l_51, c_52, l_52, c_53, l_53, c_54, l_54, c_55, l_55, c_56, l_56, c_57, l_57, c_58, l_58, c_59, l_59, c_60, l_60, c_61, l_61, c_62, c_63, l_63, c_64, l_64, c_65, l_65, c_66, l_66, c_67, l_67, c_68, l_68, c_69, l_69, c_70, l_70, c_71, l_71, c_72, l_72, c_73, l_73, c_74, l_74, c_75, l_75, c_76, l_76, t_Rd_refuse]
      exact ⟨hd, by omega, by omega, h49 _ _ (Or.inl rfl) h⟩
    refine hJ 28 _ _ _ (show mm_wp _ _ _ mo_Rd_readLine_28 _ _ _ from ?_)
    simp only [mo_Rd_readLine_28, mm_wp, mm_ldi, mm_lda, mm_ldl, mm_sti, mm_sta, mm_stl, mm_inc, mm_2i, mm_mm, mm_2l, mm_lcmp, mm_i2l, mm_l2i, mm_cast8, mm_if1, mm_if2, mm_cmp, mm_swi, mm_sw, mm_pop1, mm_dup, mm_dup2, mm_geti, mm_geta, mm_puti, mm_iald, mm_bald, mm_aald, mm_iast, mm_bast, mm_alen, mm_acpy, mm_call, mm_callv, mm_recv, mm_pop, mm_find, mm_push, mm_cats, mm_cat, mm_reti, mm_retz, mm_retl, mm_reta, mm_retv, mm_set1, mm_set2, mm_kill, List.getElem?_cons_zero, List.getElem?_cons_succ, Int.reduceToNat, ↓reduceIte, Nat.reduceEqDiff, Nat.reduceDiv, Nat.reduceAdd, Nat.reduceLeDiff, Nat.zero_le, true_and, and_true, true_or, or_true, mm_b0, mm_b1, mm_lc_lt, mm_lc_le, mm_lc_gt, mm_lc_ge, mm_lc_eq, Int.not_lt, Int.not_le, Decidable.not_not, Int.sub_neg, c_0, c_1, c_2, l_2, c_3, c_4, l_4, c_5, l_5, c_6, l_6, c_7, l_7, c_8, c_9, l_9, c_10, l_10, c_11, l_11, c_12, l_12, c_13, c_14, l_14, c_15, l_15, c_16, l_16, c_17, l_17, c_18, c_19, l_19, c_20, l_20, c_21, l_21, c_22, l_22, c_23, c_24, l_24, c_25, l_25, c_26, c_27, c_28, l_28, c_29, c_30, l_30, c_31, c_32, l_32, c_33, l_33, c_34, l_34, c_35, l_35, c_36, l_36, c_37, l_37, c_38, l_38, c_39, l_39, c_40, c_41, l_41, c_42, c_43, c_44, l_44, c_45, c_46, l_46, c_47, c_48, l_48, c_49, l_49, c_50, l_50, c_51, l_51, c_52, l_52, c_53, l_53, c_54, l_54, c_55, l_55, c_56, l_56, c_57, l_57, c_58, l_58, c_59, l_59, c_60, l_60, c_61, l_61, c_62, c_63, l_63, c_64, l_64, c_65, l_65, c_66, l_66, c_67, l_67, c_68, l_68, c_69, l_69, c_70, l_70, c_71, l_71, c_72, l_72, c_73, l_73, c_74, l_74, c_75, l_75, c_76, l_76, t_Rd_isWord, t_Rd_readAsk, Nat.reduceSub]
    refine ⟨hd, fun z => h44 z, fun z => ⟨hd, hs, h49 _ _ f3.2.2 ?_⟩⟩
    rw [if_pos z] at h
    exact h
  have h14 : ¬ wdB M 0 = true → J 14 [some (vr 1)] [] M := by
    intro c0
    rw [if_neg c0] at h
    refine hJ 14 _ _ _ (show mm_wp _ _ _ mo_Rd_readLine_14 _ _ _ from ?_)
    simp only [mo_Rd_readLine_14, mm_wp, mm_ldi, mm_lda, mm_ldl, mm_sti, mm_sta, mm_stl, mm_inc, mm_2i, mm_mm, mm_2l, mm_lcmp, mm_i2l, mm_l2i, mm_cast8, mm_if1, mm_if2, mm_cmp, mm_swi, mm_sw, mm_pop1, mm_dup, mm_dup2, mm_geti, mm_geta, mm_puti, mm_iald, mm_bald, mm_aald, mm_iast, mm_bast, mm_alen, mm_acpy, mm_call, mm_callv, mm_recv, mm_pop, mm_find, mm_push, mm_cats, mm_cat, mm_reti, mm_retz, mm_retl, mm_reta, mm_retv, mm_set1, mm_set2, mm_kill, List.getElem?_cons_zero, List.getElem?_cons_succ, Int.reduceToNat, ↓reduceIte, Nat.reduceEqDiff, Nat.reduceDiv, Nat.reduceAdd, Nat.reduceLeDiff, Nat.zero_le, true_and, and_true, true_or, or_true, mm_b0, mm_b1, mm_lc_lt, mm_lc_le, mm_lc_gt, mm_lc_ge, mm_lc_eq, Int.not_lt, Int.not_le, Decidable.not_not, Int.sub_neg, c_0, c_1, c_2, l_2, c_3, c_4, l_4, c_5, l_5, c_6, l_6, c_7, l_7, c_8, c_9, l_9, c_10, l_10, c_11, l_11, c_12, l_12, c_13, c_14, l_14, c_15, l_15, c_16, l_16, c_17, l_17, c_18, c_19, l_19, c_20, l_20, c_21, l_21, c_22, l_22, c_23, c_24, l_24, c_25, l_25, c_26, c_27, c_28, l_28, c_29, c_30, l_30, c_31, c_32, l_32, c_33, l_33, c_34, l_34, c_35, l_35, c_36, l_36, c_37, l_37, c_38, l_38, c_39, l_39, c_40, c_41, l_41, c_42, c_43, c_44, l_44, c_45, c_46, l_46, c_47, c_48, l_48, c_49, l_49, c_50, l_50, c_51, l_51, c_52, l_52, c_53, l_53, c_54, l_54, c_55, l_55, c_56, l_56, c_57, l_57, c_58, l_58, c_59, l_59, c_60, l_60, c_61, l_61, c_62, c_63, l_63, c_64, l_64, c_65, l_65, c_66, l_66, c_67, l_67, c_68, l_68, c_69, l_69, c_70, l_70, c_71, l_71, c_72, l_72, c_73, l_73, c_74, l_74, c_75, l_75, c_76, l_76, t_Rd_isWord, t_Rd_readSet, Nat.reduceSub]
    refine ⟨hd, fun z => h28 c0 z, fun z => ⟨hd, hs, f2.2.2, ?_⟩⟩
    rw [if_pos z] at h
    exact h
  refine hJ 0 _ _ _ (show mm_wp _ _ _ mo_Rd_readLine_0 _ _ _ from ?_)
  simp only [mo_Rd_readLine_0, mm_wp, mm_ldi, mm_lda, mm_ldl, mm_sti, mm_sta, mm_stl, mm_inc, mm_2i, mm_mm, mm_2l, mm_lcmp, mm_i2l, mm_l2i, mm_cast8, mm_if1, mm_if2, mm_cmp, mm_swi, mm_sw, mm_pop1, mm_dup, mm_dup2, mm_geti, mm_geta, mm_puti, mm_iald, mm_bald, mm_aald, mm_iast, mm_bast, mm_alen, mm_acpy, mm_call, mm_callv, mm_recv, mm_pop, mm_find, mm_push, mm_cats, mm_cat, mm_reti, mm_retz, mm_retl, mm_reta, mm_retv, mm_set1, mm_set2, mm_kill, List.getElem?_cons_zero, List.getElem?_cons_succ, Int.reduceToNat, ↓reduceIte, Nat.reduceEqDiff, Nat.reduceDiv, Nat.reduceAdd, Nat.reduceLeDiff, Nat.zero_le, true_and, and_true, true_or, or_true, mm_b0, mm_b1, mm_lc_lt, mm_lc_le, mm_lc_gt, mm_lc_ge, mm_lc_eq, Int.not_lt, Int.not_le, Decidable.not_not, Int.sub_neg, c_0, c_1, c_2, l_2, c_3, c_4, l_4, c_5, l_5, c_6, l_6, c_7, l_7, c_8, c_9, l_9, c_10, l_10, c_11, l_11, c_12, l_12, c_13, c_14, l_14, c_15, l_15, c_16, l_16, c_17, l_17, c_18, c_19, l_19, c_20, l_20, c_21, l_21, c_22, l_22, c_23, c_24, l_24, c_25, l_25, c_26, c_27, c_28, l_28, c_29, c_30, l_30, c_31, c_32, l_32, c_33, l_33, c_34, l_34, c_35, l_35, c_36, l_36, c_37, l_37, c_38, l_38, c_39, l_39, c_40, c_41, l_41, c_42, c_43, c_44, l_44, c_45, c_46, l_46, c_47, c_48, l_48, c_49, l_49, c_50, l_50, c_51, l_51, c_52, l_52, c_53, l_53, c_54, l_54, c_55, l_55, c_56, l_56, c_57, l_57, c_58, l_58, c_59, l_59, c_60, l_60, c_61, l_61, c_62, c_63, l_63, c_64, l_64, c_65, l_65, c_66, l_66, c_67, l_67, c_68, l_68, c_69, l_69, c_70, l_70, c_71, l_71, c_72, l_72, c_73, l_73, c_74, l_74, c_75, l_75, c_76, l_76, t_Rd_isWord, t_Rd_readRow, Nat.reduceSub]
  refine ⟨hd, fun z => h14 z, fun z => ⟨hd, hs, f1.2.2, ?_⟩⟩
  rw [if_pos z] at h
  exact h
noncomputable def rdF : Nat → Int → mmM → Int × mmM
  | 0, _, M => (M 1 9, M)
  | k + 1, L, M => if (lineF M).1 = 0 then ((lineF M).2 1 9, (lineF M).2) else if (lineF M).2 1 5 = 0 then (L, (lineF M).2) else if (lineF M).2 1 5 = 3 then rdF k (L + 1) (nxM (lineF M).2) else (rfM (lineF M).2 1 1 9, rfM (lineF M).2 1)
def rdZ (M : mmM) (n : Int) : mmM := mm_up (mm_up (mm_up (mm_up (mm_up M 3 4 0) 3 5 0) 8 4 0) 1 4 n) 1 7 0
theorem rdZ_i {M : mmM} {n : Int} (h0 : 0 ≤ n) (h6 : n ≤ 600) : rdI (rdZ M n) := by
  unfold rdI rdZ
  rw [mm_up_s, mm_up_i _ (by decide), mm_up_s]
  omega
theorem rdZ_S {M : mmM} {n : Int} : rdS (rdZ M n) := by
  unfold rdS rdZ
  rw [mm_up_o _ _ (by decide), mm_up_o _ _ (by decide), mm_up_o _ _ (by decide), mm_up_s, mm_up_i _ (by decide), mm_up_s, mm_up_o _ _ (by decide), mm_up_o _ _ (by decide), mm_up_s]
  decide
def t_Rd_read : mmT := fun as M Q => match as with
  | [.inr (.inr o), .inl n] => o = 1 ∧ 0 ≤ n ∧ n ≤ M 1 3 ∧ M 1 3 ≤ 600 ∧ Q (some (vi (rdF 600 1 (nxM (rdZ M n))).1)) (rdF 600 1 (nxM (rdZ M n))).2
  | _ => False
set_option maxHeartbeats 4000000 in
set_option maxRecDepth 100000 in
theorem p_Rd_read : ∀ as M Q, (∀ v ∈ as, mm_vin v) → mm_mem M → t_Rd_read as M Q → (mm_ent as).length ≤ 3 ∧ mm_ok mb_Rd_read [(401, t_Row_clear), (314, t_Rd_next), (303, t_Rd_readLine), (311, t_Rd_pass)] (mm_entry 3 as) M Q := by
  intro as M Q hin hM h
  unfold t_Rd_read at h
  split at h
  rotate_left
  · exact h.elim
  rename_i o n
  have hR_n : mm_R n := hin (vi n) (by simp)
  refine ⟨by simp [mm_ent], (show mm_ok mb_Rd_read [(401, t_Row_clear), (314, t_Rd_next), (303, t_Rd_readLine), (311, t_Rd_pass)] [some (vr o), some (vi n), none] M Q from ?_)⟩
  intro J hJ
  obtain ⟨rfl, n0, n1, n6, h⟩ := h
  have hl : ∀ (k : Nat) (M1 : mmM), k ≤ 600 → rdM M1 → rdS M1 → Q (some (vi (rdF k (601 - k) M1).1)) (rdF k (601 - k) M1).2 → J 38 [some (vr 1), some (vi n), some (vi (601 - k))] [] M1 := by
    intro k
    induction k with
    | zero =>
      intro M1 k6 hd hs hq
      have h85 : J 85 [some (vr 1), some (vi n), some (vi (601 - (0 : Nat)))] [] M1 := by
        refine hJ 85 _ _ _ (show mm_wp _ _ _ mo_Rd_read_85 _ _ _ from ?_)
        simp only [mo_Rd_read_85, mm_wp, mm_ldi, mm_lda, mm_ldl, mm_sti, mm_sta, mm_stl, mm_inc, mm_2i, mm_mm, mm_2l, mm_lcmp, mm_i2l, mm_l2i, mm_cast8, mm_if1, mm_if2, mm_cmp, mm_swi, mm_sw, mm_pop1, mm_dup, mm_dup2, mm_geti, mm_geta, mm_puti, mm_iald, mm_bald, mm_aald, mm_iast, mm_bast, mm_alen, mm_acpy, mm_call, mm_callv, mm_recv, mm_pop, mm_find, mm_push, mm_cats, mm_cat, mm_reti, mm_retz, mm_retl, mm_reta, mm_retv, mm_set1, mm_set2, mm_kill, List.getElem?_cons_zero, List.getElem?_cons_succ, Int.reduceToNat, ↓reduceIte, Nat.reduceEqDiff, Nat.reduceDiv, Nat.reduceAdd, Nat.reduceLeDiff, Nat.zero_le, true_and, and_true, true_or, or_true, mm_b0, mm_b1, mm_lc_lt, mm_lc_le, mm_lc_gt, mm_lc_ge, mm_lc_eq, Int.not_lt, Int.not_le, Decidable.not_not, Int.sub_neg, c_0, c_1, c_2, l_2, c_3, c_4, l_4, c_5, l_5, c_6, l_6, c_7, l_7, c_8, c_9, l_9, c_10, l_10, c_11, l_11, c_12, l_12, c_13, c_14, l_14, c_15, l_15, c_16, l_16, c_17, l_17, c_18, c_19, l_19, c_20, l_20, c_21, l_21, c_22, l_22, c_23, c_24, l_24, c_25, l_25, c_26, c_27, c_28, l_28, c_29, c_30, l_30, c_31, c_32, l_32, c_33, l_33, c_34, l_34, c_35, l_35, c_36, l_36, c_37, l_37, c_38, l_38, c_39, l_39, c_40, c_41, l_41, c_42, c_43, c_44, l_44, c_45, c_46, l_46, c_47, c_48, l_48, c_49, l_49, c_50, l_50, c_51, l_51, c_52, l_52, c_53, l_53, c_54, l_54, c_55, l_55, c_56, l_56, c_57, l_57, c_58, l_58, c_59, l_59, c_60, l_60, c_61, l_61, c_62, c_63, l_63, c_64, l_64, c_65, l_65, c_66, l_66, c_67, l_67, c_68, l_68, c_69, l_69, c_70, l_70, c_71, l_71, c_72, l_72, c_73, l_73, c_74, l_74, c_75, l_75, c_76, l_76]
        exact hq
      refine hJ 38 _ _ _ (show mm_wp _ _ _ mo_Rd_read_38 _ _ _ from ?_)
      simp only [mo_Rd_read_38, mm_wp, mm_ldi, mm_lda, mm_ldl, mm_sti, mm_sta, mm_stl, mm_inc, mm_2i, mm_mm, mm_2l, mm_lcmp, mm_i2l, mm_l2i, mm_cast8, mm_if1, mm_if2, mm_cmp, mm_swi, mm_sw, mm_pop1, mm_dup, mm_dup2, mm_geti, mm_geta, mm_puti, mm_iald, mm_bald, mm_aald, mm_iast, mm_bast, mm_alen, mm_acpy, mm_call, mm_callv, mm_recv, mm_pop, mm_find, mm_push, mm_cats, mm_cat, mm_reti, mm_retz, mm_retl, mm_reta, mm_retv, mm_set1, mm_set2, mm_kill, List.getElem?_cons_zero, List.getElem?_cons_succ, Int.reduceToNat, ↓reduceIte, Nat.reduceEqDiff, Nat.reduceDiv, Nat.reduceAdd, Nat.reduceLeDiff, Nat.zero_le, true_and, and_true, true_or, or_true, mm_b0, mm_b1, mm_lc_lt, mm_lc_le, mm_lc_gt, mm_lc_ge, mm_lc_eq, Int.not_lt, Int.not_le, Decidable.not_not, Int.sub_neg]
      exact ⟨fun _ => h85, fun z => by first | omega | simp at z⟩
    | succ k ih =>
      intro M1 k6 hd hs hq
      have hf := lineF_f hd hs
      simp only [rdF] at hq
      have h57 : ¬ (lineF M1).1 = 0 → J 57 [some (vr 1), some (vi n), some (vi (601 - ((k + 1 : Nat) : Int)))] [] (lineF M1).2 := by
        intro c1
        rw [if_neg c1] at hq
        have h66 : ¬ (lineF M1).2 1 5 = 0 → J 66 [some (vr 1), some (vi n), some (vi (601 - ((k + 1 : Nat) : Int)))] [] (lineF M1).2 := by
          intro c2
          rw [if_neg c2] at hq
          have h79 : (lineF M1).2 1 5 = 3 → J 79 [some (vr 1), some (vi n), some (vi (601 - ((k + 1 : Nat) : Int)))] [] (nxM (lineF M1).2) := by
            intro c3
            rw [if_pos c3] at hq
            refine hJ 79 _ _ _ (show mm_wp _ _ _ mo_Rd_read_79 _ _ _ from ?_)
            simp only [mo_Rd_read_79, mm_wp, mm_ldi, mm_lda, mm_ldl, mm_sti, mm_sta, mm_stl, mm_inc, mm_2i, mm_mm, mm_2l, mm_lcmp, mm_i2l, mm_l2i, mm_cast8, mm_if1, mm_if2, mm_cmp, mm_swi, mm_sw, mm_pop1, mm_dup, mm_dup2, mm_geti, mm_geta, mm_puti, mm_iald, mm_bald, mm_aald, mm_iast, mm_bast, mm_alen, mm_acpy, mm_call, mm_callv, mm_recv, mm_pop, mm_find, mm_push, mm_cats, mm_cat, mm_reti, mm_retz, mm_retl, mm_reta, mm_retv, mm_set1, mm_set2, mm_kill, List.getElem?_cons_zero, List.getElem?_cons_succ, Int.reduceToNat, ↓reduceIte, Nat.reduceEqDiff, Nat.reduceDiv, Nat.reduceAdd, Nat.reduceLeDiff, Nat.zero_le, true_and, and_true, true_or, or_true, mm_b0, mm_b1, mm_lc_lt, mm_lc_le, mm_lc_gt, mm_lc_ge, mm_lc_eq, Int.not_lt, Int.not_le, Decidable.not_not, Int.sub_neg]
            rw [show (601 : Int) - ((k + 1 : Nat) : Int) + 1 = 601 - k by omega] at hq ⊢
            exact ⟨by omega, ih _ (by omega) (nx_rd hf.1.1) (rdS_nx hf.2.1) hq⟩
          refine hJ 66 _ _ _ (show mm_wp _ _ _ mo_Rd_read_66 _ _ _ from ?_)
          simp only [mo_Rd_read_66, mm_wp, mm_ldi, mm_lda, mm_ldl, mm_sti, mm_sta, mm_stl, mm_inc, mm_2i, mm_mm, mm_2l, mm_lcmp, mm_i2l, mm_l2i, mm_cast8, mm_if1, mm_if2, mm_cmp, mm_swi, mm_sw, mm_pop1, mm_dup, mm_dup2, mm_geti, mm_geta, mm_puti, mm_iald, mm_bald, mm_aald, mm_iast, mm_bast, mm_alen, mm_acpy, mm_call, mm_callv, mm_recv, mm_pop, mm_find, mm_push, mm_cats, mm_cat, mm_reti, mm_retz, mm_retl, mm_reta, mm_retv, mm_set1, mm_set2, mm_kill, List.getElem?_cons_zero, List.getElem?_cons_succ, Int.reduceToNat, ↓reduceIte, Nat.reduceEqDiff, Nat.reduceDiv, Nat.reduceAdd, Nat.reduceLeDiff, Nat.zero_le, true_and, and_true, true_or, or_true, mm_b0, mm_b1, mm_lc_lt, mm_lc_le, mm_lc_gt, mm_lc_ge, mm_lc_eq, Int.not_lt, Int.not_le, Decidable.not_not, Int.sub_neg, c_0, c_1, c_2, l_2, c_3, c_4, l_4, c_5, l_5, c_6, l_6, c_7, l_7, c_8, c_9, l_9, c_10, l_10, c_11, l_11, c_12, l_12, c_13, c_14, l_14, c_15, l_15, c_16, l_16, c_17, l_17, c_18, c_19, l_19, c_20, l_20, c_21, l_21, c_22, l_22, c_23, c_24, l_24, c_25, l_25, c_26, c_27, c_28, l_28, c_29, c_30, l_30, c_31, c_32, l_32, c_33, l_33, c_34, l_34, c_35, l_35, c_36, l_36, c_37, l_37, c_38, l_38, c_39, l_39, c_40, c_41, l_41, c_42, c_43, c_44, l_44, c_45, c_46, l_46, c_47, c_48, l_48, c_49, l_49, c_50, l_50, c_51, l_51, c_52, l_52, c_53, l_53, c_54, l_54, c_55, l_55, c_56, l_56, c_57, l_57, c_58, l_58, c_59, l_59, c_60, l_60, c_61, l_61, c_62, c_63, l_63, c_64, l_64, c_65, l_65, c_66, l_66, c_67, l_67, c_68, l_68, c_69, l_69, c_70, l_70, c_71, l_71, c_72, l_72, c_73, l_73, c_74, l_74, c_75, l_75, c_76, l_76, t_Rd_pass]
          refine ⟨hf.1, fun c3 => ⟨fun _ => h79 c3, fun z => by first | omega | simp at z⟩, fun c3 => ⟨fun z => by first | omega | simp at z, fun _ => ?_⟩⟩
          rw [if_neg c3] at hq
          exact hq
        refine hJ 57 _ _ _ (show mm_wp _ _ _ mo_Rd_read_57 _ _ _ from ?_)
        simp only [mo_Rd_read_57, mm_wp, mm_ldi, mm_lda, mm_ldl, mm_sti, mm_sta, mm_stl, mm_inc, mm_2i, mm_mm, mm_2l, mm_lcmp, mm_i2l, mm_l2i, mm_cast8, mm_if1, mm_if2, mm_cmp, mm_swi, mm_sw, mm_pop1, mm_dup, mm_dup2, mm_geti, mm_geta, mm_puti, mm_iald, mm_bald, mm_aald, mm_iast, mm_bast, mm_alen, mm_acpy, mm_call, mm_callv, mm_recv, mm_pop, mm_find, mm_push, mm_cats, mm_cat, mm_reti, mm_retz, mm_retl, mm_reta, mm_retv, mm_set1, mm_set2, mm_kill, List.getElem?_cons_zero, List.getElem?_cons_succ, Int.reduceToNat, ↓reduceIte, Nat.reduceEqDiff, Nat.reduceDiv, Nat.reduceAdd, Nat.reduceLeDiff, Nat.zero_le, true_and, and_true, true_or, or_true, mm_b0, mm_b1, mm_lc_lt, mm_lc_le, mm_lc_gt, mm_lc_ge, mm_lc_eq, Int.not_lt, Int.not_le, Decidable.not_not, Int.sub_neg, c_0, c_1, c_2, l_2, c_3, c_4, l_4, c_5, l_5, c_6, l_6, c_7, l_7, c_8, c_9, l_9, c_10, l_10, c_11, l_11, c_12, l_12, c_13, c_14, l_14, c_15, l_15, c_16, l_16, c_17, l_17, c_18, c_19, l_19, c_20, l_20, c_21, l_21, c_22, l_22, c_23, c_24, l_24, c_25, l_25, c_26, c_27, c_28, l_28, c_29, c_30, l_30, c_31, c_32, l_32, c_33, l_33, c_34, l_34, c_35, l_35, c_36, l_36, c_37, l_37, c_38, l_38, c_39, l_39, c_40, c_41, l_41, c_42, c_43, c_44, l_44, c_45, c_46, l_46, c_47, c_48, l_48, c_49, l_49, c_50, l_50, c_51, l_51, c_52, l_52, c_53, l_53, c_54, l_54, c_55, l_55, c_56, l_56, c_57, l_57, c_58, l_58, c_59, l_59, c_60, l_60, c_61, l_61, c_62, c_63, l_63, c_64, l_64, c_65, l_65, c_66, l_66, c_67, l_67, c_68, l_68, c_69, l_69, c_70, l_70, c_71, l_71, c_72, l_72, c_73, l_73, c_74, l_74, c_75, l_75, c_76, l_76]
        refine ⟨fun z => h66 z, fun z => ?_⟩
        rw [if_pos z] at hq
        exact hq
      refine hJ 38 _ _ _ (show mm_wp _ _ _ mo_Rd_read_38 _ _ _ from ?_)
      simp only [mo_Rd_read_38, mm_wp, mm_ldi, mm_lda, mm_ldl, mm_sti, mm_sta, mm_stl, mm_inc, mm_2i, mm_mm, mm_2l, mm_lcmp, mm_i2l, mm_l2i, mm_cast8, mm_if1, mm_if2, mm_cmp, mm_swi, mm_sw, mm_pop1, mm_dup, mm_dup2, mm_geti, mm_geta, mm_puti, mm_iald, mm_bald, mm_aald, mm_iast, mm_bast, mm_alen, mm_acpy, mm_call, mm_callv, mm_recv, mm_pop, mm_find, mm_push, mm_cats, mm_cat, mm_reti, mm_retz, mm_retl, mm_reta, mm_retv, mm_set1, mm_set2, mm_kill, List.getElem?_cons_zero, List.getElem?_cons_succ, Int.reduceToNat, ↓reduceIte, Nat.reduceEqDiff, Nat.reduceDiv, Nat.reduceAdd, Nat.reduceLeDiff, Nat.zero_le, true_and, and_true, true_or, or_true, mm_b0, mm_b1, mm_lc_lt, mm_lc_le, mm_lc_gt, mm_lc_ge, mm_lc_eq, Int.not_lt, Int.not_le, Decidable.not_not, Int.sub_neg, c_0, c_1, c_2, l_2, c_3, c_4, l_4, c_5, l_5, c_6, l_6, c_7, l_7, c_8, c_9, l_9, c_10, l_10, c_11, l_11, c_12, l_12, c_13, c_14, l_14, c_15, l_15, c_16, l_16, c_17, l_17, c_18, c_19, l_19, c_20, l_20, c_21, l_21, c_22, l_22, c_23, c_24, l_24, c_25, l_25, c_26, c_27, c_28, l_28, c_29, c_30, l_30, c_31, c_32, l_32, c_33, l_33, c_34, l_34, c_35, l_35, c_36, l_36, c_37, l_37, c_38, l_38, c_39, l_39, c_40, c_41, l_41, c_42, c_43, c_44, l_44, c_45, c_46, l_46, c_47, c_48, l_48, c_49, l_49, c_50, l_50, c_51, l_51, c_52, l_52, c_53, l_53, c_54, l_54, c_55, l_55, c_56, l_56, c_57, l_57, c_58, l_58, c_59, l_59, c_60, l_60, c_61, l_61, c_62, c_63, l_63, c_64, l_64, c_65, l_65, c_66, l_66, c_67, l_67, c_68, l_68, c_69, l_69, c_70, l_70, c_71, l_71, c_72, l_72, c_73, l_73, c_74, l_74, c_75, l_75, c_76, l_76, t_Rd_readLine]
      refine ⟨fun z => by first | omega | simp at z, fun _ => ⟨hd, hs, fun z => h57 z, fun z => ?_⟩⟩
      rw [if_pos z] at hq
      exact hq
  have e1 : ∀ (M1 : mmM) (v w : Int), mm_up (mm_up (mm_up M1 3 4 v) 3 5 w) 8 4 0 1 3 = M1 1 3 := fun M1 v w => by rw [mm_up_o _ _ (by decide), mm_up_o _ _ (by decide), mm_up_o _ _ (by decide)]
  refine hJ 0 _ _ _ (show mm_wp _ _ _ mo_Rd_read_0 _ _ _ from ?_)
  simp only [mo_Rd_read_0, mm_wp, mm_ldi, mm_lda, mm_ldl, mm_sti, mm_sta, mm_stl, mm_inc, mm_2i, mm_mm, mm_2l, mm_lcmp, mm_i2l, mm_l2i, mm_cast8, mm_if1, mm_if2, mm_cmp, mm_swi, mm_sw, mm_pop1, mm_dup, mm_dup2, mm_geti, mm_geta, mm_puti, mm_iald, mm_bald, mm_aald, mm_iast, mm_bast, mm_alen, mm_acpy, mm_call, mm_callv, mm_recv, mm_pop, mm_find, mm_push, mm_cats, mm_cat, mm_reti, mm_retz, mm_retl, mm_reta, mm_retv, mm_set1, mm_set2, mm_kill, List.getElem?_cons_zero, List.getElem?_cons_succ, Int.reduceToNat, ↓reduceIte, Nat.reduceEqDiff, Nat.reduceDiv, Nat.reduceAdd, Nat.reduceLeDiff, Nat.zero_le, true_and, and_true, true_or, or_true, mm_b0, mm_b1, mm_lc_lt, mm_lc_le, mm_lc_gt, mm_lc_ge, mm_lc_eq, Int.not_lt, Int.not_le, Decidable.not_not, Int.sub_neg, c_0, c_1, c_2, l_2, c_3, c_4, l_4, c_5, l_5, c_6, l_6, c_7, l_7, c_8, c_9, l_9, c_10, l_10, c_11, l_11, c_12, l_12, c_13, c_14, l_14, c_15, l_15, c_16, l_16, c_17, l_17, c_18, c_19, l_19, c_20, l_20, c_21, l_21, c_22, l_22, c_23, c_24, l_24, c_25, l_25, c_26, c_27, c_28, l_28, c_29, c_30, l_30, c_31, c_32, l_32, c_33, l_33, c_34, l_34, c_35, l_35, c_36, l_36, c_37, l_37, c_38, l_38, c_39, l_39, c_40, c_41, l_41, c_42, c_43, c_44, l_44, c_45, c_46, l_46, c_47, c_48, l_48, c_49, l_49, c_50, l_50, c_51, l_51, c_52, l_52, c_53, l_53, c_54, l_54, c_55, l_55, c_56, l_56, c_57, l_57, c_58, l_58, c_59, l_59, c_60, l_60, c_61, l_61, c_62, c_63, l_63, c_64, l_64, c_65, l_65, c_66, l_66, c_67, l_67, c_68, l_68, c_69, l_69, c_70, l_70, c_71, l_71, c_72, l_72, c_73, l_73, c_74, l_74, c_75, l_75, c_76, l_76, t_Row_clear, t_Rd_next, e1]
  rw [show min n (M 1 3) = n by omega]
  have hi : rdI (rdZ M n) := rdZ_i n0 (by omega)
  exact ⟨hi, hl 600 _ (by omega) (nx_rd hi) (rdS_nx rdZ_S) h⟩
/-- memory with the number v's bytes, its greatest first -/
def ptM (M : mmM) (v : Int) : Nat → mmM
  | 0 => M
  | k + 1 => mm_up (mm_up (ptM M v k) 2 (M 1 3 + k) (mm_i2b (mm_i2b (mm_shr v (24 - 8 * k))))) 1 3 (M 1 3 + k + 1)
def t_Rd_put : mmT := fun as M Q => match as with
  | [.inr (.inr o), .inl v] => o = 1 ∧ 0 ≤ M 1 3 ∧ M 1 3 + 4 ≤ 600 ∧ Q none (ptM M v 4)
  | _ => False
set_option maxHeartbeats 4000000 in
set_option maxRecDepth 100000 in
theorem p_Rd_put : ∀ as M Q, (∀ v ∈ as, mm_vin v) → mm_mem M → t_Rd_put as M Q → (mm_ent as).length ≤ 3 ∧ mm_ok mb_Rd_put [] (mm_entry 3 as) M Q := by
  intro as M Q hin hM h
  unfold t_Rd_put at h
  split at h
  rotate_left
  · exact h.elim
  rename_i o v
  have hR_v : mm_R v := hin (vi v) (by simp)
  refine ⟨by simp [mm_ent], (show mm_ok mb_Rd_put [] [some (vr o), some (vi v), none] M Q from ?_)⟩
  intro J hJ
  obtain ⟨rfl, h0, h1, h⟩ := h
  have hz : ∀ k : Nat, ptM M v k 1 3 = M 1 3 + k := by
    intro k
    cases k with
    | zero => simp [ptM]
    | succ k => simp only [ptM]; rw [mm_up_s]; omega
  have step : ∀ k : Nat, k ≤ 4 → ∀ M1 : mmM, M1 = ptM M v (4 - k) → J 3 [some (vr 1), some (vi v), some (vi (8 * k - 8))] [] M1 := by
    intro k
    induction k with
    | zero =>
      intro _ M1 e
      have h46 : J 46 [some (vr 1), some (vi v), some (vi (8 * (0 : Nat) - 8))] [] M1 := by
        refine hJ 46 _ _ _ (show mm_wp _ _ _ mo_Rd_put_46 _ _ _ from ?_)
        simp only [mo_Rd_put_46, mm_wp, mm_ldi, mm_lda, mm_ldl, mm_sti, mm_sta, mm_stl, mm_inc, mm_2i, mm_mm, mm_2l, mm_lcmp, mm_i2l, mm_l2i, mm_cast8, mm_if1, mm_if2, mm_cmp, mm_swi, mm_sw, mm_pop1, mm_dup, mm_dup2, mm_geti, mm_geta, mm_puti, mm_iald, mm_bald, mm_aald, mm_iast, mm_bast, mm_alen, mm_acpy, mm_call, mm_callv, mm_recv, mm_pop, mm_find, mm_push, mm_cats, mm_cat, mm_reti, mm_retz, mm_retl, mm_reta, mm_retv, mm_set1, mm_set2, mm_kill, List.getElem?_cons_zero, List.getElem?_cons_succ, Int.reduceToNat, ↓reduceIte, Nat.reduceEqDiff, Nat.reduceDiv, Nat.reduceAdd, Nat.reduceLeDiff, Nat.zero_le, true_and, and_true, true_or, or_true, mm_b0, mm_b1, mm_lc_lt, mm_lc_le, mm_lc_gt, mm_lc_ge, mm_lc_eq, Int.not_lt, Int.not_le, Decidable.not_not, Int.sub_neg]
        rw [e]
        exact h
      refine hJ 3 _ _ _ (show mm_wp _ _ _ mo_Rd_put_3 _ _ _ from ?_)
      simp only [mo_Rd_put_3, mm_wp, mm_ldi, mm_lda, mm_ldl, mm_sti, mm_sta, mm_stl, mm_inc, mm_2i, mm_mm, mm_2l, mm_lcmp, mm_i2l, mm_l2i, mm_cast8, mm_if1, mm_if2, mm_cmp, mm_swi, mm_sw, mm_pop1, mm_dup, mm_dup2, mm_geti, mm_geta, mm_puti, mm_iald, mm_bald, mm_aald, mm_iast, mm_bast, mm_alen, mm_acpy, mm_call, mm_callv, mm_recv, mm_pop, mm_find, mm_push, mm_cats, mm_cat, mm_reti, mm_retz, mm_retl, mm_reta, mm_retv, mm_set1, mm_set2, mm_kill, List.getElem?_cons_zero, List.getElem?_cons_succ, Int.reduceToNat, ↓reduceIte, Nat.reduceEqDiff, Nat.reduceDiv, Nat.reduceAdd, Nat.reduceLeDiff, Nat.zero_le, true_and, and_true, true_or, or_true, mm_b0, mm_b1, mm_lc_lt, mm_lc_le, mm_lc_gt, mm_lc_ge, mm_lc_eq, Int.not_lt, Int.not_le, Decidable.not_not, Int.sub_neg]
      exact ⟨fun _ => h46, fun z => by first | omega | simp at z⟩
    | succ k ih =>
      intro k4 M1 e
      have g3 : M1 1 3 = M 1 3 + (4 - (k + 1) : Nat) := by rw [e, hz]
      have g3u : ∀ i w, mm_up M1 2 i w 1 3 = M 1 3 + (4 - (k + 1) : Nat) := fun i w => by rw [mm_up_o _ _ (by decide), g3]
      have h40 : ∀ M2 : mmM, M2 = ptM M v (4 - k) → J 40 [some (vr 1), some (vi v), some (vi (8 * ((k + 1 : Nat) : Int) - 8))] [] M2 := by
        intro M2 e2
        refine hJ 40 _ _ _ (show mm_wp _ _ _ mo_Rd_put_40 _ _ _ from ?_)
        simp only [mo_Rd_put_40, mm_wp, mm_ldi, mm_lda, mm_ldl, mm_sti, mm_sta, mm_stl, mm_inc, mm_2i, mm_mm, mm_2l, mm_lcmp, mm_i2l, mm_l2i, mm_cast8, mm_if1, mm_if2, mm_cmp, mm_swi, mm_sw, mm_pop1, mm_dup, mm_dup2, mm_geti, mm_geta, mm_puti, mm_iald, mm_bald, mm_aald, mm_iast, mm_bast, mm_alen, mm_acpy, mm_call, mm_callv, mm_recv, mm_pop, mm_find, mm_push, mm_cats, mm_cat, mm_reti, mm_retz, mm_retl, mm_reta, mm_retv, mm_set1, mm_set2, mm_kill, List.getElem?_cons_zero, List.getElem?_cons_succ, Int.reduceToNat, ↓reduceIte, Nat.reduceEqDiff, Nat.reduceDiv, Nat.reduceAdd, Nat.reduceLeDiff, Nat.zero_le, true_and, and_true, true_or, or_true, mm_b0, mm_b1, mm_lc_lt, mm_lc_le, mm_lc_gt, mm_lc_ge, mm_lc_eq, Int.not_lt, Int.not_le, Decidable.not_not, Int.sub_neg]
        rw [show 8 * ((k + 1 : Nat) : Int) - 8 + -8 = 8 * k - 8 by omega]
        exact ⟨by omega, ih (by omega) M2 e2⟩
      refine hJ 3 _ _ _ (show mm_wp _ _ _ mo_Rd_put_3 _ _ _ from ?_)
      simp only [mo_Rd_put_3, mm_wp, mm_ldi, mm_lda, mm_ldl, mm_sti, mm_sta, mm_stl, mm_inc, mm_2i, mm_mm, mm_2l, mm_lcmp, mm_i2l, mm_l2i, mm_cast8, mm_if1, mm_if2, mm_cmp, mm_swi, mm_sw, mm_pop1, mm_dup, mm_dup2, mm_geti, mm_geta, mm_puti, mm_iald, mm_bald, mm_aald, mm_iast, mm_bast, mm_alen, mm_acpy, mm_call, mm_callv, mm_recv, mm_pop, mm_find, mm_push, mm_cats, mm_cat, mm_reti, mm_retz, mm_retl, mm_reta, mm_retv, mm_set1, mm_set2, mm_kill, List.getElem?_cons_zero, List.getElem?_cons_succ, Int.reduceToNat, ↓reduceIte, Nat.reduceEqDiff, Nat.reduceDiv, Nat.reduceAdd, Nat.reduceLeDiff, Nat.zero_le, true_and, and_true, true_or, or_true, mm_b0, mm_b1, mm_lc_lt, mm_lc_le, mm_lc_gt, mm_lc_ge, mm_lc_eq, Int.not_lt, Int.not_le, Decidable.not_not, Int.sub_neg, c_0, c_1, c_2, l_2, c_3, c_4, l_4, c_5, l_5, c_6, l_6, c_7, l_7, c_8, c_9, l_9, c_10, l_10, c_11, l_11, c_12, l_12, c_13, c_14, l_14, c_15, l_15, c_16, l_16, c_17, l_17, c_18, c_19, l_19, c_20, l_20, c_21, l_21, c_22, l_22, c_23, c_24, l_24, c_25, l_25, c_26, c_27, c_28, l_28, c_29, c_30, l_30, c_31, c_32, l_32, c_33, l_33, c_34, l_34, c_35, l_35, c_36, l_36, c_37, l_37, c_38, l_38, c_39, l_39, c_40, c_41, l_41, c_42, c_43, c_44, l_44, c_45, c_46, l_46, c_47, c_48, l_48, c_49, l_49, c_50, l_50, c_51, l_51, c_52, l_52, c_53, l_53, c_54, l_54, c_55, l_55, c_56, l_56, c_57, l_57, c_58, l_58, c_59, l_59, c_60, l_60, c_61, l_61, c_62, c_63, l_63, c_64, l_64, c_65, l_65, c_66, l_66, c_67, l_67, c_68, l_68, c_69, l_69, c_70, l_70, c_71, l_71, c_72, l_72, c_73, l_73, c_74, l_74, c_75, l_75, c_76, l_76, g3, g3u]
      refine ⟨fun z => by first | omega | simp at z, fun _ => ⟨fun z => by first | omega | simp at z, fun _ => ⟨by omega, by omega, h40 _ ?_⟩⟩⟩
      rw [show 4 - k = (4 - (k + 1)) + 1 by omega, e]
      simp only [ptM]
      rw [show (24 : Int) - 8 * ((4 - (k + 1) : Nat) : Int) = 8 * ((k + 1 : Nat) : Int) - 8 by omega]
  refine hJ 0 _ _ _ (show mm_wp _ _ _ mo_Rd_put_0 _ _ _ from ?_)
  simp only [mo_Rd_put_0, mm_wp, mm_ldi, mm_lda, mm_ldl, mm_sti, mm_sta, mm_stl, mm_inc, mm_2i, mm_mm, mm_2l, mm_lcmp, mm_i2l, mm_l2i, mm_cast8, mm_if1, mm_if2, mm_cmp, mm_swi, mm_sw, mm_pop1, mm_dup, mm_dup2, mm_geti, mm_geta, mm_puti, mm_iald, mm_bald, mm_aald, mm_iast, mm_bast, mm_alen, mm_acpy, mm_call, mm_callv, mm_recv, mm_pop, mm_find, mm_push, mm_cats, mm_cat, mm_reti, mm_retz, mm_retl, mm_reta, mm_retv, mm_set1, mm_set2, mm_kill, List.getElem?_cons_zero, List.getElem?_cons_succ, Int.reduceToNat, ↓reduceIte, Nat.reduceEqDiff, Nat.reduceDiv, Nat.reduceAdd, Nat.reduceLeDiff, Nat.zero_le, true_and, and_true, true_or, or_true, mm_b0, mm_b1, mm_lc_lt, mm_lc_le, mm_lc_gt, mm_lc_ge, mm_lc_eq, Int.not_lt, Int.not_le, Decidable.not_not, Int.sub_neg]
  exact step 4 (by omega) M rfl
def t_P_feed : mmT := fun as M Q => match as with
  | [.inr (.inr o), .inl a, .inl b, .inl c, .inl d, .inl e] => o = 0 ∧ 0 ≤ M 1 3 ∧ M 1 3 ≤ 600 ∧ (600 < M 1 3 + 20 → Q (some (vi (-1))) M) ∧ (M 1 3 + 20 ≤ 600 → Q (some (vi (M 1 3 + 20))) (ptM (ptM (ptM (ptM (ptM M a 4) b 4) c 4) d 4) e 4))
  | _ => False
theorem pt_3 (M : mmM) (v : Int) : ptM M v 4 1 3 = M 1 3 + 4 := by
  simp only [ptM]
  rw [mm_up_s]
  omega
set_option maxHeartbeats 4000000 in
set_option maxRecDepth 100000 in
theorem p_P_feed : ∀ as M Q, (∀ v ∈ as, mm_vin v) → mm_mem M → t_P_feed as M Q → (mm_ent as).length ≤ 6 ∧ mm_ok mb_P_feed [(301, t_Rd_put)] (mm_entry 6 as) M Q := by
  intro as M Q hin hM h
  unfold t_P_feed at h
  split at h
  rotate_left
  · exact h.elim
  rename_i o a b c d e
  have hR_a : mm_R a := hin (vi a) (by simp)
  have hR_b : mm_R b := hin (vi b) (by simp)
  have hR_c : mm_R c := hin (vi c) (by simp)
  have hR_d : mm_R d := hin (vi d) (by simp)
  have hR_e : mm_R e := hin (vi e) (by simp)
  refine ⟨by simp [mm_ent], (show mm_ok mb_P_feed [(301, t_Rd_put)] [some (vr o), some (vi a), some (vi b), some (vi c), some (vi d), some (vi e)] M Q from ?_)⟩
  intro J hJ
  obtain ⟨rfl, h0, h1, hN, hY⟩ := h
  have h18 : M 1 3 + 20 ≤ 600 → J 18 [some (vr 0), some (vi a), some (vi b), some (vi c), some (vi d), some (vi e)] [] M := by
    intro hc
    have hY := hY hc
    refine hJ 18 _ _ _ (show mm_wp _ _ _ mo_P_feed_18 _ _ _ from ?_)
    simp only [mo_P_feed_18, mm_wp, mm_ldi, mm_lda, mm_ldl, mm_sti, mm_sta, mm_stl, mm_inc, mm_2i, mm_mm, mm_2l, mm_lcmp, mm_i2l, mm_l2i, mm_cast8, mm_if1, mm_if2, mm_cmp, mm_swi, mm_sw, mm_pop1, mm_dup, mm_dup2, mm_geti, mm_geta, mm_puti, mm_iald, mm_bald, mm_aald, mm_iast, mm_bast, mm_alen, mm_acpy, mm_call, mm_callv, mm_recv, mm_pop, mm_find, mm_push, mm_cats, mm_cat, mm_reti, mm_retz, mm_retl, mm_reta, mm_retv, mm_set1, mm_set2, mm_kill, List.getElem?_cons_zero, List.getElem?_cons_succ, Int.reduceToNat, ↓reduceIte, Nat.reduceEqDiff, Nat.reduceDiv, Nat.reduceAdd, Nat.reduceLeDiff, Nat.zero_le, true_and, and_true, true_or, or_true, mm_b0, mm_b1, mm_lc_lt, mm_lc_le, mm_lc_gt, mm_lc_ge, mm_lc_eq, Int.not_lt, Int.not_le, Decidable.not_not, Int.sub_neg, c_0, c_1, c_2, l_2, c_3, c_4, l_4, c_5, l_5, c_6, l_6, c_7, l_7, c_8, c_9, l_9, c_10, l_10, c_11, l_11, c_12, l_12, c_13, c_14, l_14, c_15, l_15, c_16, l_16, c_17, l_17, c_18, c_19, l_19, c_20, l_20, c_21, l_21, c_22, l_22, c_23, c_24, l_24, c_25, l_25, c_26, c_27, c_28, l_28, c_29, c_30, l_30, c_31, c_32, l_32, c_33, l_33, c_34, l_34, c_35, l_35, c_36, l_36, c_37, l_37, c_38, l_38, c_39, l_39, c_40, c_41, l_41, c_42, c_43, c_44, l_44, c_45, c_46, l_46, c_47, c_48, l_48, c_49, l_49, c_50, l_50, c_51, l_51, c_52, l_52, c_53, l_53, c_54, l_54, c_55, l_55, c_56, l_56, c_57, l_57, c_58, l_58, c_59, l_59, c_60, l_60, c_61, l_61, c_62, c_63, l_63, c_64, l_64, c_65, l_65, c_66, l_66, c_67, l_67, c_68, l_68, c_69, l_69, c_70, l_70, c_71, l_71, c_72, l_72, c_73, l_73, c_74, l_74, c_75, l_75, c_76, l_76, t_Rd_put, pt_3]
    rw [show M 1 3 + 4 + 4 + 4 + 4 + 4 = M 1 3 + 20 by omega]
    refine ⟨by omega, by omega, by omega, by omega, by omega, by omega, by omega, by omega, by omega, by omega, hY⟩
  refine hJ 0 _ _ _ (show mm_wp _ _ _ mo_P_feed_0 _ _ _ from ?_)
  simp only [mo_P_feed_0, mm_wp, mm_ldi, mm_lda, mm_ldl, mm_sti, mm_sta, mm_stl, mm_inc, mm_2i, mm_mm, mm_2l, mm_lcmp, mm_i2l, mm_l2i, mm_cast8, mm_if1, mm_if2, mm_cmp, mm_swi, mm_sw, mm_pop1, mm_dup, mm_dup2, mm_geti, mm_geta, mm_puti, mm_iald, mm_bald, mm_aald, mm_iast, mm_bast, mm_alen, mm_acpy, mm_call, mm_callv, mm_recv, mm_pop, mm_find, mm_push, mm_cats, mm_cat, mm_reti, mm_retz, mm_retl, mm_reta, mm_retv, mm_set1, mm_set2, mm_kill, List.getElem?_cons_zero, List.getElem?_cons_succ, Int.reduceToNat, ↓reduceIte, Nat.reduceEqDiff, Nat.reduceDiv, Nat.reduceAdd, Nat.reduceLeDiff, Nat.zero_le, true_and, and_true, true_or, or_true, mm_b0, mm_b1, mm_lc_lt, mm_lc_le, mm_lc_gt, mm_lc_ge, mm_lc_eq, Int.not_lt, Int.not_le, Decidable.not_not, Int.sub_neg, c_0, c_1, c_2, l_2, c_3, c_4, l_4, c_5, l_5, c_6, l_6, c_7, l_7, c_8, c_9, l_9, c_10, l_10, c_11, l_11, c_12, l_12, c_13, c_14, l_14, c_15, l_15, c_16, l_16, c_17, l_17, c_18, c_19, l_19, c_20, l_20, c_21, l_21, c_22, l_22, c_23, c_24, l_24, c_25, l_25, c_26, c_27, c_28, l_28, c_29, c_30, l_30, c_31, c_32, l_32, c_33, l_33, c_34, l_34, c_35, l_35, c_36, l_36, c_37, l_37, c_38, l_38, c_39, l_39, c_40, c_41, l_41, c_42, c_43, c_44, l_44, c_45, c_46, l_46, c_47, c_48, l_48, c_49, l_49, c_50, l_50, c_51, l_51, c_52, l_52, c_53, l_53, c_54, l_54, c_55, l_55, c_56, l_56, c_57, l_57, c_58, l_58, c_59, l_59, c_60, l_60, c_61, l_61, c_62, c_63, l_63, c_64, l_64, c_65, l_65, c_66, l_66, c_67, l_67, c_68, l_68, c_69, l_69, c_70, l_70, c_71, l_71, c_72, l_72, c_73, l_73, c_74, l_74, c_75, l_75, c_76, l_76]
  exact ⟨by omega, fun z => h18 z, fun z => hN (by omega)⟩
