/-! the reference's calls that tell -/
def t_M_cell : mmT := fun as M Q => match as with
  | [.inr (.inr o), .inl i, .inl v] => o = 62 ∧ M 62 3 ≤ 60 ∧ 0 ≤ M 62 29 ∧ M 62 29 ≤ 12 ∧ (¬ ((0 ≤ i ∧ i < M 62 3) ∧ (0 ≤ v ∧ v < 64) ∧ ¬ M 64 i = v ∧ ¬ (M 62 39 ≤ i ∧ i ≤ M 62 40)) → Q (some (vi (-1))) (tz M)) ∧ (((0 ≤ i ∧ i < M 62 3) ∧ (0 ≤ v ∧ v < 64) ∧ ¬ M 64 i = v ∧ ¬ (M 62 39 ≤ i ∧ i ≤ M 62 40)) → ∀ M', kpI (tz M) M' 5 i (M 64 i) 0 0 → Q (some (vi (M 64 i))) (mm_up M' 64 i v))
  | _ => False
set_option maxHeartbeats 4000000 in
set_option maxRecDepth 100000 in
theorem p_M_cell : ∀ as M Q, (∀ v ∈ as, mm_vin v) → mm_mem M → t_M_cell as M Q → (mm_ent as).length ≤ 4 ∧ mm_ok mb_M_cell [(1126, t_M_isCell), (1102, t_M_within), (1125, t_M_keeps)] (mm_entry 4 as) M Q := by
  intro as M Q hin hM h
  unfold t_M_cell at h
  split at h
  rotate_left
  · exact h.elim
  rename_i o i v
  have hR_i : mm_R i := hin (vi i) (by simp)
  have hR_v : mm_R v := hin (vi v) (by simp)
  refine ⟨by simp [mm_ent], (show mm_ok mb_M_cell [(1126, t_M_isCell), (1102, t_M_within), (1125, t_M_keeps)] [some (vr o), some (vi i), some (vi v), none] M Q from ?_)⟩
  intro J hJ
  obtain ⟨rfl, m3, b0, b1, hN, hY⟩ := h
  have e3 : ∀ j, j ≠ 0 → mm_up M 62 0 0 62 j = M 62 j := fun j hj => mm_up_i _ hj
  have e64 : mm_up M 62 0 0 64 = M 64 := mm_up_o _ _ (by decide)
  unfold tz at hN hY
  have h53 : ¬ ((0 ≤ i ∧ i < M 62 3) ∧ (0 ≤ v ∧ v < 64) ∧ ¬ M 64 i = v ∧ ¬ (M 62 39 ≤ i ∧ i ≤ M 62 40)) → J 53 [some (vr 62), some (vi i), some (vi v), none] [] (mm_up M 62 0 0) := by
    intro hc
    refine hJ 53 _ _ _ (show mm_wp _ _ _ mo_M_cell_53 _ _ _ from ?_)
    simp only [mo_M_cell_53, mm_wp, mm_ldi, mm_lda, mm_ldl, mm_sti, mm_sta, mm_stl, mm_inc, mm_2i, mm_mm, mm_2l, mm_lcmp, mm_i2l, mm_l2i, mm_cast8, mm_if1, mm_if2, mm_cmp, mm_swi, mm_sw, mm_pop1, mm_dup, mm_dup2, mm_geti, mm_geta, mm_puti, mm_iald, mm_bald, mm_aald, mm_iast, mm_bast, mm_alen, mm_acpy, mm_call, mm_callv, mm_recv, mm_pop, mm_find, mm_push, mm_cats, mm_cat, mm_reti, mm_retz, mm_retl, mm_reta, mm_retv, mm_set1, mm_set2, mm_kill, List.getElem?_cons_zero, List.getElem?_cons_succ, Int.reduceToNat, ↓reduceIte, Nat.reduceEqDiff, Nat.reduceDiv, Nat.reduceAdd, Nat.reduceLeDiff, Nat.zero_le, true_and, and_true, true_or, or_true, mm_b0, mm_b1, mm_lc_lt, mm_lc_le, mm_lc_gt, mm_lc_ge, mm_lc_eq, Int.not_lt, Int.not_le, Decidable.not_not, Int.sub_neg]
    exact hN hc
  have h55 : ((0 ≤ i ∧ i < M 62 3) ∧ (0 ≤ v ∧ v < 64) ∧ ¬ M 64 i = v ∧ ¬ (M 62 39 ≤ i ∧ i ≤ M 62 40)) → J 55 [some (vr 62), some (vi i), some (vi v), none] [] (mm_up M 62 0 0) := by
    intro hc
    refine hJ 55 _ _ _ (show mm_wp _ _ _ mo_M_cell_55 _ _ _ from ?_)
    simp only [mo_M_cell_55, mm_wp, mm_ldi, mm_lda, mm_ldl, mm_sti, mm_sta, mm_stl, mm_inc, mm_2i, mm_mm, mm_2l, mm_lcmp, mm_i2l, mm_l2i, mm_cast8, mm_if1, mm_if2, mm_cmp, mm_swi, mm_sw, mm_pop1, mm_dup, mm_dup2, mm_geti, mm_geta, mm_puti, mm_iald, mm_bald, mm_aald, mm_iast, mm_bast, mm_alen, mm_acpy, mm_call, mm_callv, mm_recv, mm_pop, mm_find, mm_push, mm_cats, mm_cat, mm_reti, mm_retz, mm_retl, mm_reta, mm_retv, mm_set1, mm_set2, mm_kill, List.getElem?_cons_zero, List.getElem?_cons_succ, Int.reduceToNat, ↓reduceIte, Nat.reduceEqDiff, Nat.reduceDiv, Nat.reduceAdd, Nat.reduceLeDiff, Nat.zero_le, true_and, and_true, true_or, or_true, mm_b0, mm_b1, mm_lc_lt, mm_lc_le, mm_lc_gt, mm_lc_ge, mm_lc_eq, Int.not_lt, Int.not_le, Decidable.not_not, Int.sub_neg, c_0, c_1, c_2, l_2, c_3, c_4, l_4, c_5, l_5, c_6, l_6, c_7, l_7, c_8, c_9, l_9, c_10, l_10, c_11, l_11, c_12, l_12, c_13, c_14, l_14, c_15, l_15, c_16, l_16, c_17, l_17, c_18, c_19, l_19, c_20, l_20, c_21, l_21, c_22, l_22, c_23, c_24, l_24, c_25, l_25, c_26, c_27, c_28, l_28, c_29, c_30, l_30, c_31, c_32, l_32, c_33, l_33, c_34, l_34, c_35, l_35, c_36, l_36, c_37, l_37, c_38, l_38, c_39, l_39, c_40, c_41, l_41, c_42, c_43, c_44, l_44, c_45, c_46, l_46, c_47, c_48, l_48, c_49, l_49, c_50, l_50, c_51, l_51, c_52, l_52, c_53, l_53, c_54, l_54, c_55, l_55, c_56, l_56, c_57, l_57, c_58, l_58, c_59, l_59, c_60, l_60, c_61, l_61, c_62, c_63, l_63, c_64, l_64, c_65, l_65, c_66, l_66, c_67, l_67, c_68, l_68, c_69, l_69, c_70, l_70, c_71, l_71, c_72, l_72, c_73, l_73, c_74, l_74, c_75, l_75, c_76, l_76, t_M_keeps, e64]
    rw [e3 29 (by decide)]
    exact ⟨by omega, by omega, by omega, fun M' hk => ⟨by omega, hY hc M' hk⟩⟩
  refine hJ 0 _ _ _ (show mm_wp _ _ _ mo_M_cell_0 _ _ _ from ?_)
  simp only [mo_M_cell_0, mm_wp, mm_ldi, mm_lda, mm_ldl, mm_sti, mm_sta, mm_stl, mm_inc, mm_2i, mm_mm, mm_2l, mm_lcmp, mm_i2l, mm_l2i, mm_cast8, mm_if1, mm_if2, mm_cmp, mm_swi, mm_sw, mm_pop1, mm_dup, mm_dup2, mm_geti, mm_geta, mm_puti, mm_iald, mm_bald, mm_aald, mm_iast, mm_bast, mm_alen, mm_acpy, mm_call, mm_callv, mm_recv, mm_pop, mm_find, mm_push, mm_cats, mm_cat, mm_reti, mm_retz, mm_retl, mm_reta, mm_retv, mm_set1, mm_set2, mm_kill, List.getElem?_cons_zero, List.getElem?_cons_succ, Int.reduceToNat, ↓reduceIte, Nat.reduceEqDiff, Nat.reduceDiv, Nat.reduceAdd, Nat.reduceLeDiff, Nat.zero_le, true_and, and_true, true_or, or_true, mm_b0, mm_b1, mm_lc_lt, mm_lc_le, mm_lc_gt, mm_lc_ge, mm_lc_eq, Int.not_lt, Int.not_le, Decidable.not_not, Int.sub_neg, c_0, c_1, c_2, l_2, c_3, c_4, l_4, c_5, l_5, c_6, l_6, c_7, l_7, c_8, c_9, l_9, c_10, l_10, c_11, l_11, c_12, l_12, c_13, c_14, l_14, c_15, l_15, c_16, l_16, c_17, l_17, c_18, c_19, l_19, c_20, l_20, c_21, l_21, c_22, l_22, c_23, c_24, l_24, c_25, l_25, c_26, c_27, c_28, l_28, c_29, c_30, l_30, c_31, c_32, l_32, c_33, l_33, c_34, l_34, c_35, l_35, c_36, l_36, c_37, l_37, c_38, l_38, c_39, l_39, c_40, c_41, l_41, c_42, c_43, c_44, l_44, c_45, c_46, l_46, c_47, c_48, l_48, c_49, l_49, c_50, l_50, c_51, l_51, c_52, l_52, c_53, l_53, c_54, l_54, c_55, l_55, c_56, l_56, c_57, l_57, c_58, l_58, c_59, l_59, c_60, l_60, c_61, l_61, c_62, c_63, l_63, c_64, l_64, c_65, l_65, c_66, l_66, c_67, l_67, c_68, l_68, c_69, l_69, c_70, l_70, c_71, l_71, c_72, l_72, c_73, l_73, c_74, l_74, c_75, l_75, c_76, l_76, t_M_isCell, t_M_within, e64]
  rw [e3 3 (by decide), e3 39 (by decide), e3 40 (by decide)]
  refine ⟨fun z => h53 (by omega), fun _ => ⟨fun z => h53 (by omega), fun _ => ⟨by omega, fun z => h53 (fun w => w.2.2.1 z), fun _ => ⟨fun z => h55 ?_, fun z => h53 (fun w => w.2.2.2 z)⟩⟩⟩⟩
  refine ⟨by omega, by omega, by omega, by omega⟩
def t_M_change : mmT := fun as M Q => match as with
  | [.inr (.inr o), .inl i, .inl v] => o = 62 ∧ M 62 3 ≤ 60 ∧ 0 ≤ M 62 5 ∧ M 62 5 ≤ 32 ∧ 0 ≤ M 62 29 ∧ M 62 29 ≤ 12 ∧ (¬ ((0 ≤ i ∧ i < M 62 3) ∧ (0 ≤ v ∧ v < 64) ∧ M 62 5 < 32) → Q (some (vi (-1))) (tz M)) ∧ (((0 ≤ i ∧ i < M 62 3) ∧ (0 ≤ v ∧ v < 64) ∧ M 62 5 < 32) → ∀ M', kpI (tz M) M' 0 0 0 0 0 → Q (some (vi (M 62 5 + 1))) (mm_up (mm_up (mm_up M' 65 (M 62 5) i) 66 (M 62 5) v) 62 5 (M 62 5 + 1)))
  | _ => False
set_option maxHeartbeats 4000000 in
set_option maxRecDepth 100000 in
theorem p_M_change : ∀ as M Q, (∀ v ∈ as, mm_vin v) → mm_mem M → t_M_change as M Q → (mm_ent as).length ≤ 3 ∧ mm_ok mb_M_change [(1126, t_M_isCell), (1102, t_M_within), (1125, t_M_keeps)] (mm_entry 3 as) M Q := by
  intro as M Q hin hM h
  unfold t_M_change at h
  split at h
  rotate_left
  · exact h.elim
  rename_i o i v
  have hR_i : mm_R i := hin (vi i) (by simp)
  have hR_v : mm_R v := hin (vi v) (by simp)
  refine ⟨by simp [mm_ent], (show mm_ok mb_M_change [(1126, t_M_isCell), (1102, t_M_within), (1125, t_M_keeps)] [some (vr o), some (vi i), some (vi v)] M Q from ?_)⟩
  intro J hJ
  obtain ⟨rfl, m3, m5, m6, b0, b1, hN, hY⟩ := h
  have e3 : ∀ j, j ≠ 0 → mm_up M 62 0 0 62 j = M 62 j := fun j hj => mm_up_i _ hj
  unfold tz at hN hY
  have h34 : ¬ ((0 ≤ i ∧ i < M 62 3) ∧ (0 ≤ v ∧ v < 64) ∧ M 62 5 < 32) → J 34 [some (vr 62), some (vi i), some (vi v)] [] (mm_up M 62 0 0) := by
    intro hc
    refine hJ 34 _ _ _ (show mm_wp _ _ _ mo_M_change_34 _ _ _ from ?_)
    simp only [mo_M_change_34, mm_wp, mm_ldi, mm_lda, mm_ldl, mm_sti, mm_sta, mm_stl, mm_inc, mm_2i, mm_mm, mm_2l, mm_lcmp, mm_i2l, mm_l2i, mm_cast8, mm_if1, mm_if2, mm_cmp, mm_swi, mm_sw, mm_pop1, mm_dup, mm_dup2, mm_geti, mm_geta, mm_puti, mm_iald, mm_bald, mm_aald, mm_iast, mm_bast, mm_alen, mm_acpy, mm_call, mm_callv, mm_recv, mm_pop, mm_find, mm_push, mm_cats, mm_cat, mm_reti, mm_retz, mm_retl, mm_reta, mm_retv, mm_set1, mm_set2, mm_kill, List.getElem?_cons_zero, List.getElem?_cons_succ, Int.reduceToNat, ↓reduceIte, Nat.reduceEqDiff, Nat.reduceDiv, Nat.reduceAdd, Nat.reduceLeDiff, Nat.zero_le, true_and, and_true, true_or, or_true, mm_b0, mm_b1, mm_lc_lt, mm_lc_le, mm_lc_gt, mm_lc_ge, mm_lc_eq, Int.not_lt, Int.not_le, Decidable.not_not, Int.sub_neg]
    exact hN hc
  have h36 : ((0 ≤ i ∧ i < M 62 3) ∧ (0 ≤ v ∧ v < 64) ∧ M 62 5 < 32) → J 36 [some (vr 62), some (vi i), some (vi v)] [] (mm_up M 62 0 0) := by
    intro hc
    refine hJ 36 _ _ _ (show mm_wp _ _ _ mo_M_change_36 _ _ _ from ?_)
    simp only [mo_M_change_36, mm_wp, mm_ldi, mm_lda, mm_ldl, mm_sti, mm_sta, mm_stl, mm_inc, mm_2i, mm_mm, mm_2l, mm_lcmp, mm_i2l, mm_l2i, mm_cast8, mm_if1, mm_if2, mm_cmp, mm_swi, mm_sw, mm_pop1, mm_dup, mm_dup2, mm_geti, mm_geta, mm_puti, mm_iald, mm_bald, mm_aald, mm_iast, mm_bast, mm_alen, mm_acpy, mm_call, mm_callv, mm_recv, mm_pop, mm_find, mm_push, mm_cats, mm_cat, mm_reti, mm_retz, mm_retl, mm_reta, mm_retv, mm_set1, mm_set2, mm_kill, List.getElem?_cons_zero, List.getElem?_cons_succ, Int.reduceToNat, ↓reduceIte, Nat.reduceEqDiff, Nat.reduceDiv, Nat.reduceAdd, Nat.reduceLeDiff, Nat.zero_le, true_and, and_true, true_or, or_true, mm_b0, mm_b1, mm_lc_lt, mm_lc_le, mm_lc_gt, mm_lc_ge, mm_lc_eq, Int.not_lt, Int.not_le, Decidable.not_not, Int.sub_neg, c_0, c_1, c_2, l_2, c_3, c_4, l_4, c_5, l_5, c_6, l_6, c_7, l_7, c_8, c_9, l_9, c_10, l_10, c_11, l_11, c_12, l_12, c_13, c_14, l_14, c_15, l_15, c_16, l_16, c_17, l_17, c_18, c_19, l_19, c_20, l_20, c_21, l_21, c_22, l_22, c_23, c_24, l_24, c_25, l_25, c_26, c_27, c_28, l_28, c_29, c_30, l_30, c_31, c_32, l_32, c_33, l_33, c_34, l_34, c_35, l_35, c_36, l_36, c_37, l_37, c_38, l_38, c_39, l_39, c_40, c_41, l_41, c_42, c_43, c_44, l_44, c_45, c_46, l_46, c_47, c_48, l_48, c_49, l_49, c_50, l_50, c_51, l_51, c_52, l_52, c_53, l_53, c_54, l_54, c_55, l_55, c_56, l_56, c_57, l_57, c_58, l_58, c_59, l_59, c_60, l_60, c_61, l_61, c_62, c_63, l_63, c_64, l_64, c_65, l_65, c_66, l_66, c_67, l_67, c_68, l_68, c_69, l_69, c_70, l_70, c_71, l_71, c_72, l_72, c_73, l_73, c_74, l_74, c_75, l_75, c_76, l_76, t_M_keeps]
    rw [e3 29 (by decide)]
    refine ⟨by omega, by omega, fun M' hk => ?_⟩
    have e5 : M' 62 5 = M 62 5 := by rw [hk.2.1 5 (by decide), e3 5 (by decide)]
    have u65 : ∀ (M1 : mmM) (i v : Int), mm_up M1 65 i v 62 = M1 62 := fun M1 i v => mm_up_o _ _ (by decide)
    have u66 : ∀ (M1 : mmM) (i v : Int), mm_up M1 66 i v 62 = M1 62 := fun M1 i v => mm_up_o _ _ (by decide)
    simp only [u65, u66, e5, mm_up_s]
    exact ⟨by omega, by omega, by omega, hY hc M' hk⟩
  refine hJ 0 _ _ _ (show mm_wp _ _ _ mo_M_change_0 _ _ _ from ?_)
  simp only [mo_M_change_0, mm_wp, mm_ldi, mm_lda, mm_ldl, mm_sti, mm_sta, mm_stl, mm_inc, mm_2i, mm_mm, mm_2l, mm_lcmp, mm_i2l, mm_l2i, mm_cast8, mm_if1, mm_if2, mm_cmp, mm_swi, mm_sw, mm_pop1, mm_dup, mm_dup2, mm_geti, mm_geta, mm_puti, mm_iald, mm_bald, mm_aald, mm_iast, mm_bast, mm_alen, mm_acpy, mm_call, mm_callv, mm_recv, mm_pop, mm_find, mm_push, mm_cats, mm_cat, mm_reti, mm_retz, mm_retl, mm_reta, mm_retv, mm_set1, mm_set2, mm_kill, List.getElem?_cons_zero, List.getElem?_cons_succ, Int.reduceToNat, ↓reduceIte, Nat.reduceEqDiff, Nat.reduceDiv, Nat.reduceAdd, Nat.reduceLeDiff, Nat.zero_le, true_and, and_true, true_or, or_true, mm_b0, mm_b1, mm_lc_lt, mm_lc_le, mm_lc_gt, mm_lc_ge, mm_lc_eq, Int.not_lt, Int.not_le, Decidable.not_not, Int.sub_neg, c_0, c_1, c_2, l_2, c_3, c_4, l_4, c_5, l_5, c_6, l_6, c_7, l_7, c_8, c_9, l_9, c_10, l_10, c_11, l_11, c_12, l_12, c_13, c_14, l_14, c_15, l_15, c_16, l_16, c_17, l_17, c_18, c_19, l_19, c_20, l_20, c_21, l_21, c_22, l_22, c_23, c_24, l_24, c_25, l_25, c_26, c_27, c_28, l_28, c_29, c_30, l_30, c_31, c_32, l_32, c_33, l_33, c_34, l_34, c_35, l_35, c_36, l_36, c_37, l_37, c_38, l_38, c_39, l_39, c_40, c_41, l_41, c_42, c_43, c_44, l_44, c_45, c_46, l_46, c_47, c_48, l_48, c_49, l_49, c_50, l_50, c_51, l_51, c_52, l_52, c_53, l_53, c_54, l_54, c_55, l_55, c_56, l_56, c_57, l_57, c_58, l_58, c_59, l_59, c_60, l_60, c_61, l_61, c_62, c_63, l_63, c_64, l_64, c_65, l_65, c_66, l_66, c_67, l_67, c_68, l_68, c_69, l_69, c_70, l_70, c_71, l_71, c_72, l_72, c_73, l_73, c_74, l_74, c_75, l_75, c_76, l_76, t_M_isCell, t_M_within]
  rw [e3 3 (by decide), e3 5 (by decide)]
  exact ⟨fun z => h34 (by omega), fun _ => ⟨fun z => h34 (by omega), fun _ => ⟨fun z => h36 (by omega), fun z => h34 (by omega)⟩⟩⟩
def t_M_ask : mmT := fun as M Q => match as with
  | [.inr (.inr o), .inl k, .inl f, .inl l, .inl t] => o = 62 ∧ 0 ≤ M 62 5 ∧ 0 ≤ M 62 8 ∧ M 62 8 ≤ 24 ∧ 0 ≤ M 62 29 ∧ M 62 29 ≤ 12 ∧ (¬ (((0 ≤ k ∧ k < 8) ∧ (0 ≤ f ∧ f < M 62 3) ∧ (0 ≤ l ∧ l < M 62 3) ∧ f ≤ l ∧ (t = -1 ∨ 0 ≤ t ∧ t ≤ M 62 5)) ∧ M 62 8 < 24) → Q (some (vi (-1))) (tz M)) ∧ ((((0 ≤ k ∧ k < 8) ∧ (0 ≤ f ∧ f < M 62 3) ∧ (0 ≤ l ∧ l < M 62 3) ∧ f ≤ l ∧ (t = -1 ∨ 0 ≤ t ∧ t ≤ M 62 5)) ∧ M 62 8 < 24) → ∀ M', kpI (tz M) M' 1 0 0 0 0 → Q (some (vi (M 62 8))) (asM M' k f l t))
  | _ => False
set_option maxHeartbeats 4000000 in
set_option maxRecDepth 100000 in
theorem p_M_ask : ∀ as M Q, (∀ v ∈ as, mm_vin v) → mm_mem M → t_M_ask as M Q → (mm_ent as).length ≤ 5 ∧ mm_ok mb_M_ask [(1130, t_M_canAsk), (1125, t_M_keeps), (1131, t_M_asks)] (mm_entry 5 as) M Q := by
  intro as M Q hin hM h
  unfold t_M_ask at h
  split at h
  rotate_left
  · exact h.elim
  rename_i o k f l t
  have hR_k : mm_R k := hin (vi k) (by simp)
  have hR_f : mm_R f := hin (vi f) (by simp)
  have hR_l : mm_R l := hin (vi l) (by simp)
  have hR_t : mm_R t := hin (vi t) (by simp)
  refine ⟨by simp [mm_ent], (show mm_ok mb_M_ask [(1130, t_M_canAsk), (1125, t_M_keeps), (1131, t_M_asks)] [some (vr o), some (vi k), some (vi f), some (vi l), some (vi t)] M Q from ?_)⟩
  intro J hJ
  obtain ⟨rfl, m5, m8, m9, b0, b1, hN, hY⟩ := h
  have e3 : ∀ j, j ≠ 0 → mm_up M 62 0 0 62 j = M 62 j := fun j hj => mm_up_i _ hj
  unfold tz at hN hY
  generalize hC : ((0 ≤ k ∧ k < 8) ∧ (0 ≤ f ∧ f < M 62 3) ∧ (0 ≤ l ∧ l < M 62 3) ∧ f ≤ l ∧ (t = -1 ∨ 0 ≤ t ∧ t ≤ M 62 5)) = C at hN hY
  have h26 : ¬ (C ∧ M 62 8 < 24) → J 26 [some (vr 62), some (vi k), some (vi f), some (vi l), some (vi t)] [] (mm_up M 62 0 0) := by
    intro hc
    refine hJ 26 _ _ _ (show mm_wp _ _ _ mo_M_ask_26 _ _ _ from ?_)
    simp only [mo_M_ask_26, mm_wp, mm_ldi, mm_lda, mm_ldl, mm_sti, mm_sta, mm_stl, mm_inc, mm_2i, mm_mm, mm_2l, mm_lcmp, mm_i2l, mm_l2i, mm_cast8, mm_if1, mm_if2, mm_cmp, mm_swi, mm_sw, mm_pop1, mm_dup, mm_dup2, mm_geti, mm_geta, mm_puti, mm_iald, mm_bald, mm_aald, mm_iast, mm_bast, mm_alen, mm_acpy, mm_call, mm_callv, mm_recv, mm_pop, mm_find, mm_push, mm_cats, mm_cat, mm_reti, mm_retz, mm_retl, mm_reta, mm_retv, mm_set1, mm_set2, mm_kill, List.getElem?_cons_zero, List.getElem?_cons_succ, Int.reduceToNat, ↓reduceIte, Nat.reduceEqDiff, Nat.reduceDiv, Nat.reduceAdd, Nat.reduceLeDiff, Nat.zero_le, true_and, and_true, true_or, or_true, mm_b0, mm_b1, mm_lc_lt, mm_lc_le, mm_lc_gt, mm_lc_ge, mm_lc_eq, Int.not_lt, Int.not_le, Decidable.not_not, Int.sub_neg]
    exact hN hc
  have h28 : (C ∧ M 62 8 < 24) → J 28 [some (vr 62), some (vi k), some (vi f), some (vi l), some (vi t)] [] (mm_up M 62 0 0) := by
    intro hc
    have h8 := hc.2
    refine hJ 28 _ _ _ (show mm_wp _ _ _ mo_M_ask_28 _ _ _ from ?_)
    simp only [mo_M_ask_28, mm_wp, mm_ldi, mm_lda, mm_ldl, mm_sti, mm_sta, mm_stl, mm_inc, mm_2i, mm_mm, mm_2l, mm_lcmp, mm_i2l, mm_l2i, mm_cast8, mm_if1, mm_if2, mm_cmp, mm_swi, mm_sw, mm_pop1, mm_dup, mm_dup2, mm_geti, mm_geta, mm_puti, mm_iald, mm_bald, mm_aald, mm_iast, mm_bast, mm_alen, mm_acpy, mm_call, mm_callv, mm_recv, mm_pop, mm_find, mm_push, mm_cats, mm_cat, mm_reti, mm_retz, mm_retl, mm_reta, mm_retv, mm_set1, mm_set2, mm_kill, List.getElem?_cons_zero, List.getElem?_cons_succ, Int.reduceToNat, ↓reduceIte, Nat.reduceEqDiff, Nat.reduceDiv, Nat.reduceAdd, Nat.reduceLeDiff, Nat.zero_le, true_and, and_true, true_or, or_true, mm_b0, mm_b1, mm_lc_lt, mm_lc_le, mm_lc_gt, mm_lc_ge, mm_lc_eq, Int.not_lt, Int.not_le, Decidable.not_not, Int.sub_neg, c_0, c_1, c_2, l_2, c_3, c_4, l_4, c_5, l_5, c_6, l_6, c_7, l_7, c_8, c_9, l_9, c_10, l_10, c_11, l_11, c_12, l_12, c_13, c_14, l_14, c_15, l_15, c_16, l_16, c_17, l_17, c_18, c_19, l_19, c_20, l_20, c_21, l_21, c_22, l_22, c_23, c_24, l_24, c_25, l_25, c_26, c_27, c_28, l_28, c_29, c_30, l_30, c_31, c_32, l_32, c_33, l_33, c_34, l_34, c_35, l_35, c_36, l_36, c_37, l_37, c_38, l_38, c_39, l_39, c_40, c_41, l_41, c_42, c_43, c_44, l_44, c_45, c_46, l_46, c_47, c_48, l_48, c_49, l_49, c_50, l_50, c_51, l_51, c_52, l_52, c_53, l_53, c_54, l_54, c_55, l_55, c_56, l_56, c_57, l_57, c_58, l_58, c_59, l_59, c_60, l_60, c_61, l_61, c_62, c_63, l_63, c_64, l_64, c_65, l_65, c_66, l_66, c_67, l_67, c_68, l_68, c_69, l_69, c_70, l_70, c_71, l_71, c_72, l_72, c_73, l_73, c_74, l_74, c_75, l_75, c_76, l_76, t_M_keeps, t_M_asks]
    rw [e3 29 (by decide)]
    refine ⟨by omega, by omega, fun M' hk => ?_⟩
    have e8 : M' 62 8 = M 62 8 := by rw [hk.2.1 8 (by decide), e3 8 (by decide)]
    have e9 : asM M' k f l t 62 8 = M 62 8 + 1 := by unfold asM; rw [mm_up_s, e8]
    rw [e9, e8, show M 62 8 + 1 - 1 = M 62 8 by omega]
    exact ⟨by omega, by omega, by omega, hY hc M' hk⟩
  refine hJ 0 _ _ _ (show mm_wp _ _ _ mo_M_ask_0 _ _ _ from ?_)
  simp only [mo_M_ask_0, mm_wp, mm_ldi, mm_lda, mm_ldl, mm_sti, mm_sta, mm_stl, mm_inc, mm_2i, mm_mm, mm_2l, mm_lcmp, mm_i2l, mm_l2i, mm_cast8, mm_if1, mm_if2, mm_cmp, mm_swi, mm_sw, mm_pop1, mm_dup, mm_dup2, mm_geti, mm_geta, mm_puti, mm_iald, mm_bald, mm_aald, mm_iast, mm_bast, mm_alen, mm_acpy, mm_call, mm_callv, mm_recv, mm_pop, mm_find, mm_push, mm_cats, mm_cat, mm_reti, mm_retz, mm_retl, mm_reta, mm_retv, mm_set1, mm_set2, mm_kill, List.getElem?_cons_zero, List.getElem?_cons_succ, Int.reduceToNat, ↓reduceIte, Nat.reduceEqDiff, Nat.reduceDiv, Nat.reduceAdd, Nat.reduceLeDiff, Nat.zero_le, true_and, and_true, true_or, or_true, mm_b0, mm_b1, mm_lc_lt, mm_lc_le, mm_lc_gt, mm_lc_ge, mm_lc_eq, Int.not_lt, Int.not_le, Decidable.not_not, Int.sub_neg, c_0, c_1, c_2, l_2, c_3, c_4, l_4, c_5, l_5, c_6, l_6, c_7, l_7, c_8, c_9, l_9, c_10, l_10, c_11, l_11, c_12, l_12, c_13, c_14, l_14, c_15, l_15, c_16, l_16, c_17, l_17, c_18, c_19, l_19, c_20, l_20, c_21, l_21, c_22, l_22, c_23, c_24, l_24, c_25, l_25, c_26, c_27, c_28, l_28, c_29, c_30, l_30, c_31, c_32, l_32, c_33, l_33, c_34, l_34, c_35, l_35, c_36, l_36, c_37, l_37, c_38, l_38, c_39, l_39, c_40, c_41, l_41, c_42, c_43, c_44, l_44, c_45, c_46, l_46, c_47, c_48, l_48, c_49, l_49, c_50, l_50, c_51, l_51, c_52, l_52, c_53, l_53, c_54, l_54, c_55, l_55, c_56, l_56, c_57, l_57, c_58, l_58, c_59, l_59, c_60, l_60, c_61, l_61, c_62, c_63, l_63, c_64, l_64, c_65, l_65, c_66, l_66, c_67, l_67, c_68, l_68, c_69, l_69, c_70, l_70, c_71, l_71, c_72, l_72, c_73, l_73, c_74, l_74, c_75, l_75, c_76, l_76, t_M_canAsk]
  rw [e3 3 (by decide), e3 5 (by decide), e3 8 (by decide), hC]
  exact ⟨m5, fun z => h26 (fun w => z w.1), fun z => ⟨fun z2 => h28 ⟨z, by omega⟩, fun z2 => h26 (fun w => by have := w.2; omega)⟩⟩
def t_M_drop : mmT := fun as M Q => match as with
  | [.inr (.inr o)] => o = 62 ∧ 0 ≤ M 62 8 ∧ M 62 8 ≤ 24 ∧ 0 ≤ M 62 29 ∧ M 62 29 ≤ 12 ∧ (M 62 8 = 0 → Q (some (vi (-1))) (tz M)) ∧ (0 < M 62 8 → ∀ M', kpI (tz M) M' 2 (M 67 (4 * M 62 8 - 4)) (M 67 (4 * M 62 8 - 4 + 1)) (M 67 (4 * M 62 8 - 4 + 2)) (M 67 (4 * M 62 8 - 4 + 3)) → Q (some (vi (M 62 8 - 1))) (mm_up M' 62 8 (M 62 8 - 1)))
  | _ => False
set_option maxHeartbeats 4000000 in
set_option maxRecDepth 100000 in
theorem p_M_drop : ∀ as M Q, (∀ v ∈ as, mm_vin v) → mm_mem M → t_M_drop as M Q → (mm_ent as).length ≤ 2 ∧ mm_ok mb_M_drop [(1125, t_M_keeps)] (mm_entry 2 as) M Q := by
  intro as M Q hin hM h
  unfold t_M_drop at h
  split at h
  rotate_left
  · exact h.elim
  rename_i o
  refine ⟨by simp [mm_ent], (show mm_ok mb_M_drop [(1125, t_M_keeps)] [some (vr o), none] M Q from ?_)⟩
  intro J hJ
  obtain ⟨rfl, m8, m9, b0, b1, hN, hY⟩ := h
  have e3 : ∀ j, j ≠ 0 → mm_up M 62 0 0 62 j = M 62 j := fun j hj => mm_up_i _ hj
  have e67 : mm_up M 62 0 0 67 = M 67 := mm_up_o _ _ (by decide)
  have e8 : mm_up M 62 0 0 62 8 = M 62 8 := mm_up_i _ (by decide)
  unfold tz at hN hY
  have h14 : 0 < M 62 8 → J 14 [some (vr 62), none] [] (mm_up M 62 0 0) := by
    intro hc
    refine hJ 14 _ _ _ (show mm_wp _ _ _ mo_M_drop_14 _ _ _ from ?_)
    simp only [mo_M_drop_14, mm_wp, mm_ldi, mm_lda, mm_ldl, mm_sti, mm_sta, mm_stl, mm_inc, mm_2i, mm_mm, mm_2l, mm_lcmp, mm_i2l, mm_l2i, mm_cast8, mm_if1, mm_if2, mm_cmp, mm_swi, mm_sw, mm_pop1, mm_dup, mm_dup2, mm_geti, mm_geta, mm_puti, mm_iald, mm_bald, mm_aald, mm_iast, mm_bast, mm_alen, mm_acpy, mm_call, mm_callv, mm_recv, mm_pop, mm_find, mm_push, mm_cats, mm_cat, mm_reti, mm_retz, mm_retl, mm_reta, mm_retv, mm_set1, mm_set2, mm_kill, List.getElem?_cons_zero, List.getElem?_cons_succ, Int.reduceToNat, ↓reduceIte, Nat.reduceEqDiff, Nat.reduceDiv, Nat.reduceAdd, Nat.reduceLeDiff, Nat.zero_le, true_and, and_true, true_or, or_true, mm_b0, mm_b1, mm_lc_lt, mm_lc_le, mm_lc_gt, mm_lc_ge, mm_lc_eq, Int.not_lt, Int.not_le, Decidable.not_not, Int.sub_neg, c_0, c_1, c_2, l_2, c_3, c_4, l_4, c_5, l_5, c_6, l_6, c_7, l_7, c_8, c_9, l_9, c_10, l_10, c_11, l_11, c_12, l_12, c_13, c_14, l_14, c_15, l_15, c_16, l_16, c_17, l_17, c_18, c_19, l_19, c_20, l_20, c_21, l_21, c_22, l_22, c_23, c_24, l_24, c_25, l_25, c_26, c_27, c_28, l_28, c_29, c_30, l_30, c_31, c_32, l_32, c_33, l_33, c_34, l_34, c_35, l_35, c_36, l_36, c_37, l_37, c_38, l_38, c_39, l_39, c_40, c_41, l_41, c_42, c_43, c_44, l_44, c_45, c_46, l_46, c_47, c_48, l_48, c_49, l_49, c_50, l_50, c_51, l_51, c_52, l_52, c_53, l_53, c_54, l_54, c_55, l_55, c_56, l_56, c_57, l_57, c_58, l_58, c_59, l_59, c_60, l_60, c_61, l_61, c_62, c_63, l_63, c_64, l_64, c_65, l_65, c_66, l_66, c_67, l_67, c_68, l_68, c_69, l_69, c_70, l_70, c_71, l_71, c_72, l_72, c_73, l_73, c_74, l_74, c_75, l_75, c_76, l_76, t_M_keeps, e67, e8]
    rw [e3 29 (by decide)]
    repeat (refine And.intro (by omega) ?_)
    refine fun M' hk => ?_
    have e8 : M' 62 8 = M 62 8 := by rw [hk.2.1 8 (by decide), e3 8 (by decide)]
    rw [e8, mm_up_s]
    exact ⟨by omega, hY hc M' hk⟩
  refine hJ 0 _ _ _ (show mm_wp _ _ _ mo_M_drop_0 _ _ _ from ?_)
  simp only [mo_M_drop_0, mm_wp, mm_ldi, mm_lda, mm_ldl, mm_sti, mm_sta, mm_stl, mm_inc, mm_2i, mm_mm, mm_2l, mm_lcmp, mm_i2l, mm_l2i, mm_cast8, mm_if1, mm_if2, mm_cmp, mm_swi, mm_sw, mm_pop1, mm_dup, mm_dup2, mm_geti, mm_geta, mm_puti, mm_iald, mm_bald, mm_aald, mm_iast, mm_bast, mm_alen, mm_acpy, mm_call, mm_callv, mm_recv, mm_pop, mm_find, mm_push, mm_cats, mm_cat, mm_reti, mm_retz, mm_retl, mm_reta, mm_retv, mm_set1, mm_set2, mm_kill, List.getElem?_cons_zero, List.getElem?_cons_succ, Int.reduceToNat, ↓reduceIte, Nat.reduceEqDiff, Nat.reduceDiv, Nat.reduceAdd, Nat.reduceLeDiff, Nat.zero_le, true_and, and_true, true_or, or_true, mm_b0, mm_b1, mm_lc_lt, mm_lc_le, mm_lc_gt, mm_lc_ge, mm_lc_eq, Int.not_lt, Int.not_le, Decidable.not_not, Int.sub_neg, c_0, c_1, c_2, l_2, c_3, c_4, l_4, c_5, l_5, c_6, l_6, c_7, l_7, c_8, c_9, l_9, c_10, l_10, c_11, l_11, c_12, l_12, c_13, c_14, l_14, c_15, l_15, c_16, l_16, c_17, l_17, c_18, c_19, l_19, c_20, l_20, c_21, l_21, c_22, l_22, c_23, c_24, l_24, c_25, l_25, c_26, c_27, c_28, l_28, c_29, c_30, l_30, c_31, c_32, l_32, c_33, l_33, c_34, l_34, c_35, l_35, c_36, l_36, c_37, l_37, c_38, l_38, c_39, l_39, c_40, c_41, l_41, c_42, c_43, c_44, l_44, c_45, c_46, l_46, c_47, c_48, l_48, c_49, l_49, c_50, l_50, c_51, l_51, c_52, l_52, c_53, l_53, c_54, l_54, c_55, l_55, c_56, l_56, c_57, l_57, c_58, l_58, c_59, l_59, c_60, l_60, c_61, l_61, c_62, c_63, l_63, c_64, l_64, c_65, l_65, c_66, l_66, c_67, l_67, c_68, l_68, c_69, l_69, c_70, l_70, c_71, l_71, c_72, l_72, c_73, l_73, c_74, l_74, c_75, l_75, c_76, l_76, e8]
  exact ⟨fun z => h14 (by omega), fun z => hN z⟩
def t_M_weight : mmT := fun as M Q => match as with
  | [.inr (.inr o), .inl w] => o = 62 ∧ 0 ≤ M 62 29 ∧ M 62 29 ≤ 12 ∧ (¬ (0 ≤ w ∧ w ≤ 9) → Q (some (vi (-1))) (tz M)) ∧ ((0 ≤ w ∧ w ≤ 9) → ∀ M', kpI (tz M) M' 3 (M 62 10) 0 0 0 → Q (some (vi (M 62 10))) (mm_up M' 62 10 w))
  | _ => False
set_option maxHeartbeats 4000000 in
set_option maxRecDepth 100000 in
theorem p_M_weight : ∀ as M Q, (∀ v ∈ as, mm_vin v) → mm_mem M → t_M_weight as M Q → (mm_ent as).length ≤ 3 ∧ mm_ok mb_M_weight [(1102, t_M_within), (1125, t_M_keeps)] (mm_entry 3 as) M Q := by
  intro as M Q hin hM h
  unfold t_M_weight at h
  split at h
  rotate_left
  · exact h.elim
  rename_i o w
  have hR_w : mm_R w := hin (vi w) (by simp)
  refine ⟨by simp [mm_ent], (show mm_ok mb_M_weight [(1102, t_M_within), (1125, t_M_keeps)] [some (vr o), some (vi w), none] M Q from ?_)⟩
  intro J hJ
  obtain ⟨rfl, b0, b1, hN, hY⟩ := h
  have e3 : ∀ j, j ≠ 0 → mm_up M 62 0 0 62 j = M 62 j := fun j hj => mm_up_i _ hj
  have e10 : mm_up M 62 0 0 62 10 = M 62 10 := mm_up_i _ (by decide)
  unfold tz at hN hY
  have h19 : (0 ≤ w ∧ w ≤ 9) → J 19 [some (vr 62), some (vi w), none] [] (mm_up M 62 0 0) := by
    intro hc
    refine hJ 19 _ _ _ (show mm_wp _ _ _ mo_M_weight_19 _ _ _ from ?_)
    simp only [mo_M_weight_19, mm_wp, mm_ldi, mm_lda, mm_ldl, mm_sti, mm_sta, mm_stl, mm_inc, mm_2i, mm_mm, mm_2l, mm_lcmp, mm_i2l, mm_l2i, mm_cast8, mm_if1, mm_if2, mm_cmp, mm_swi, mm_sw, mm_pop1, mm_dup, mm_dup2, mm_geti, mm_geta, mm_puti, mm_iald, mm_bald, mm_aald, mm_iast, mm_bast, mm_alen, mm_acpy, mm_call, mm_callv, mm_recv, mm_pop, mm_find, mm_push, mm_cats, mm_cat, mm_reti, mm_retz, mm_retl, mm_reta, mm_retv, mm_set1, mm_set2, mm_kill, List.getElem?_cons_zero, List.getElem?_cons_succ, Int.reduceToNat, ↓reduceIte, Nat.reduceEqDiff, Nat.reduceDiv, Nat.reduceAdd, Nat.reduceLeDiff, Nat.zero_le, true_and, and_true, true_or, or_true, mm_b0, mm_b1, mm_lc_lt, mm_lc_le, mm_lc_gt, mm_lc_ge, mm_lc_eq, Int.not_lt, Int.not_le, Decidable.not_not, Int.sub_neg, c_0, c_1, c_2, l_2, c_3, c_4, l_4, c_5, l_5, c_6, l_6, c_7, l_7, c_8, c_9, l_9, c_10, l_10, c_11, l_11, c_12, l_12, c_13, c_14, l_14, c_15, l_15, c_16, l_16, c_17, l_17, c_18, c_19, l_19, c_20, l_20, c_21, l_21, c_22, l_22, c_23, c_24, l_24, c_25, l_25, c_26, c_27, c_28, l_28, c_29, c_30, l_30, c_31, c_32, l_32, c_33, l_33, c_34, l_34, c_35, l_35, c_36, l_36, c_37, l_37, c_38, l_38, c_39, l_39, c_40, c_41, l_41, c_42, c_43, c_44, l_44, c_45, c_46, l_46, c_47, c_48, l_48, c_49, l_49, c_50, l_50, c_51, l_51, c_52, l_52, c_53, l_53, c_54, l_54, c_55, l_55, c_56, l_56, c_57, l_57, c_58, l_58, c_59, l_59, c_60, l_60, c_61, l_61, c_62, c_63, l_63, c_64, l_64, c_65, l_65, c_66, l_66, c_67, l_67, c_68, l_68, c_69, l_69, c_70, l_70, c_71, l_71, c_72, l_72, c_73, l_73, c_74, l_74, c_75, l_75, c_76, l_76, t_M_keeps, e10]
    rw [e3 29 (by decide)]
    exact ⟨by omega, by omega, fun M' hk => hY hc M' hk⟩
  refine hJ 0 _ _ _ (show mm_wp _ _ _ mo_M_weight_0 _ _ _ from ?_)
  simp only [mo_M_weight_0, mm_wp, mm_ldi, mm_lda, mm_ldl, mm_sti, mm_sta, mm_stl, mm_inc, mm_2i, mm_mm, mm_2l, mm_lcmp, mm_i2l, mm_l2i, mm_cast8, mm_if1, mm_if2, mm_cmp, mm_swi, mm_sw, mm_pop1, mm_dup, mm_dup2, mm_geti, mm_geta, mm_puti, mm_iald, mm_bald, mm_aald, mm_iast, mm_bast, mm_alen, mm_acpy, mm_call, mm_callv, mm_recv, mm_pop, mm_find, mm_push, mm_cats, mm_cat, mm_reti, mm_retz, mm_retl, mm_reta, mm_retv, mm_set1, mm_set2, mm_kill, List.getElem?_cons_zero, List.getElem?_cons_succ, Int.reduceToNat, ↓reduceIte, Nat.reduceEqDiff, Nat.reduceDiv, Nat.reduceAdd, Nat.reduceLeDiff, Nat.zero_le, true_and, and_true, true_or, or_true, mm_b0, mm_b1, mm_lc_lt, mm_lc_le, mm_lc_gt, mm_lc_ge, mm_lc_eq, Int.not_lt, Int.not_le, Decidable.not_not, Int.sub_neg, c_0, c_1, c_2, l_2, c_3, c_4, l_4, c_5, l_5, c_6, l_6, c_7, l_7, c_8, c_9, l_9, c_10, l_10, c_11, l_11, c_12, l_12, c_13, c_14, l_14, c_15, l_15, c_16, l_16, c_17, l_17, c_18, c_19, l_19, c_20, l_20, c_21, l_21, c_22, l_22, c_23, c_24, l_24, c_25, l_25, c_26, c_27, c_28, l_28, c_29, c_30, l_30, c_31, c_32, l_32, c_33, l_33, c_34, l_34, c_35, l_35, c_36, l_36, c_37, l_37, c_38, l_38, c_39, l_39, c_40, c_41, l_41, c_42, c_43, c_44, l_44, c_45, c_46, l_46, c_47, c_48, l_48, c_49, l_49, c_50, l_50, c_51, l_51, c_52, l_52, c_53, l_53, c_54, l_54, c_55, l_55, c_56, l_56, c_57, l_57, c_58, l_58, c_59, l_59, c_60, l_60, c_61, l_61, c_62, c_63, l_63, c_64, l_64, c_65, l_65, c_66, l_66, c_67, l_67, c_68, l_68, c_69, l_69, c_70, l_70, c_71, l_71, c_72, l_72, c_73, l_73, c_74, l_74, c_75, l_75, c_76, l_76, t_M_within]
  exact ⟨fun z => h19 z, fun z => hN z⟩
def t_M_set : mmT := fun as M Q => match as with
  | [.inr (.inr o), .inl p, .inl b] => o = 62 ∧ 0 ≤ M 62 29 ∧ M 62 29 ≤ 12 ∧ 0 ≤ M 62 11 ∧ M 62 11 ≤ 2 ∧ 1 ≤ M 62 12 ∧ M 62 12 ≤ 60 ∧ (¬ (0 ≤ p ∧ p < 3 ∧ 1 ≤ b ∧ b ≤ 60) → Q (some (vi (-1))) (tz M)) ∧ ((0 ≤ p ∧ p < 3 ∧ 1 ≤ b ∧ b ≤ 60) → ∀ M', kpI (tz M) M' 4 (M 62 11) (M 62 12) 0 0 → Q (some (vi (100 * M 62 11 + M 62 12))) (mm_up (mm_up M' 62 11 p) 62 12 b))
  | _ => False
set_option maxHeartbeats 4000000 in
set_option maxRecDepth 100000 in
theorem p_M_set : ∀ as M Q, (∀ v ∈ as, mm_vin v) → mm_mem M → t_M_set as M Q → (mm_ent as).length ≤ 4 ∧ mm_ok mb_M_set [(1135, t_M_isPlan), (1125, t_M_keeps)] (mm_entry 4 as) M Q := by
  intro as M Q hin hM h
  unfold t_M_set at h
  split at h
  rotate_left
  · exact h.elim
  rename_i o p b
  have hR_p : mm_R p := hin (vi p) (by simp)
  have hR_b : mm_R b := hin (vi b) (by simp)
  refine ⟨by simp [mm_ent], (show mm_ok mb_M_set [(1135, t_M_isPlan), (1125, t_M_keeps)] [some (vr o), some (vi p), some (vi b), none] M Q from ?_)⟩
  intro J hJ
  obtain ⟨rfl, b0, b1, o1, o2, o3, o4, hN, hY⟩ := h
  have e3 : ∀ j, j ≠ 0 → mm_up M 62 0 0 62 j = M 62 j := fun j hj => mm_up_i _ hj
  have e11 : mm_up M 62 0 0 62 11 = M 62 11 := mm_up_i _ (by decide)
  have e12 : mm_up M 62 0 0 62 12 = M 62 12 := mm_up_i _ (by decide)
  unfold tz at hN hY
  have h15 : (0 ≤ p ∧ p < 3 ∧ 1 ≤ b ∧ b ≤ 60) → J 15 [some (vr 62), some (vi p), some (vi b), none] [] (mm_up M 62 0 0) := by
    intro hc
    refine hJ 15 _ _ _ (show mm_wp _ _ _ mo_M_set_15 _ _ _ from ?_)
    simp only [mo_M_set_15, mm_wp, mm_ldi, mm_lda, mm_ldl, mm_sti, mm_sta, mm_stl, mm_inc, mm_2i, mm_mm, mm_2l, mm_lcmp, mm_i2l, mm_l2i, mm_cast8, mm_if1, mm_if2, mm_cmp, mm_swi, mm_sw, mm_pop1, mm_dup, mm_dup2, mm_geti, mm_geta, mm_puti, mm_iald, mm_bald, mm_aald, mm_iast, mm_bast, mm_alen, mm_acpy, mm_call, mm_callv, mm_recv, mm_pop, mm_find, mm_push, mm_cats, mm_cat, mm_reti, mm_retz, mm_retl, mm_reta, mm_retv, mm_set1, mm_set2, mm_kill, List.getElem?_cons_zero, List.getElem?_cons_succ, Int.reduceToNat, ↓reduceIte, Nat.reduceEqDiff, Nat.reduceDiv, Nat.reduceAdd, Nat.reduceLeDiff, Nat.zero_le, true_and, and_true, true_or, or_true, mm_b0, mm_b1, mm_lc_lt, mm_lc_le, mm_lc_gt, mm_lc_ge, mm_lc_eq, Int.not_lt, Int.not_le, Decidable.not_not, Int.sub_neg, c_0, c_1, c_2, l_2, c_3, c_4, l_4, c_5, l_5, c_6, l_6, c_7, l_7, c_8, c_9, l_9, c_10, l_10, c_11, l_11, c_12, l_12, c_13, c_14, l_14, c_15, l_15, c_16, l_16, c_17, l_17, c_18, c_19, l_19, c_20, l_20, c_21, l_21, c_22, l_22, c_23, c_24, l_24, c_25, l_25, c_26, c_27, c_28, l_28, c_29, c_30, l_30, c_31, c_32, l_32, c_33, l_33, c_34, l_34, c_35, l_35, c_36, l_36, c_37, l_37, c_38, l_38, c_39, l_39, c_40, c_41, l_41, c_42, c_43, c_44, l_44, c_45, c_46, l_46, c_47, c_48, l_48, c_49, l_49, c_50, l_50, c_51, l_51, c_52, l_52, c_53, l_53, c_54, l_54, c_55, l_55, c_56, l_56, c_57, l_57, c_58, l_58, c_59, l_59, c_60, l_60, c_61, l_61, c_62, c_63, l_63, c_64, l_64, c_65, l_65, c_66, l_66, c_67, l_67, c_68, l_68, c_69, l_69, c_70, l_70, c_71, l_71, c_72, l_72, c_73, l_73, c_74, l_74, c_75, l_75, c_76, l_76, t_M_keeps, e11, e12]
    rw [e3 29 (by decide)]
    exact ⟨by omega, by omega, by omega, by omega, fun M' hk => hY hc M' hk⟩
  refine hJ 0 _ _ _ (show mm_wp _ _ _ mo_M_set_0 _ _ _ from ?_)
  simp only [mo_M_set_0, mm_wp, mm_ldi, mm_lda, mm_ldl, mm_sti, mm_sta, mm_stl, mm_inc, mm_2i, mm_mm, mm_2l, mm_lcmp, mm_i2l, mm_l2i, mm_cast8, mm_if1, mm_if2, mm_cmp, mm_swi, mm_sw, mm_pop1, mm_dup, mm_dup2, mm_geti, mm_geta, mm_puti, mm_iald, mm_bald, mm_aald, mm_iast, mm_bast, mm_alen, mm_acpy, mm_call, mm_callv, mm_recv, mm_pop, mm_find, mm_push, mm_cats, mm_cat, mm_reti, mm_retz, mm_retl, mm_reta, mm_retv, mm_set1, mm_set2, mm_kill, List.getElem?_cons_zero, List.getElem?_cons_succ, Int.reduceToNat, ↓reduceIte, Nat.reduceEqDiff, Nat.reduceDiv, Nat.reduceAdd, Nat.reduceLeDiff, Nat.zero_le, true_and, and_true, true_or, or_true, mm_b0, mm_b1, mm_lc_lt, mm_lc_le, mm_lc_gt, mm_lc_ge, mm_lc_eq, Int.not_lt, Int.not_le, Decidable.not_not, Int.sub_neg, c_0, c_1, c_2, l_2, c_3, c_4, l_4, c_5, l_5, c_6, l_6, c_7, l_7, c_8, c_9, l_9, c_10, l_10, c_11, l_11, c_12, l_12, c_13, c_14, l_14, c_15, l_15, c_16, l_16, c_17, l_17, c_18, c_19, l_19, c_20, l_20, c_21, l_21, c_22, l_22, c_23, c_24, l_24, c_25, l_25, c_26, c_27, c_28, l_28, c_29, c_30, l_30, c_31, c_32, l_32, c_33, l_33, c_34, l_34, c_35, l_35, c_36, l_36, c_37, l_37, c_38, l_38, c_39, l_39, c_40, c_41, l_41, c_42, c_43, c_44, l_44, c_45, c_46, l_46, c_47, c_48, l_48, c_49, l_49, c_50, l_50, c_51, l_51, c_52, l_52, c_53, l_53, c_54, l_54, c_55, l_55, c_56, l_56, c_57, l_57, c_58, l_58, c_59, l_59, c_60, l_60, c_61, l_61, c_62, c_63, l_63, c_64, l_64, c_65, l_65, c_66, l_66, c_67, l_67, c_68, l_68, c_69, l_69, c_70, l_70, c_71, l_71, c_72, l_72, c_73, l_73, c_74, l_74, c_75, l_75, c_76, l_76, t_M_isPlan]
  exact ⟨fun z => h15 z, fun z => hN z⟩
/-- memory behind back, the last act n taken -/
def bkT (M : mmM) : mmM := mm_up (tz M) 62 29 (M 62 29 - 1)
def t_M_back : mmT := fun as M Q => match as with
  | [.inr (.inr o)] => o = 62 ∧ 0 ≤ M 62 29 ∧ M 62 29 ≤ 12 ∧ 0 ≤ M 62 5 ∧ M 62 5 ≤ 32 ∧ 0 ≤ M 62 41 ∧ M 62 41 ≤ 32 ∧ 0 ≤ M 62 44 ∧ M 62 44 ≤ 10000000 ∧ 0 ≤ M 62 8 ∧ M 62 8 ≤ 24 ∧ (M 62 29 = 0 → Q (some (vi 0)) (tz M)) ∧ (0 < M 62 29 → (M 72 (5 * (M 62 29 - 1)) = 0 → Q (some (vi 1)) (mm_up (if M 62 41 = M 62 5 then mm_up (mm_up (bkT M) 62 41 (M 62 41 - 1)) 62 44 (M 62 44 + 1) else bkT M) 62 5 (M 62 5 - 1))) ∧ (M 72 (5 * (M 62 29 - 1)) = 1 → Q (some (vi 1)) (mm_up (bkT M) 62 8 (M 62 8 - 1))) ∧ (M 72 (5 * (M 62 29 - 1)) = 2 → Q (some (vi 1)) (asM (bkT M) (M 72 (5 * (M 62 29 - 1) + 1)) (M 72 (5 * (M 62 29 - 1) + 2)) (M 72 (5 * (M 62 29 - 1) + 3)) (M 72 (5 * (M 62 29 - 1) + 4)))) ∧ (M 72 (5 * (M 62 29 - 1)) = 3 → Q (some (vi 1)) (mm_up (bkT M) 62 10 (M 72 (5 * (M 62 29 - 1) + 1)))) ∧ (M 72 (5 * (M 62 29 - 1)) = 4 → Q (some (vi 1)) (mm_up (mm_up (bkT M) 62 11 (M 72 (5 * (M 62 29 - 1) + 1))) 62 12 (M 72 (5 * (M 62 29 - 1) + 2)))) ∧ ((M 72 (5 * (M 62 29 - 1)) < 0 ∨ 4 < M 72 (5 * (M 62 29 - 1))) → 0 ≤ M 72 (5 * (M 62 29 - 1) + 1) ∧ M 72 (5 * (M 62 29 - 1) + 1) < 60 ∧ Q (some (vi 1)) (mm_up (bkT M) 64 (M 72 (5 * (M 62 29 - 1) + 1)) (M 72 (5 * (M 62 29 - 1) + 2)))))
  | _ => False
set_option maxHeartbeats 4000000 in
set_option maxRecDepth 100000 in
theorem p_M_back : ∀ as M Q, (∀ v ∈ as, mm_vin v) → mm_mem M → t_M_back as M Q → (mm_ent as).length ≤ 2 ∧ mm_ok mb_M_back [(1131, t_M_asks)] (mm_entry 2 as) M Q := by
  intro as M Q hin hM h
  unfold t_M_back at h
  split at h
  rotate_left
  · exact h.elim
  rename_i o
  refine ⟨by simp [mm_ent], (show mm_ok mb_M_back [(1131, t_M_asks)] [some (vr o), none] M Q from ?_)⟩
  intro J hJ
  obtain ⟨rfl, b0, b1, m5, m6, w0, w1, u0, u1, q0, q1, hN, hY⟩ := h
  have e29 : mm_up M 62 0 0 62 29 = M 62 29 := mm_up_i _ (by decide)
  have h14 : 0 < M 62 29 → J 14 [some (vr 62), none] [] (mm_up M 62 0 0) := by
    intro hc
    obtain ⟨y0, y1, y2, y3, y4, y5⟩ := hY hc
    have f72 : bkT M 72 = M 72 := by unfold bkT tz; rw [mm_up_o _ _ (by decide), mm_up_o _ _ (by decide)]
    have f62 : ∀ j, j ≠ 0 → j ≠ 29 → bkT M 62 j = M 62 j := fun j h1 h2 => by unfold bkT tz; rw [mm_up_i _ h2, mm_up_i _ h1]
    have f5 := f62 5 (by decide) (by decide)
    have f8 := f62 8 (by decide) (by decide)
    have f41 := f62 41 (by decide) (by decide)
    have f44 := f62 44 (by decide) (by decide)
    have f29 : mm_up (mm_up M 62 0 0) 62 29 (M 62 29 - 1) 62 29 = M 62 29 - 1 := mm_up_s _ _ _ _
    have eB : mm_up (mm_up M 62 0 0) 62 29 (M 62 29 - 1) = bkT M := rfl
    rw [eB] at f29
    have h72 : M 72 (5 * (M 62 29 - 1)) = 0 → J 72 [some (vr 62), some (vi (5 * (M 62 29 - 1)))] [] (bkT M) := by
      intro ha
      have y0 := y0 ha
      have h103 : ∀ M1 : mmM, M1 62 5 = M 62 5 → Q (some (vi 1)) (mm_up M1 62 5 (M 62 5 - 1)) → J 103 [some (vr 62), some (vi (5 * (M 62 29 - 1)))] [] M1 := by
        intro M1 e hq
        refine hJ 103 _ _ _ (show mm_wp _ _ _ mo_M_back_103 _ _ _ from ?_)
        simp only [mo_M_back_103, mm_wp, mm_ldi, mm_lda, mm_ldl, mm_sti, mm_sta, mm_stl, mm_inc, mm_2i, mm_mm, mm_2l, mm_lcmp, mm_i2l, mm_l2i, mm_cast8, mm_if1, mm_if2, mm_cmp, mm_swi, mm_sw, mm_pop1, mm_dup, mm_dup2, mm_geti, mm_geta, mm_puti, mm_iald, mm_bald, mm_aald, mm_iast, mm_bast, mm_alen, mm_acpy, mm_call, mm_callv, mm_recv, mm_pop, mm_find, mm_push, mm_cats, mm_cat, mm_reti, mm_retz, mm_retl, mm_reta, mm_retv, mm_set1, mm_set2, mm_kill, List.getElem?_cons_zero, List.getElem?_cons_succ, Int.reduceToNat, ↓reduceIte, Nat.reduceEqDiff, Nat.reduceDiv, Nat.reduceAdd, Nat.reduceLeDiff, Nat.zero_le, true_and, and_true, true_or, or_true, mm_b0, mm_b1, mm_lc_lt, mm_lc_le, mm_lc_gt, mm_lc_ge, mm_lc_eq, Int.not_lt, Int.not_le, Decidable.not_not, Int.sub_neg, c_0, c_1, c_2, l_2, c_3, c_4, l_4, c_5, l_5, c_6, l_6, c_7, l_7, c_8, c_9, l_9, c_10, l_10, c_11, l_11, c_12, l_12, c_13, c_14, l_14, c_15, l_15, c_16, l_16, c_17, l_17, c_18, c_19, l_19, c_20, l_20, c_21, l_21, c_22, l_22, c_23, c_24, l_24, c_25, l_25, c_26, c_27, c_28, l_28, c_29, c_30, l_30, c_31, c_32, l_32, c_33, l_33, c_34, l_34, c_35, l_35, c_36, l_36, c_37, l_37, c_38, l_38, c_39, l_39, c_40, c_41, l_41, c_42, c_43, c_44, l_44, c_45, c_46, l_46, c_47, c_48, l_48, c_49, l_49, c_50, l_50, c_51, l_51, c_52, l_52, c_53, l_53, c_54, l_54, c_55, l_55, c_56, l_56, c_57, l_57, c_58, l_58, c_59, l_59, c_60, l_60, c_61, l_61, c_62, c_63, l_63, c_64, l_64, c_65, l_65, c_66, l_66, c_67, l_67, c_68, l_68, c_69, l_69, c_70, l_70, c_71, l_71, c_72, l_72, c_73, l_73, c_74, l_74, c_75, l_75, c_76, l_76, e]
        exact ⟨by omega, hq⟩
      refine hJ 72 _ _ _ (show mm_wp _ _ _ mo_M_back_72 _ _ _ from ?_)
      simp only [mo_M_back_72, mm_wp, mm_ldi, mm_lda, mm_ldl, mm_sti, mm_sta, mm_stl, mm_inc, mm_2i, mm_mm, mm_2l, mm_lcmp, mm_i2l, mm_l2i, mm_cast8, mm_if1, mm_if2, mm_cmp, mm_swi, mm_sw, mm_pop1, mm_dup, mm_dup2, mm_geti, mm_geta, mm_puti, mm_iald, mm_bald, mm_aald, mm_iast, mm_bast, mm_alen, mm_acpy, mm_call, mm_callv, mm_recv, mm_pop, mm_find, mm_push, mm_cats, mm_cat, mm_reti, mm_retz, mm_retl, mm_reta, mm_retv, mm_set1, mm_set2, mm_kill, List.getElem?_cons_zero, List.getElem?_cons_succ, Int.reduceToNat, ↓reduceIte, Nat.reduceEqDiff, Nat.reduceDiv, Nat.reduceAdd, Nat.reduceLeDiff, Nat.zero_le, true_and, and_true, true_or, or_true, mm_b0, mm_b1, mm_lc_lt, mm_lc_le, mm_lc_gt, mm_lc_ge, mm_lc_eq, Int.not_lt, Int.not_le, Decidable.not_not, Int.sub_neg, c_0, c_1, c_2, l_2, c_3, c_4, l_4, c_5, l_5, c_6, l_6, c_7, l_7, c_8, c_9, l_9, c_10, l_10, c_11, l_11, c_12, l_12, c_13, c_14, l_14, c_15, l_15, c_16, l_16, c_17, l_17, c_18, c_19, l_19, c_20, l_20, c_21, l_21, c_22, l_22, c_23, c_24, l_24, c_25, l_25, c_26, c_27, c_28, l_28, c_29, c_30, l_30, c_31, c_32, l_32, c_33, l_33, c_34, l_34, c_35, l_35, c_36, l_36, c_37, l_37, c_38, l_38, c_39, l_39, c_40, c_41, l_41, c_42, c_43, c_44, l_44, c_45, c_46, l_46, c_47, c_48, l_48, c_49, l_49, c_50, l_50, c_51, l_51, c_52, l_52, c_53, l_53, c_54, l_54, c_55, l_55, c_56, l_56, c_57, l_57, c_58, l_58, c_59, l_59, c_60, l_60, c_61, l_61, c_62, c_63, l_63, c_64, l_64, c_65, l_65, c_66, l_66, c_67, l_67, c_68, l_68, c_69, l_69, c_70, l_70, c_71, l_71, c_72, l_72, c_73, l_73, c_74, l_74, c_75, l_75, c_76, l_76, f41, f5, f44]
      refine ⟨fun z => h103 _ f5 ?_, fun z => ⟨by omega, ?_⟩⟩
      · rw [if_neg z] at y0
        exact y0
      · rw [if_pos z] at y0
        rw [mm_up_i _ (by decide), f44]
        exact ⟨by omega, h103 _ (by rw [mm_up_i _ (by decide), mm_up_i _ (by decide), f5]) y0⟩
    have h115 : M 72 (5 * (M 62 29 - 1)) = 1 → J 115 [some (vr 62), some (vi (5 * (M 62 29 - 1)))] [] (bkT M) := by
      intro ha
      refine hJ 115 _ _ _ (show mm_wp _ _ _ mo_M_back_115 _ _ _ from ?_)
      simp only [mo_M_back_115, mm_wp, mm_ldi, mm_lda, mm_ldl, mm_sti, mm_sta, mm_stl, mm_inc, mm_2i, mm_mm, mm_2l, mm_lcmp, mm_i2l, mm_l2i, mm_cast8, mm_if1, mm_if2, mm_cmp, mm_swi, mm_sw, mm_pop1, mm_dup, mm_dup2, mm_geti, mm_geta, mm_puti, mm_iald, mm_bald, mm_aald, mm_iast, mm_bast, mm_alen, mm_acpy, mm_call, mm_callv, mm_recv, mm_pop, mm_find, mm_push, mm_cats, mm_cat, mm_reti, mm_retz, mm_retl, mm_reta, mm_retv, mm_set1, mm_set2, mm_kill, List.getElem?_cons_zero, List.getElem?_cons_succ, Int.reduceToNat, ↓reduceIte, Nat.reduceEqDiff, Nat.reduceDiv, Nat.reduceAdd, Nat.reduceLeDiff, Nat.zero_le, true_and, and_true, true_or, or_true, mm_b0, mm_b1, mm_lc_lt, mm_lc_le, mm_lc_gt, mm_lc_ge, mm_lc_eq, Int.not_lt, Int.not_le, Decidable.not_not, Int.sub_neg, c_0, c_1, c_2, l_2, c_3, c_4, l_4, c_5, l_5, c_6, l_6, c_7, l_7, c_8, c_9, l_9, c_10, l_10, c_11, l_11, c_12, l_12, c_13, c_14, l_14, c_15, l_15, c_16, l_16, c_17, l_17, c_18, c_19, l_19, c_20, l_20, c_21, l_21, c_22, l_22, c_23, c_24, l_24, c_25, l_25, c_26, c_27, c_28, l_28, c_29, c_30, l_30, c_31, c_32, l_32, c_33, l_33, c_34, l_34, c_35, l_35, c_36, l_36, c_37, l_37, c_38, l_38, c_39, l_39, c_40, c_41, l_41, c_42, c_43, c_44, l_44, c_45, c_46, l_46, c_47, c_48, l_48, c_49, l_49, c_50, l_50, c_51, l_51, c_52, l_52, c_53, l_53, c_54, l_54, c_55, l_55, c_56, l_56, c_57, l_57, c_58, l_58, c_59, l_59, c_60, l_60, c_61, l_61, c_62, c_63, l_63, c_64, l_64, c_65, l_65, c_66, l_66, c_67, l_67, c_68, l_68, c_69, l_69, c_70, l_70, c_71, l_71, c_72, l_72, c_73, l_73, c_74, l_74, c_75, l_75, c_76, l_76, f8]
      exact ⟨by omega, y1 ha⟩
    have h127 : M 72 (5 * (M 62 29 - 1)) = 2 → J 127 [some (vr 62), some (vi (5 * (M 62 29 - 1)))] [] (bkT M) := by
      intro ha
      refine hJ 127 _ _ _ (show mm_wp _ _ _ mo_M_back_127 _ _ _ from ?_)
      simp only [mo_M_back_127, mm_wp, mm_ldi, mm_lda, mm_ldl, mm_sti, mm_sta, mm_stl, mm_inc, mm_2i, mm_mm, mm_2l, mm_lcmp, mm_i2l, mm_l2i, mm_cast8, mm_if1, mm_if2, mm_cmp, mm_swi, mm_sw, mm_pop1, mm_dup, mm_dup2, mm_geti, mm_geta, mm_puti, mm_iald, mm_bald, mm_aald, mm_iast, mm_bast, mm_alen, mm_acpy, mm_call, mm_callv, mm_recv, mm_pop, mm_find, mm_push, mm_cats, mm_cat, mm_reti, mm_retz, mm_retl, mm_reta, mm_retv, mm_set1, mm_set2, mm_kill, List.getElem?_cons_zero, List.getElem?_cons_succ, Int.reduceToNat, ↓reduceIte, Nat.reduceEqDiff, Nat.reduceDiv, Nat.reduceAdd, Nat.reduceLeDiff, Nat.zero_le, true_and, and_true, true_or, or_true, mm_b0, mm_b1, mm_lc_lt, mm_lc_le, mm_lc_gt, mm_lc_ge, mm_lc_eq, Int.not_lt, Int.not_le, Decidable.not_not, Int.sub_neg, c_0, c_1, c_2, l_2, c_3, c_4, l_4, c_5, l_5, c_6, l_6, c_7, l_7, c_8, c_9, l_9, c_10, l_10, c_11, l_11, c_12, l_12, c_13, c_14, l_14, c_15, l_15, c_16, l_16, c_17, l_17, c_18, c_19, l_19, c_20, l_20, c_21, l_21, c_22, l_22, c_23, c_24, l_24, c_25, l_25, c_26, c_27, c_28, l_28, c_29, c_30, l_30, c_31, c_32, l_32, c_33, l_33, c_34, l_34, c_35, l_35, c_36, l_36, c_37, l_37, c_38, l_38, c_39, l_39, c_40, c_41, l_41, c_42, c_43, c_44, l_44, c_45, c_46, l_46, c_47, c_48, l_48, c_49, l_49, c_50, l_50, c_51, l_51, c_52, l_52, c_53, l_53, c_54, l_54, c_55, l_55, c_56, l_56, c_57, l_57, c_58, l_58, c_59, l_59, c_60, l_60, c_61, l_61, c_62, c_63, l_63, c_64, l_64, c_65, l_65, c_66, l_66, c_67, l_67, c_68, l_68, c_69, l_69, c_70, l_70, c_71, l_71, c_72, l_72, c_73, l_73, c_74, l_74, c_75, l_75, c_76, l_76, f72, t_M_asks, f8]
      refine ⟨by omega, by omega, by omega, by omega, by omega, by omega, by omega, by omega, by omega, by omega, y2 ha⟩
    have h165 : M 72 (5 * (M 62 29 - 1)) = 3 → J 165 [some (vr 62), some (vi (5 * (M 62 29 - 1)))] [] (bkT M) := by
      intro ha
      refine hJ 165 _ _ _ (show mm_wp _ _ _ mo_M_back_165 _ _ _ from ?_)
      simp only [mo_M_back_165, mm_wp, mm_ldi, mm_lda, mm_ldl, mm_sti, mm_sta, mm_stl, mm_inc, mm_2i, mm_mm, mm_2l, mm_lcmp, mm_i2l, mm_l2i, mm_cast8, mm_if1, mm_if2, mm_cmp, mm_swi, mm_sw, mm_pop1, mm_dup, mm_dup2, mm_geti, mm_geta, mm_puti, mm_iald, mm_bald, mm_aald, mm_iast, mm_bast, mm_alen, mm_acpy, mm_call, mm_callv, mm_recv, mm_pop, mm_find, mm_push, mm_cats, mm_cat, mm_reti, mm_retz, mm_retl, mm_reta, mm_retv, mm_set1, mm_set2, mm_kill, List.getElem?_cons_zero, List.getElem?_cons_succ, Int.reduceToNat, ↓reduceIte, Nat.reduceEqDiff, Nat.reduceDiv, Nat.reduceAdd, Nat.reduceLeDiff, Nat.zero_le, true_and, and_true, true_or, or_true, mm_b0, mm_b1, mm_lc_lt, mm_lc_le, mm_lc_gt, mm_lc_ge, mm_lc_eq, Int.not_lt, Int.not_le, Decidable.not_not, Int.sub_neg, c_0, c_1, c_2, l_2, c_3, c_4, l_4, c_5, l_5, c_6, l_6, c_7, l_7, c_8, c_9, l_9, c_10, l_10, c_11, l_11, c_12, l_12, c_13, c_14, l_14, c_15, l_15, c_16, l_16, c_17, l_17, c_18, c_19, l_19, c_20, l_20, c_21, l_21, c_22, l_22, c_23, c_24, l_24, c_25, l_25, c_26, c_27, c_28, l_28, c_29, c_30, l_30, c_31, c_32, l_32, c_33, l_33, c_34, l_34, c_35, l_35, c_36, l_36, c_37, l_37, c_38, l_38, c_39, l_39, c_40, c_41, l_41, c_42, c_43, c_44, l_44, c_45, c_46, l_46, c_47, c_48, l_48, c_49, l_49, c_50, l_50, c_51, l_51, c_52, l_52, c_53, l_53, c_54, l_54, c_55, l_55, c_56, l_56, c_57, l_57, c_58, l_58, c_59, l_59, c_60, l_60, c_61, l_61, c_62, c_63, l_63, c_64, l_64, c_65, l_65, c_66, l_66, c_67, l_67, c_68, l_68, c_69, l_69, c_70, l_70, c_71, l_71, c_72, l_72, c_73, l_73, c_74, l_74, c_75, l_75, c_76, l_76, f72]
      refine ⟨by omega, by omega, y3 ha⟩
    have h179 : M 72 (5 * (M 62 29 - 1)) = 4 → J 179 [some (vr 62), some (vi (5 * (M 62 29 - 1)))] [] (bkT M) := by
      intro ha
      have f72u : ∀ v, mm_up (bkT M) 62 11 v 72 = M 72 := fun v => by rw [mm_up_o _ _ (by decide), f72]
      refine hJ 179 _ _ _ (show mm_wp _ _ _ mo_M_back_179 _ _ _ from ?_)
      simp only [mo_M_back_179, mm_wp, mm_ldi, mm_lda, mm_ldl, mm_sti, mm_sta, mm_stl, mm_inc, mm_2i, mm_mm, mm_2l, mm_lcmp, mm_i2l, mm_l2i, mm_cast8, mm_if1, mm_if2, mm_cmp, mm_swi, mm_sw, mm_pop1, mm_dup, mm_dup2, mm_geti, mm_geta, mm_puti, mm_iald, mm_bald, mm_aald, mm_iast, mm_bast, mm_alen, mm_acpy, mm_call, mm_callv, mm_recv, mm_pop, mm_find, mm_push, mm_cats, mm_cat, mm_reti, mm_retz, mm_retl, mm_reta, mm_retv, mm_set1, mm_set2, mm_kill, List.getElem?_cons_zero, List.getElem?_cons_succ, Int.reduceToNat, ↓reduceIte, Nat.reduceEqDiff, Nat.reduceDiv, Nat.reduceAdd, Nat.reduceLeDiff, Nat.zero_le, true_and, and_true, true_or, or_true, mm_b0, mm_b1, mm_lc_lt, mm_lc_le, mm_lc_gt, mm_lc_ge, mm_lc_eq, Int.not_lt, Int.not_le, Decidable.not_not, Int.sub_neg, c_0, c_1, c_2, l_2, c_3, c_4, l_4, c_5, l_5, c_6, l_6, c_7, l_7, c_8, c_9, l_9, c_10, l_10, c_11, l_11, c_12, l_12, c_13, c_14, l_14, c_15, l_15, c_16, l_16, c_17, l_17, c_18, c_19, l_19, c_20, l_20, c_21, l_21, c_22, l_22, c_23, c_24, l_24, c_25, l_25, c_26, c_27, c_28, l_28, c_29, c_30, l_30, c_31, c_32, l_32, c_33, l_33, c_34, l_34, c_35, l_35, c_36, l_36, c_37, l_37, c_38, l_38, c_39, l_39, c_40, c_41, l_41, c_42, c_43, c_44, l_44, c_45, c_46, l_46, c_47, c_48, l_48, c_49, l_49, c_50, l_50, c_51, l_51, c_52, l_52, c_53, l_53, c_54, l_54, c_55, l_55, c_56, l_56, c_57, l_57, c_58, l_58, c_59, l_59, c_60, l_60, c_61, l_61, c_62, c_63, l_63, c_64, l_64, c_65, l_65, c_66, l_66, c_67, l_67, c_68, l_68, c_69, l_69, c_70, l_70, c_71, l_71, c_72, l_72, c_73, l_73, c_74, l_74, c_75, l_75, c_76, l_76, f72, f72u]
      refine ⟨by omega, by omega, by omega, by omega, y4 ha⟩
    have h205 : (M 72 (5 * (M 62 29 - 1)) < 0 ∨ 4 < M 72 (5 * (M 62 29 - 1))) → J 205 [some (vr 62), some (vi (5 * (M 62 29 - 1)))] [] (bkT M) := by
      intro ha
      obtain ⟨y5, y6, y7⟩ := y5 ha
      refine hJ 205 _ _ _ (show mm_wp _ _ _ mo_M_back_205 _ _ _ from ?_)
      simp only [mo_M_back_205, mm_wp, mm_ldi, mm_lda, mm_ldl, mm_sti, mm_sta, mm_stl, mm_inc, mm_2i, mm_mm, mm_2l, mm_lcmp, mm_i2l, mm_l2i, mm_cast8, mm_if1, mm_if2, mm_cmp, mm_swi, mm_sw, mm_pop1, mm_dup, mm_dup2, mm_geti, mm_geta, mm_puti, mm_iald, mm_bald, mm_aald, mm_iast, mm_bast, mm_alen, mm_acpy, mm_call, mm_callv, mm_recv, mm_pop, mm_find, mm_push, mm_cats, mm_cat, mm_reti, mm_retz, mm_retl, mm_reta, mm_retv, mm_set1, mm_set2, mm_kill, List.getElem?_cons_zero, List.getElem?_cons_succ, Int.reduceToNat, ↓reduceIte, Nat.reduceEqDiff, Nat.reduceDiv, Nat.reduceAdd, Nat.reduceLeDiff, Nat.zero_le, true_and, and_true, true_or, or_true, mm_b0, mm_b1, mm_lc_lt, mm_lc_le, mm_lc_gt, mm_lc_ge, mm_lc_eq, Int.not_lt, Int.not_le, Decidable.not_not, Int.sub_neg, c_0, c_1, c_2, l_2, c_3, c_4, l_4, c_5, l_5, c_6, l_6, c_7, l_7, c_8, c_9, l_9, c_10, l_10, c_11, l_11, c_12, l_12, c_13, c_14, l_14, c_15, l_15, c_16, l_16, c_17, l_17, c_18, c_19, l_19, c_20, l_20, c_21, l_21, c_22, l_22, c_23, c_24, l_24, c_25, l_25, c_26, c_27, c_28, l_28, c_29, c_30, l_30, c_31, c_32, l_32, c_33, l_33, c_34, l_34, c_35, l_35, c_36, l_36, c_37, l_37, c_38, l_38, c_39, l_39, c_40, c_41, l_41, c_42, c_43, c_44, l_44, c_45, c_46, l_46, c_47, c_48, l_48, c_49, l_49, c_50, l_50, c_51, l_51, c_52, l_52, c_53, l_53, c_54, l_54, c_55, l_55, c_56, l_56, c_57, l_57, c_58, l_58, c_59, l_59, c_60, l_60, c_61, l_61, c_62, c_63, l_63, c_64, l_64, c_65, l_65, c_66, l_66, c_67, l_67, c_68, l_68, c_69, l_69, c_70, l_70, c_71, l_71, c_72, l_72, c_73, l_73, c_74, l_74, c_75, l_75, c_76, l_76, f72]
      refine ⟨by omega, by omega, by omega, by omega, by omega, y7⟩
    refine hJ 14 _ _ _ (show mm_wp _ _ _ mo_M_back_14 _ _ _ from ?_)
    simp only [mo_M_back_14, mm_wp, mm_ldi, mm_lda, mm_ldl, mm_sti, mm_sta, mm_stl, mm_inc, mm_2i, mm_mm, mm_2l, mm_lcmp, mm_i2l, mm_l2i, mm_cast8, mm_if1, mm_if2, mm_cmp, mm_swi, mm_sw, mm_pop1, mm_dup, mm_dup2, mm_geti, mm_geta, mm_puti, mm_iald, mm_bald, mm_aald, mm_iast, mm_bast, mm_alen, mm_acpy, mm_call, mm_callv, mm_recv, mm_pop, mm_find, mm_push, mm_cats, mm_cat, mm_reti, mm_retz, mm_retl, mm_reta, mm_retv, mm_set1, mm_set2, mm_kill, List.getElem?_cons_zero, List.getElem?_cons_succ, Int.reduceToNat, ↓reduceIte, Nat.reduceEqDiff, Nat.reduceDiv, Nat.reduceAdd, Nat.reduceLeDiff, Nat.zero_le, true_and, and_true, true_or, or_true, mm_b0, mm_b1, mm_lc_lt, mm_lc_le, mm_lc_gt, mm_lc_ge, mm_lc_eq, Int.not_lt, Int.not_le, Decidable.not_not, Int.sub_neg, c_0, c_1, c_2, l_2, c_3, c_4, l_4, c_5, l_5, c_6, l_6, c_7, l_7, c_8, c_9, l_9, c_10, l_10, c_11, l_11, c_12, l_12, c_13, c_14, l_14, c_15, l_15, c_16, l_16, c_17, l_17, c_18, c_19, l_19, c_20, l_20, c_21, l_21, c_22, l_22, c_23, c_24, l_24, c_25, l_25, c_26, c_27, c_28, l_28, c_29, c_30, l_30, c_31, c_32, l_32, c_33, l_33, c_34, l_34, c_35, l_35, c_36, l_36, c_37, l_37, c_38, l_38, c_39, l_39, c_40, c_41, l_41, c_42, c_43, c_44, l_44, c_45, c_46, l_46, c_47, c_48, l_48, c_49, l_49, c_50, l_50, c_51, l_51, c_52, l_52, c_53, l_53, c_54, l_54, c_55, l_55, c_56, l_56, c_57, l_57, c_58, l_58, c_59, l_59, c_60, l_60, c_61, l_61, c_62, c_63, l_63, c_64, l_64, c_65, l_65, c_66, l_66, c_67, l_67, c_68, l_68, c_69, l_69, c_70, l_70, c_71, l_71, c_72, l_72, c_73, l_73, c_74, l_74, c_75, l_75, c_76, l_76, e29, eB, f29, f72]
    refine ⟨by omega, by omega, by omega, fun z => h72 z, fun z0 => ⟨fun z => h115 z, fun z1 => ⟨fun z => h127 z, fun z2 => ⟨fun z => h165 z, fun z3 => ⟨fun z => h179 z, fun z4 => h205 (by omega)⟩⟩⟩⟩⟩
  refine hJ 0 _ _ _ (show mm_wp _ _ _ mo_M_back_0 _ _ _ from ?_)
  simp only [mo_M_back_0, mm_wp, mm_ldi, mm_lda, mm_ldl, mm_sti, mm_sta, mm_stl, mm_inc, mm_2i, mm_mm, mm_2l, mm_lcmp, mm_i2l, mm_l2i, mm_cast8, mm_if1, mm_if2, mm_cmp, mm_swi, mm_sw, mm_pop1, mm_dup, mm_dup2, mm_geti, mm_geta, mm_puti, mm_iald, mm_bald, mm_aald, mm_iast, mm_bast, mm_alen, mm_acpy, mm_call, mm_callv, mm_recv, mm_pop, mm_find, mm_push, mm_cats, mm_cat, mm_reti, mm_retz, mm_retl, mm_reta, mm_retv, mm_set1, mm_set2, mm_kill, List.getElem?_cons_zero, List.getElem?_cons_succ, Int.reduceToNat, ↓reduceIte, Nat.reduceEqDiff, Nat.reduceDiv, Nat.reduceAdd, Nat.reduceLeDiff, Nat.zero_le, true_and, and_true, true_or, or_true, mm_b0, mm_b1, mm_lc_lt, mm_lc_le, mm_lc_gt, mm_lc_ge, mm_lc_eq, Int.not_lt, Int.not_le, Decidable.not_not, Int.sub_neg, c_0, c_1, c_2, l_2, c_3, c_4, l_4, c_5, l_5, c_6, l_6, c_7, l_7, c_8, c_9, l_9, c_10, l_10, c_11, l_11, c_12, l_12, c_13, c_14, l_14, c_15, l_15, c_16, l_16, c_17, l_17, c_18, c_19, l_19, c_20, l_20, c_21, l_21, c_22, l_22, c_23, c_24, l_24, c_25, l_25, c_26, c_27, c_28, l_28, c_29, c_30, l_30, c_31, c_32, l_32, c_33, l_33, c_34, l_34, c_35, l_35, c_36, l_36, c_37, l_37, c_38, l_38, c_39, l_39, c_40, c_41, l_41, c_42, c_43, c_44, l_44, c_45, c_46, l_46, c_47, c_48, l_48, c_49, l_49, c_50, l_50, c_51, l_51, c_52, l_52, c_53, l_53, c_54, l_54, c_55, l_55, c_56, l_56, c_57, l_57, c_58, l_58, c_59, l_59, c_60, l_60, c_61, l_61, c_62, c_63, l_63, c_64, l_64, c_65, l_65, c_66, l_66, c_67, l_67, c_68, l_68, c_69, l_69, c_70, l_70, c_71, l_71, c_72, l_72, c_73, l_73, c_74, l_74, c_75, l_75, c_76, l_76, e29]
  exact ⟨fun z => h14 (by omega), fun z => hN z⟩
def t_M_home : mmT := fun as M Q => match as with
  | [.inr (.inr o)] => o = 62 ∧ (0 ≤ M 62 39 ∧ M 62 39 ≤ 60 ∧ -1 ≤ M 62 40 ∧ M 62 40 ≤ 60 ∧ 0 ≤ M 62 41 ∧ M 62 41 ≤ 32 ∧ 0 ≤ M 62 43 ∧ M 62 43 ≤ 10000000 ∧ 0 ≤ M 62 44 ∧ M 62 44 ≤ 10000000) ∧ ∀ M', (∀ o', o' ≠ 62 → M' o' = M o') → (∀ j, j ≠ 0 → j ≠ 39 → j ≠ 40 → j ≠ 41 → j ≠ 42 → j ≠ 43 → j ≠ 44 → M' 62 j = M 62 j) → M' 62 39 = 0 → M' 62 40 = -1 → M' 62 41 = 0 → M' 62 42 = 0 → M' 62 43 = M 62 43 + (M 62 40 - M 62 39 + 1 + 2 * M 62 39) → M' 62 44 = M 62 44 + M 62 41 → Q (some (vi (M 62 40 - M 62 39 + 1 + 2 * M 62 39 + M 62 41))) M'
  | _ => False
set_option maxHeartbeats 4000000 in
set_option maxRecDepth 100000 in
theorem p_M_home : ∀ as M Q, (∀ v ∈ as, mm_vin v) → mm_mem M → t_M_home as M Q → (mm_ent as).length ≤ 3 ∧ mm_ok mb_M_home [] (mm_entry 3 as) M Q := by
  intro as M Q hin hM h
  unfold t_M_home at h
  split at h
  rotate_left
  · exact h.elim
  rename_i o
  refine ⟨by simp [mm_ent], (show mm_ok mb_M_home [] [some (vr o), none, none] M Q from ?_)⟩
  intro J hJ
  obtain ⟨rfl, hb, h⟩ := h
  refine hJ 0 _ _ _ (show mm_wp _ _ _ mo_M_home_0 _ _ _ from ?_)
  simp only [mo_M_home_0, mm_wp, mm_ldi, mm_lda, mm_ldl, mm_sti, mm_sta, mm_stl, mm_inc, mm_2i, mm_mm, mm_2l, mm_lcmp, mm_i2l, mm_l2i, mm_cast8, mm_if1, mm_if2, mm_cmp, mm_swi, mm_sw, mm_pop1, mm_dup, mm_dup2, mm_geti, mm_geta, mm_puti, mm_iald, mm_bald, mm_aald, mm_iast, mm_bast, mm_alen, mm_acpy, mm_call, mm_callv, mm_recv, mm_pop, mm_find, mm_push, mm_cats, mm_cat, mm_reti, mm_retz, mm_retl, mm_reta, mm_retv, mm_set1, mm_set2, mm_kill, List.getElem?_cons_zero, List.getElem?_cons_succ, Int.reduceToNat, ↓reduceIte, Nat.reduceEqDiff, Nat.reduceDiv, Nat.reduceAdd, Nat.reduceLeDiff, Nat.zero_le, true_and, and_true, true_or, or_true, mm_b0, mm_b1, mm_lc_lt, mm_lc_le, mm_lc_gt, mm_lc_ge, mm_lc_eq, Int.not_lt, Int.not_le, Decidable.not_not, Int.sub_neg, c_0, c_1, c_2, l_2, c_3, c_4, l_4, c_5, l_5, c_6, l_6, c_7, l_7, c_8, c_9, l_9, c_10, l_10, c_11, l_11, c_12, l_12, c_13, c_14, l_14, c_15, l_15, c_16, l_16, c_17, l_17, c_18, c_19, l_19, c_20, l_20, c_21, l_21, c_22, l_22, c_23, c_24, l_24, c_25, l_25, c_26, c_27, c_28, l_28, c_29, c_30, l_30, c_31, c_32, l_32, c_33, l_33, c_34, l_34, c_35, l_35, c_36, l_36, c_37, l_37, c_38, l_38, c_39, l_39, c_40, c_41, l_41, c_42, c_43, c_44, l_44, c_45, c_46, l_46, c_47, c_48, l_48, c_49, l_49, c_50, l_50, c_51, l_51, c_52, l_52, c_53, l_53, c_54, l_54, c_55, l_55, c_56, l_56, c_57, l_57, c_58, l_58, c_59, l_59, c_60, l_60, c_61, l_61, c_62, c_63, l_63, c_64, l_64, c_65, l_65, c_66, l_66, c_67, l_67, c_68, l_68, c_69, l_69, c_70, l_70, c_71, l_71, c_72, l_72, c_73, l_73, c_74, l_74, c_75, l_75, c_76, l_76]
  simp only [mm_up_if, Int.reduceEq, ↓reduceIte]
  repeat (refine And.intro (by omega) ?_)
  refine h _ (fun o' c => ?_) (fun j j0 j1 j2 j3 j4 j5 j6 => ?_) ?_ ?_ ?_ ?_ ?_ ?_
  · simp only [mm_up_o _ _ c]
  · simp only [mm_up_i _ j0, mm_up_i _ j1, mm_up_i _ j2, mm_up_i _ j3, mm_up_i _ j4, mm_up_i _ j5, mm_up_i _ j6]
  all_goals simp [mm_up]
