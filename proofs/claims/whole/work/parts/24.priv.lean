/-! Acts, and the planner's own small methods -/
def acI (M : mmM) : Prop := 0 ≤ M 47 2 ∧ M 47 2 ≤ 12 ∧ 0 ≤ M 47 3 ∧ M 47 3 < 12
/-- memory with one more act -/
def aNote (M : mmM) (k a b c d : Int) : mmM := mm_up (mm_up (mm_up (mm_up (mm_up (mm_up (mm_up M 48 (M 47 3) k) (50 + (M 47 3).toNat) 0 a) (50 + (M 47 3).toNat) 1 b) (50 + (M 47 3).toNat) 2 c) (50 + (M 47 3).toNat) 3 d) 47 3 ((M 47 3 + 1) % 12)) 47 2 (min (M 47 2 + 1) 12)
theorem c50 : ∀ j : Nat, j < 12 → mm_cls (50 + j) = 100 ∧ mm_len (50 + j) = 4 := by decide +kernel
def t_Acts_note : mmT := fun as M Q => match as with
  | [.inr (.inr o), .inl k, .inl a, .inl b, .inl c, .inl d] => o = 47 ∧ acI M ∧ Q none (aNote M k a b c d)
  | _ => False
set_option maxHeartbeats 4000000 in
set_option maxRecDepth 100000 in
theorem p_Acts_note : ∀ as M Q, (∀ v ∈ as, mm_vin v) → mm_mem M → t_Acts_note as M Q → (mm_ent as).length ≤ 7 ∧ mm_ok mb_Acts_note [] (mm_entry 7 as) M Q := by
  intro as M Q hin hM h
  unfold t_Acts_note at h
  split at h
  rotate_left
  · exact h.elim
  rename_i o k a b c d
  have hR_k : mm_R k := hin (vi k) (by simp)
  have hR_a : mm_R a := hin (vi a) (by simp)
  have hR_b : mm_R b := hin (vi b) (by simp)
  have hR_c : mm_R c := hin (vi c) (by simp)
  have hR_d : mm_R d := hin (vi d) (by simp)
  refine ⟨by simp [mm_ent], (show mm_ok mb_Acts_note [] [some (vr o), some (vi k), some (vi a), some (vi b), some (vi c), some (vi d), none] M Q from ?_)⟩
  intro J hJ
  obtain ⟨rfl, ⟨h1, h2, h3, h4⟩, h⟩ := h
  unfold aNote at h
  have hc := c50 (M 47 3).toNat (by omega)
  have e : ∀ (M1 : mmM) (i v : Int), mm_up M1 (50 + (M 47 3).toNat) i v 47 = M1 47 := fun M1 i v => mm_up_o _ _ (by omega)
  have e1 : ∀ (M1 : mmM) (i v : Int), mm_up M1 48 i v 47 = M1 47 := fun M1 i v => mm_up_o _ _ (by omega)
  have e2 : ∀ (M1 : mmM) (v : Int), mm_up M1 47 3 v 47 2 = M1 47 2 := fun M1 v => mm_up_i _ (by omega)
  have e3 : (M 47 3 + 1).tmod 12 = (M 47 3 + 1) % 12 := Int.tmod_eq_emod_of_nonneg (by omega)
  refine hJ 0 _ _ _ (show mm_wp _ _ _ mo_Acts_note_0 _ _ _ from ?_)
  simp only [mo_Acts_note_0, mm_wp, mm_ldi, mm_lda, mm_ldl, mm_sti, mm_sta, mm_stl, mm_inc, mm_2i, mm_mm, mm_2l, mm_lcmp, mm_i2l, mm_l2i, mm_cast8, mm_if1, mm_if2, mm_cmp, mm_swi, mm_sw, mm_pop1, mm_dup, mm_dup2, mm_geti, mm_geta, mm_puti, mm_iald, mm_bald, mm_aald, mm_iast, mm_bast, mm_alen, mm_acpy, mm_call, mm_callv, mm_recv, mm_pop, mm_find, mm_push, mm_cats, mm_cat, mm_reti, mm_retz, mm_retl, mm_reta, mm_retv, mm_set1, mm_set2, mm_kill, List.getElem?_cons_zero, List.getElem?_cons_succ, Int.reduceToNat, ↓reduceIte, Nat.reduceEqDiff, Nat.reduceDiv, Nat.reduceAdd, Nat.reduceLeDiff, Nat.zero_le, true_and, and_true, true_or, or_true, mm_b0, mm_b1, mm_lc_lt, mm_lc_le, mm_lc_gt, mm_lc_ge, mm_lc_eq, Int.not_lt, Int.not_le, Decidable.not_not, Int.sub_neg, c_0, c_1, c_2, l_2, c_3, c_4, l_4, c_5, l_5, c_6, l_6, c_7, l_7, c_8, c_9, l_9, c_10, l_10, c_11, l_11, c_12, l_12, c_13, c_14, l_14, c_15, l_15, c_16, l_16, c_17, l_17, c_18, c_19, l_19, c_20, l_20, c_21, l_21, c_22, l_22, c_23, c_24, l_24, c_25, l_25, c_26, c_27, c_28, l_28, c_29, c_30, l_30, c_31, c_32, l_32, c_33, l_33, c_34, l_34, c_35, l_35, c_36, l_36, c_37, l_37, c_38, l_38, c_39, l_39, c_40, c_41, l_41, c_42, c_43, c_44, l_44, c_45, c_46, l_46, c_47, c_48, l_48, c_49, l_49, c_50, l_50, c_51, l_51, c_52, l_52, c_53, l_53, c_54, l_54, c_55, l_55, c_56, l_56, c_57, l_57, c_58, l_58, c_59, l_59, c_60, l_60, c_61, l_61, c_62, c_63, l_63, c_64, l_64, c_65, l_65, c_66, l_66, c_67, l_67, c_68, l_68, c_69, l_69, c_70, l_70, c_71, l_71, c_72, l_72, c_73, l_73, c_74, l_74, c_75, l_75, c_76, l_76, e, e1, e2, e3, hc.1, hc.2, Nat.reduceAdd]
  repeat (refine And.intro (by omega) ?_)
  exact h
def t_Acts_takeLast : mmT := fun as M Q => match as with
  | [.inr (.inr o)] => o = 47 ∧ acI M ∧ (M 47 2 = 0 → Q (some (vi (-1))) M) ∧ (0 < M 47 2 → Q (some (vi ((M 47 3 + 11) % 12))) (mm_up (mm_up M 47 2 (M 47 2 - 1)) 47 3 ((M 47 3 + 11) % 12)))
  | _ => False
set_option maxHeartbeats 4000000 in
set_option maxRecDepth 100000 in
theorem p_Acts_takeLast : ∀ as M Q, (∀ v ∈ as, mm_vin v) → mm_mem M → t_Acts_takeLast as M Q → (mm_ent as).length ≤ 1 ∧ mm_ok mb_Acts_takeLast [] (mm_entry 1 as) M Q := by
  intro as M Q hin hM h
  unfold t_Acts_takeLast at h
  split at h
  rotate_left
  · exact h.elim
  rename_i o
  refine ⟨by simp [mm_ent], (show mm_ok mb_Acts_takeLast [] [some (vr o)] M Q from ?_)⟩
  intro J hJ
  obtain ⟨rfl, ⟨h1, h2, h3, h4⟩, ha, hb⟩ := h
  have e1 : mm_up M 47 2 (M 47 2 - 1) 47 3 = M 47 3 := mm_up_i _ (by omega)
  have e3 : (M 47 3 + 12 - 1).tmod 12 = (M 47 3 + 11) % 12 := by rw [Int.tmod_eq_emod_of_nonneg (by omega)]; omega
  have h9 : 0 < M 47 2 → J 9 [some (vr 47)] [] M := by
    intro hz
    refine hJ 9 _ _ _ (show mm_wp _ _ _ mo_Acts_takeLast_9 _ _ _ from ?_)
    simp only [mo_Acts_takeLast_9, mm_wp, mm_ldi, mm_lda, mm_ldl, mm_sti, mm_sta, mm_stl, mm_inc, mm_2i, mm_mm, mm_2l, mm_lcmp, mm_i2l, mm_l2i, mm_cast8, mm_if1, mm_if2, mm_cmp, mm_swi, mm_sw, mm_pop1, mm_dup, mm_dup2, mm_geti, mm_geta, mm_puti, mm_iald, mm_bald, mm_aald, mm_iast, mm_bast, mm_alen, mm_acpy, mm_call, mm_callv, mm_recv, mm_pop, mm_find, mm_push, mm_cats, mm_cat, mm_reti, mm_retz, mm_retl, mm_reta, mm_retv, mm_set1, mm_set2, mm_kill, List.getElem?_cons_zero, List.getElem?_cons_succ, Int.reduceToNat, ↓reduceIte, Nat.reduceEqDiff, Nat.reduceDiv, Nat.reduceAdd, Nat.reduceLeDiff, Nat.zero_le, true_and, and_true, true_or, or_true, mm_b0, mm_b1, mm_lc_lt, mm_lc_le, mm_lc_gt, mm_lc_ge, mm_lc_eq, Int.not_lt, Int.not_le, Decidable.not_not, Int.sub_neg, c_0, c_1, c_2, l_2, c_3, c_4, l_4, c_5, l_5, c_6, l_6, c_7, l_7, c_8, c_9, l_9, c_10, l_10, c_11, l_11, c_12, l_12, c_13, c_14, l_14, c_15, l_15, c_16, l_16, c_17, l_17, c_18, c_19, l_19, c_20, l_20, c_21, l_21, c_22, l_22, c_23, c_24, l_24, c_25, l_25, c_26, c_27, c_28, l_28, c_29, c_30, l_30, c_31, c_32, l_32, c_33, l_33, c_34, l_34, c_35, l_35, c_36, l_36, c_37, l_37, c_38, l_38, c_39, l_39, c_40, c_41, l_41, c_42, c_43, c_44, l_44, c_45, c_46, l_46, c_47, c_48, l_48, c_49, l_49, c_50, l_50, c_51, l_51, c_52, l_52, c_53, l_53, c_54, l_54, c_55, l_55, c_56, l_56, c_57, l_57, c_58, l_58, c_59, l_59, c_60, l_60, c_61, l_61, c_62, c_63, l_63, c_64, l_64, c_65, l_65, c_66, l_66, c_67, l_67, c_68, l_68, c_69, l_69, c_70, l_70, c_71, l_71, c_72, l_72, c_73, l_73, c_74, l_74, c_75, l_75, c_76, l_76, e1, e3, mm_up_s]
    exact ⟨by omega, by omega, by omega, by omega, hb hz⟩
  refine hJ 0 _ _ _ (show mm_wp _ _ _ mo_Acts_takeLast_0 _ _ _ from ?_)
  simp only [mo_Acts_takeLast_0, mm_wp, mm_ldi, mm_lda, mm_ldl, mm_sti, mm_sta, mm_stl, mm_inc, mm_2i, mm_mm, mm_2l, mm_lcmp, mm_i2l, mm_l2i, mm_cast8, mm_if1, mm_if2, mm_cmp, mm_swi, mm_sw, mm_pop1, mm_dup, mm_dup2, mm_geti, mm_geta, mm_puti, mm_iald, mm_bald, mm_aald, mm_iast, mm_bast, mm_alen, mm_acpy, mm_call, mm_callv, mm_recv, mm_pop, mm_find, mm_push, mm_cats, mm_cat, mm_reti, mm_retz, mm_retl, mm_reta, mm_retv, mm_set1, mm_set2, mm_kill, List.getElem?_cons_zero, List.getElem?_cons_succ, Int.reduceToNat, ↓reduceIte, Nat.reduceEqDiff, Nat.reduceDiv, Nat.reduceAdd, Nat.reduceLeDiff, Nat.zero_le, true_and, and_true, true_or, or_true, mm_b0, mm_b1, mm_lc_lt, mm_lc_le, mm_lc_gt, mm_lc_ge, mm_lc_eq, Int.not_lt, Int.not_le, Decidable.not_not, Int.sub_neg, c_0, c_1, c_2, l_2, c_3, c_4, l_4, c_5, l_5, c_6, l_6, c_7, l_7, c_8, c_9, l_9, c_10, l_10, c_11, l_11, c_12, l_12, c_13, c_14, l_14, c_15, l_15, c_16, l_16, c_17, l_17, c_18, c_19, l_19, c_20, l_20, c_21, l_21, c_22, l_22, c_23, c_24, l_24, c_25, l_25, c_26, c_27, c_28, l_28, c_29, c_30, l_30, c_31, c_32, l_32, c_33, l_33, c_34, l_34, c_35, l_35, c_36, l_36, c_37, l_37, c_38, l_38, c_39, l_39, c_40, c_41, l_41, c_42, c_43, c_44, l_44, c_45, c_46, l_46, c_47, c_48, l_48, c_49, l_49, c_50, l_50, c_51, l_51, c_52, l_52, c_53, l_53, c_54, l_54, c_55, l_55, c_56, l_56, c_57, l_57, c_58, l_58, c_59, l_59, c_60, l_60, c_61, l_61, c_62, c_63, l_63, c_64, l_64, c_65, l_65, c_66, l_66, c_67, l_67, c_68, l_68, c_69, l_69, c_70, l_70, c_71, l_71, c_72, l_72, c_73, l_73, c_74, l_74, c_75, l_75, c_76, l_76]
  exact ⟨fun z => h9 (by omega), fun z => ha z⟩
def t_P_isKind : mmT := fun as M Q => match as with
  | [.inl k] => Q (some (vi (mm_b (0 ≤ k ∧ k < 8)))) M
  | _ => False
set_option maxHeartbeats 4000000 in
set_option maxRecDepth 100000 in
theorem p_P_isKind : ∀ as M Q, (∀ v ∈ as, mm_vin v) → mm_mem M → t_P_isKind as M Q → (mm_ent as).length ≤ 1 ∧ mm_ok mb_P_isKind [] (mm_entry 1 as) M Q := by
  intro as M Q hin hM h
  unfold t_P_isKind at h
  split at h
  rotate_left
  · exact h.elim
  rename_i k
  have hR_k : mm_R k := hin (vi k) (by simp)
  refine ⟨by simp [mm_ent], (show mm_ok mb_P_isKind [] [some (vi k)] M Q from ?_)⟩
  intro J hJ
  repeat' first | (refine And.intro ?_ ?_) | (intro _) | (refine hJ 0 _ _ _ ?_; show mm_wp _ _ _ mo_P_isKind_0 _ _ _; simp only [mo_P_isKind_0, mm_wp, mm_ldi, mm_lda, mm_ldl, mm_sti, mm_sta, mm_stl, mm_inc, mm_2i, mm_mm, mm_2l, mm_lcmp, mm_i2l, mm_l2i, mm_cast8, mm_if1, mm_if2, mm_cmp, mm_swi, mm_sw, mm_pop1, mm_dup, mm_dup2, mm_geti, mm_geta, mm_puti, mm_iald, mm_bald, mm_aald, mm_iast, mm_bast, mm_alen, mm_acpy, mm_call, mm_callv, mm_recv, mm_pop, mm_find, mm_push, mm_cats, mm_cat, mm_reti, mm_retz, mm_retl, mm_reta, mm_retv, mm_set1, mm_set2, mm_kill, List.getElem?_cons_zero, List.getElem?_cons_succ, Int.reduceToNat, ↓reduceIte, Nat.reduceEqDiff, Nat.reduceDiv, Nat.reduceAdd, Nat.reduceLeDiff, Nat.zero_le, true_and, and_true, true_or, or_true, mm_b0, mm_b1, mm_lc_lt, mm_lc_le, mm_lc_gt, mm_lc_ge, mm_lc_eq, Int.not_lt, Int.not_le, Decidable.not_not, Int.sub_neg]) | (refine hJ 14 _ _ _ ?_; show mm_wp _ _ _ mo_P_isKind_14 _ _ _; simp only [mo_P_isKind_14, mm_wp, mm_ldi, mm_lda, mm_ldl, mm_sti, mm_sta, mm_stl, mm_inc, mm_2i, mm_mm, mm_2l, mm_lcmp, mm_i2l, mm_l2i, mm_cast8, mm_if1, mm_if2, mm_cmp, mm_swi, mm_sw, mm_pop1, mm_dup, mm_dup2, mm_geti, mm_geta, mm_puti, mm_iald, mm_bald, mm_aald, mm_iast, mm_bast, mm_alen, mm_acpy, mm_call, mm_callv, mm_recv, mm_pop, mm_find, mm_push, mm_cats, mm_cat, mm_reti, mm_retz, mm_retl, mm_reta, mm_retv, mm_set1, mm_set2, mm_kill, List.getElem?_cons_zero, List.getElem?_cons_succ, Int.reduceToNat, ↓reduceIte, Nat.reduceEqDiff, Nat.reduceDiv, Nat.reduceAdd, Nat.reduceLeDiff, Nat.zero_le, true_and, and_true, true_or, or_true, mm_b0, mm_b1, mm_lc_lt, mm_lc_le, mm_lc_gt, mm_lc_ge, mm_lc_eq, Int.not_lt, Int.not_le, Decidable.not_not, Int.sub_neg]) | (refine hJ 15 _ _ _ ?_; show mm_wp _ _ _ mo_P_isKind_15 _ _ _; simp only [mo_P_isKind_15, mm_wp, mm_ldi, mm_lda, mm_ldl, mm_sti, mm_sta, mm_stl, mm_inc, mm_2i, mm_mm, mm_2l, mm_lcmp, mm_i2l, mm_l2i, mm_cast8, mm_if1, mm_if2, mm_cmp, mm_swi, mm_sw, mm_pop1, mm_dup, mm_dup2, mm_geti, mm_geta, mm_puti, mm_iald, mm_bald, mm_aald, mm_iast, mm_bast, mm_alen, mm_acpy, mm_call, mm_callv, mm_recv, mm_pop, mm_find, mm_push, mm_cats, mm_cat, mm_reti, mm_retz, mm_retl, mm_reta, mm_retv, mm_set1, mm_set2, mm_kill, List.getElem?_cons_zero, List.getElem?_cons_succ, Int.reduceToNat, ↓reduceIte, Nat.reduceEqDiff, Nat.reduceDiv, Nat.reduceAdd, Nat.reduceLeDiff, Nat.zero_le, true_and, and_true, true_or, or_true, mm_b0, mm_b1, mm_lc_lt, mm_lc_le, mm_lc_gt, mm_lc_ge, mm_lc_eq, Int.not_lt, Int.not_le, Decidable.not_not, Int.sub_neg])
  all_goals first | assumption | (exact Or.inl rfl) | (exact Or.inr rfl) | (exact rfl) | trivial | omega | (rw [mm_bF (by omega)] at h; exact h) | (rw [mm_bT (by omega)] at h; exact h)
def t_P_isBlock : mmT := fun as M Q => match as with
  | [.inl b] => Q (some (vi (mm_b (1 ≤ b ∧ b ≤ 60)))) M
  | _ => False
set_option maxHeartbeats 4000000 in
set_option maxRecDepth 100000 in
theorem p_P_isBlock : ∀ as M Q, (∀ v ∈ as, mm_vin v) → mm_mem M → t_P_isBlock as M Q → (mm_ent as).length ≤ 1 ∧ mm_ok mb_P_isBlock [] (mm_entry 1 as) M Q := by
  intro as M Q hin hM h
  unfold t_P_isBlock at h
  split at h
  rotate_left
  · exact h.elim
  rename_i b
  have hR_b : mm_R b := hin (vi b) (by simp)
  refine ⟨by simp [mm_ent], (show mm_ok mb_P_isBlock [] [some (vi b)] M Q from ?_)⟩
  intro J hJ
  repeat' first | (refine And.intro ?_ ?_) | (intro _) | (refine hJ 0 _ _ _ ?_; show mm_wp _ _ _ mo_P_isBlock_0 _ _ _; simp only [mo_P_isBlock_0, mm_wp, mm_ldi, mm_lda, mm_ldl, mm_sti, mm_sta, mm_stl, mm_inc, mm_2i, mm_mm, mm_2l, mm_lcmp, mm_i2l, mm_l2i, mm_cast8, mm_if1, mm_if2, mm_cmp, mm_swi, mm_sw, mm_pop1, mm_dup, mm_dup2, mm_geti, mm_geta, mm_puti, mm_iald, mm_bald, mm_aald, mm_iast, mm_bast, mm_alen, mm_acpy, mm_call, mm_callv, mm_recv, mm_pop, mm_find, mm_push, mm_cats, mm_cat, mm_reti, mm_retz, mm_retl, mm_reta, mm_retv, mm_set1, mm_set2, mm_kill, List.getElem?_cons_zero, List.getElem?_cons_succ, Int.reduceToNat, ↓reduceIte, Nat.reduceEqDiff, Nat.reduceDiv, Nat.reduceAdd, Nat.reduceLeDiff, Nat.zero_le, true_and, and_true, true_or, or_true, mm_b0, mm_b1, mm_lc_lt, mm_lc_le, mm_lc_gt, mm_lc_ge, mm_lc_eq, Int.not_lt, Int.not_le, Decidable.not_not, Int.sub_neg]) | (refine hJ 15 _ _ _ ?_; show mm_wp _ _ _ mo_P_isBlock_15 _ _ _; simp only [mo_P_isBlock_15, mm_wp, mm_ldi, mm_lda, mm_ldl, mm_sti, mm_sta, mm_stl, mm_inc, mm_2i, mm_mm, mm_2l, mm_lcmp, mm_i2l, mm_l2i, mm_cast8, mm_if1, mm_if2, mm_cmp, mm_swi, mm_sw, mm_pop1, mm_dup, mm_dup2, mm_geti, mm_geta, mm_puti, mm_iald, mm_bald, mm_aald, mm_iast, mm_bast, mm_alen, mm_acpy, mm_call, mm_callv, mm_recv, mm_pop, mm_find, mm_push, mm_cats, mm_cat, mm_reti, mm_retz, mm_retl, mm_reta, mm_retv, mm_set1, mm_set2, mm_kill, List.getElem?_cons_zero, List.getElem?_cons_succ, Int.reduceToNat, ↓reduceIte, Nat.reduceEqDiff, Nat.reduceDiv, Nat.reduceAdd, Nat.reduceLeDiff, Nat.zero_le, true_and, and_true, true_or, or_true, mm_b0, mm_b1, mm_lc_lt, mm_lc_le, mm_lc_gt, mm_lc_ge, mm_lc_eq, Int.not_lt, Int.not_le, Decidable.not_not, Int.sub_neg]) | (refine hJ 16 _ _ _ ?_; show mm_wp _ _ _ mo_P_isBlock_16 _ _ _; simp only [mo_P_isBlock_16, mm_wp, mm_ldi, mm_lda, mm_ldl, mm_sti, mm_sta, mm_stl, mm_inc, mm_2i, mm_mm, mm_2l, mm_lcmp, mm_i2l, mm_l2i, mm_cast8, mm_if1, mm_if2, mm_cmp, mm_swi, mm_sw, mm_pop1, mm_dup, mm_dup2, mm_geti, mm_geta, mm_puti, mm_iald, mm_bald, mm_aald, mm_iast, mm_bast, mm_alen, mm_acpy, mm_call, mm_callv, mm_recv, mm_pop, mm_find, mm_push, mm_cats, mm_cat, mm_reti, mm_retz, mm_retl, mm_reta, mm_retv, mm_set1, mm_set2, mm_kill, List.getElem?_cons_zero, List.getElem?_cons_succ, Int.reduceToNat, ↓reduceIte, Nat.reduceEqDiff, Nat.reduceDiv, Nat.reduceAdd, Nat.reduceLeDiff, Nat.zero_le, true_and, and_true, true_or, or_true, mm_b0, mm_b1, mm_lc_lt, mm_lc_le, mm_lc_gt, mm_lc_ge, mm_lc_eq, Int.not_lt, Int.not_le, Decidable.not_not, Int.sub_neg])
  all_goals first | assumption | (exact Or.inl rfl) | (exact Or.inr rfl) | (exact rfl) | trivial | omega | (rw [mm_bF (by omega)] at h; exact h) | (rw [mm_bT (by omega)] at h; exact h)
def t_P_isPlan : mmT := fun as M Q => match as with
  | [.inl o, .inl b] => Q (some (vi (mm_b (0 ≤ o ∧ o < 3 ∧ 1 ≤ b ∧ b ≤ 60)))) M
  | _ => False
set_option maxHeartbeats 4000000 in
set_option maxRecDepth 100000 in
theorem p_P_isPlan : ∀ as M Q, (∀ v ∈ as, mm_vin v) → mm_mem M → t_P_isPlan as M Q → (mm_ent as).length ≤ 2 ∧ mm_ok mb_P_isPlan [(1031, t_P_isBlock)] (mm_entry 2 as) M Q := by
  intro as M Q hin hM h
  unfold t_P_isPlan at h
  split at h
  rotate_left
  · exact h.elim
  rename_i o b
  have hR_o : mm_R o := hin (vi o) (by simp)
  have hR_b : mm_R b := hin (vi b) (by simp)
  refine ⟨by simp [mm_ent], (show mm_ok mb_P_isPlan [(1031, t_P_isBlock)] [some (vi o), some (vi b)] M Q from ?_)⟩
  intro J hJ
  repeat' first | (refine And.intro ?_ ?_) | (intro _) | (refine hJ 0 _ _ _ ?_; show mm_wp _ _ _ mo_P_isPlan_0 _ _ _; simp only [mo_P_isPlan_0, mm_wp, mm_ldi, mm_lda, mm_ldl, mm_sti, mm_sta, mm_stl, mm_inc, mm_2i, mm_mm, mm_2l, mm_lcmp, mm_i2l, mm_l2i, mm_cast8, mm_if1, mm_if2, mm_cmp, mm_swi, mm_sw, mm_pop1, mm_dup, mm_dup2, mm_geti, mm_geta, mm_puti, mm_iald, mm_bald, mm_aald, mm_iast, mm_bast, mm_alen, mm_acpy, mm_call, mm_callv, mm_recv, mm_pop, mm_find, mm_push, mm_cats, mm_cat, mm_reti, mm_retz, mm_retl, mm_reta, mm_retv, mm_set1, mm_set2, mm_kill, List.getElem?_cons_zero, List.getElem?_cons_succ, Int.reduceToNat, ↓reduceIte, Nat.reduceEqDiff, Nat.reduceDiv, Nat.reduceAdd, Nat.reduceLeDiff, Nat.zero_le, true_and, and_true, true_or, or_true, mm_b0, mm_b1, mm_lc_lt, mm_lc_le, mm_lc_gt, mm_lc_ge, mm_lc_eq, Int.not_lt, Int.not_le, Decidable.not_not, Int.sub_neg, t_P_isBlock]) | (refine hJ 20 _ _ _ ?_; show mm_wp _ _ _ mo_P_isPlan_20 _ _ _; simp only [mo_P_isPlan_20, mm_wp, mm_ldi, mm_lda, mm_ldl, mm_sti, mm_sta, mm_stl, mm_inc, mm_2i, mm_mm, mm_2l, mm_lcmp, mm_i2l, mm_l2i, mm_cast8, mm_if1, mm_if2, mm_cmp, mm_swi, mm_sw, mm_pop1, mm_dup, mm_dup2, mm_geti, mm_geta, mm_puti, mm_iald, mm_bald, mm_aald, mm_iast, mm_bast, mm_alen, mm_acpy, mm_call, mm_callv, mm_recv, mm_pop, mm_find, mm_push, mm_cats, mm_cat, mm_reti, mm_retz, mm_retl, mm_reta, mm_retv, mm_set1, mm_set2, mm_kill, List.getElem?_cons_zero, List.getElem?_cons_succ, Int.reduceToNat, ↓reduceIte, Nat.reduceEqDiff, Nat.reduceDiv, Nat.reduceAdd, Nat.reduceLeDiff, Nat.zero_le, true_and, and_true, true_or, or_true, mm_b0, mm_b1, mm_lc_lt, mm_lc_le, mm_lc_gt, mm_lc_ge, mm_lc_eq, Int.not_lt, Int.not_le, Decidable.not_not, Int.sub_neg, t_P_isBlock]) | (refine hJ 21 _ _ _ ?_; show mm_wp _ _ _ mo_P_isPlan_21 _ _ _; simp only [mo_P_isPlan_21, mm_wp, mm_ldi, mm_lda, mm_ldl, mm_sti, mm_sta, mm_stl, mm_inc, mm_2i, mm_mm, mm_2l, mm_lcmp, mm_i2l, mm_l2i, mm_cast8, mm_if1, mm_if2, mm_cmp, mm_swi, mm_sw, mm_pop1, mm_dup, mm_dup2, mm_geti, mm_geta, mm_puti, mm_iald, mm_bald, mm_aald, mm_iast, mm_bast, mm_alen, mm_acpy, mm_call, mm_callv, mm_recv, mm_pop, mm_find, mm_push, mm_cats, mm_cat, mm_reti, mm_retz, mm_retl, mm_reta, mm_retv, mm_set1, mm_set2, mm_kill, List.getElem?_cons_zero, List.getElem?_cons_succ, Int.reduceToNat, ↓reduceIte, Nat.reduceEqDiff, Nat.reduceDiv, Nat.reduceAdd, Nat.reduceLeDiff, Nat.zero_le, true_and, and_true, true_or, or_true, mm_b0, mm_b1, mm_lc_lt, mm_lc_le, mm_lc_gt, mm_lc_ge, mm_lc_eq, Int.not_lt, Int.not_le, Decidable.not_not, Int.sub_neg, t_P_isBlock])
  all_goals first | assumption | (exact Or.inl rfl) | (exact Or.inr rfl) | (exact rfl) | trivial | omega | (rw [mm_bF (by omega)] at h; exact h) | (rw [mm_bT (by omega)] at h; exact h)
def t_P_isQuestion : mmT := fun as M Q => match as with
  | [.inr (.inr o), .inl k, .inl f, .inl l, .inl t] => o = 0 ∧ Q (some (vi (mm_b ((0 ≤ k ∧ k < 8) ∧ (0 ≤ f ∧ f < M 13 4) ∧ (0 ≤ l ∧ l < M 13 4) ∧ f ≤ l ∧ (t = -1 ∨ 0 ≤ t ∧ t ≤ M 13 5))))) M
  | _ => False
set_option maxHeartbeats 4000000 in
set_option maxRecDepth 100000 in
theorem p_P_isQuestion : ∀ as M Q, (∀ v ∈ as, mm_vin v) → mm_mem M → t_P_isQuestion as M Q → (mm_ent as).length ≤ 5 ∧ mm_ok mb_P_isQuestion [(1030, t_P_isKind), (403, t_Row_has), (404, t_Row_hasTime)] (mm_entry 5 as) M Q := by
  intro as M Q hin hM h
  unfold t_P_isQuestion at h
  split at h
  rotate_left
  · exact h.elim
  rename_i o k f l t
  have hR_k : mm_R k := hin (vi k) (by simp)
  have hR_f : mm_R f := hin (vi f) (by simp)
  have hR_l : mm_R l := hin (vi l) (by simp)
  have hR_t : mm_R t := hin (vi t) (by simp)
  refine ⟨by simp [mm_ent], (show mm_ok mb_P_isQuestion [(1030, t_P_isKind), (403, t_Row_has), (404, t_Row_hasTime)] [some (vr o), some (vi k), some (vi f), some (vi l), some (vi t)] M Q from ?_)⟩
  intro J hJ
  obtain ⟨rfl, h⟩ := h
  repeat' first | (refine And.intro ?_ ?_) | (intro _) | (refine hJ 0 _ _ _ ?_; show mm_wp _ _ _ mo_P_isQuestion_0 _ _ _; simp only [mo_P_isQuestion_0, mm_wp, mm_ldi, mm_lda, mm_ldl, mm_sti, mm_sta, mm_stl, mm_inc, mm_2i, mm_mm, mm_2l, mm_lcmp, mm_i2l, mm_l2i, mm_cast8, mm_if1, mm_if2, mm_cmp, mm_swi, mm_sw, mm_pop1, mm_dup, mm_dup2, mm_geti, mm_geta, mm_puti, mm_iald, mm_bald, mm_aald, mm_iast, mm_bast, mm_alen, mm_acpy, mm_call, mm_callv, mm_recv, mm_pop, mm_find, mm_push, mm_cats, mm_cat, mm_reti, mm_retz, mm_retl, mm_reta, mm_retv, mm_set1, mm_set2, mm_kill, List.getElem?_cons_zero, List.getElem?_cons_succ, Int.reduceToNat, ↓reduceIte, Nat.reduceEqDiff, Nat.reduceDiv, Nat.reduceAdd, Nat.reduceLeDiff, Nat.zero_le, true_and, and_true, true_or, or_true, mm_b0, mm_b1, mm_lc_lt, mm_lc_le, mm_lc_gt, mm_lc_ge, mm_lc_eq, Int.not_lt, Int.not_le, Decidable.not_not, Int.sub_neg, c_0, c_1, c_2, l_2, c_3, c_4, l_4, c_5, l_5, c_6, l_6, c_7, l_7, c_8, c_9, l_9, c_10, l_10, c_11, l_11, c_12, l_12, c_13, c_14, l_14, c_15, l_15, c_16, l_16, c_17, l_17, c_18, c_19, l_19, c_20, l_20, c_21, l_21, c_22, l_22, c_23, c_24, l_24, c_25, l_25, c_26, c_27, c_28, l_28, c_29, c_30, l_30, c_31, c_32, l_32, c_33, l_33, c_34, l_34, c_35, l_35, c_36, l_36, c_37, l_37, c_38, l_38, c_39, l_39, c_40, c_41, l_41, c_42, c_43, c_44, l_44, c_45, c_46, l_46, c_47, c_48, l_48, c_49, l_49, c_50, l_50, c_51, l_51, c_52, l_52, c_53, l_53, c_54, l_54, c_55, l_55, c_56, l_56, c_57, l_57, c_58, l_58, c_59, l_59, c_60, l_60, c_61, l_61, c_62, c_63, l_63, c_64, l_64, c_65, l_65, c_66, l_66, c_67, l_67, c_68, l_68, c_69, l_69, c_70, l_70, c_71, l_71, c_72, l_72, c_73, l_73, c_74, l_74, c_75, l_75, c_76, l_76, t_P_isKind, t_Row_has, t_Row_hasTime]) | (refine hJ 52 _ _ _ ?_; show mm_wp _ _ _ mo_P_isQuestion_52 _ _ _; simp only [mo_P_isQuestion_52, mm_wp, mm_ldi, mm_lda, mm_ldl, mm_sti, mm_sta, mm_stl, mm_inc, mm_2i, mm_mm, mm_2l, mm_lcmp, mm_i2l, mm_l2i, mm_cast8, mm_if1, mm_if2, mm_cmp, mm_swi, mm_sw, mm_pop1, mm_dup, mm_dup2, mm_geti, mm_geta, mm_puti, mm_iald, mm_bald, mm_aald, mm_iast, mm_bast, mm_alen, mm_acpy, mm_call, mm_callv, mm_recv, mm_pop, mm_find, mm_push, mm_cats, mm_cat, mm_reti, mm_retz, mm_retl, mm_reta, mm_retv, mm_set1, mm_set2, mm_kill, List.getElem?_cons_zero, List.getElem?_cons_succ, Int.reduceToNat, ↓reduceIte, Nat.reduceEqDiff, Nat.reduceDiv, Nat.reduceAdd, Nat.reduceLeDiff, Nat.zero_le, true_and, and_true, true_or, or_true, mm_b0, mm_b1, mm_lc_lt, mm_lc_le, mm_lc_gt, mm_lc_ge, mm_lc_eq, Int.not_lt, Int.not_le, Decidable.not_not, Int.sub_neg, c_0, c_1, c_2, l_2, c_3, c_4, l_4, c_5, l_5, c_6, l_6, c_7, l_7, c_8, c_9, l_9, c_10, l_10, c_11, l_11, c_12, l_12, c_13, c_14, l_14, c_15, l_15, c_16, l_16, c_17, l_17, c_18, c_19, l_19, c_20, l_20, c_21, l_21, c_22, l_22, c_23, c_24, l_24, c_25, l_25, c_26, c_27, c_28, l_28, c_29, c_30, l_30, c_31, c_32, l_32, c_33, l_33, c_34, l_34, c_35, l_35, c_36, l_36, c_37, l_37, c_38, l_38, c_39, l_39, c_40, c_41, l_41, c_42, c_43, c_44, l_44, c_45, c_46, l_46, c_47, c_48, l_48, c_49, l_49, c_50, l_50, c_51, l_51, c_52, l_52, c_53, l_53, c_54, l_54, c_55, l_55, c_56, l_56, c_57, l_57, c_58, l_58, c_59, l_59, c_60, l_60, c_61, l_61, c_62, c_63, l_63, c_64, l_64, c_65, l_65, c_66, l_66, c_67, l_67, c_68, l_68, c_69, l_69, c_70, l_70, c_71, l_71, c_72, l_72, c_73, l_73, c_74, l_74, c_75, l_75, c_76, l_76, t_P_isKind, t_Row_has, t_Row_hasTime]) | (refine hJ 56 _ _ _ ?_; show mm_wp _ _ _ mo_P_isQuestion_56 _ _ _; simp only [mo_P_isQuestion_56, mm_wp, mm_ldi, mm_lda, mm_ldl, mm_sti, mm_sta, mm_stl, mm_inc, mm_2i, mm_mm, mm_2l, mm_lcmp, mm_i2l, mm_l2i, mm_cast8, mm_if1, mm_if2, mm_cmp, mm_swi, mm_sw, mm_pop1, mm_dup, mm_dup2, mm_geti, mm_geta, mm_puti, mm_iald, mm_bald, mm_aald, mm_iast, mm_bast, mm_alen, mm_acpy, mm_call, mm_callv, mm_recv, mm_pop, mm_find, mm_push, mm_cats, mm_cat, mm_reti, mm_retz, mm_retl, mm_reta, mm_retv, mm_set1, mm_set2, mm_kill, List.getElem?_cons_zero, List.getElem?_cons_succ, Int.reduceToNat, ↓reduceIte, Nat.reduceEqDiff, Nat.reduceDiv, Nat.reduceAdd, Nat.reduceLeDiff, Nat.zero_le, true_and, and_true, true_or, or_true, mm_b0, mm_b1, mm_lc_lt, mm_lc_le, mm_lc_gt, mm_lc_ge, mm_lc_eq, Int.not_lt, Int.not_le, Decidable.not_not, Int.sub_neg, c_0, c_1, c_2, l_2, c_3, c_4, l_4, c_5, l_5, c_6, l_6, c_7, l_7, c_8, c_9, l_9, c_10, l_10, c_11, l_11, c_12, l_12, c_13, c_14, l_14, c_15, l_15, c_16, l_16, c_17, l_17, c_18, c_19, l_19, c_20, l_20, c_21, l_21, c_22, l_22, c_23, c_24, l_24, c_25, l_25, c_26, c_27, c_28, l_28, c_29, c_30, l_30, c_31, c_32, l_32, c_33, l_33, c_34, l_34, c_35, l_35, c_36, l_36, c_37, l_37, c_38, l_38, c_39, l_39, c_40, c_41, l_41, c_42, c_43, c_44, l_44, c_45, c_46, l_46, c_47, c_48, l_48, c_49, l_49, c_50, l_50, c_51, l_51, c_52, l_52, c_53, l_53, c_54, l_54, c_55, l_55, c_56, l_56, c_57, l_57, c_58, l_58, c_59, l_59, c_60, l_60, c_61, l_61, c_62, c_63, l_63, c_64, l_64, c_65, l_65, c_66, l_66, c_67, l_67, c_68, l_68, c_69, l_69, c_70, l_70, c_71, l_71, c_72, l_72, c_73, l_73, c_74, l_74, c_75, l_75, c_76, l_76, t_P_isKind, t_Row_has, t_Row_hasTime]) | (refine hJ 57 _ _ _ ?_; show mm_wp _ _ _ mo_P_isQuestion_57 _ _ _; simp only [mo_P_isQuestion_57, mm_wp, mm_ldi, mm_lda, mm_ldl, mm_sti, mm_sta, mm_stl, mm_inc, mm_2i, mm_mm, mm_2l, mm_lcmp, mm_i2l, mm_l2i, mm_cast8, mm_if1, mm_if2, mm_cmp, mm_swi, mm_sw, mm_pop1, mm_dup, mm_dup2, mm_geti, mm_geta, mm_puti, mm_iald, mm_bald, mm_aald, mm_iast, mm_bast, mm_alen, mm_acpy, mm_call, mm_callv, mm_recv, mm_pop, mm_find, mm_push, mm_cats, mm_cat, mm_reti, mm_retz, mm_retl, mm_reta, mm_retv, mm_set1, mm_set2, mm_kill, List.getElem?_cons_zero, List.getElem?_cons_succ, Int.reduceToNat, ↓reduceIte, Nat.reduceEqDiff, Nat.reduceDiv, Nat.reduceAdd, Nat.reduceLeDiff, Nat.zero_le, true_and, and_true, true_or, or_true, mm_b0, mm_b1, mm_lc_lt, mm_lc_le, mm_lc_gt, mm_lc_ge, mm_lc_eq, Int.not_lt, Int.not_le, Decidable.not_not, Int.sub_neg, c_0, c_1, c_2, l_2, c_3, c_4, l_4, c_5, l_5, c_6, l_6, c_7, l_7, c_8, c_9, l_9, c_10, l_10, c_11, l_11, c_12, l_12, c_13, c_14, l_14, c_15, l_15, c_16, l_16, c_17, l_17, c_18, c_19, l_19, c_20, l_20, c_21, l_21, c_22, l_22, c_23, c_24, l_24, c_25, l_25, c_26, c_27, c_28, l_28, c_29, c_30, l_30, c_31, c_32, l_32, c_33, l_33, c_34, l_34, c_35, l_35, c_36, l_36, c_37, l_37, c_38, l_38, c_39, l_39, c_40, c_41, l_41, c_42, c_43, c_44, l_44, c_45, c_46, l_46, c_47, c_48, l_48, c_49, l_49, c_50, l_50, c_51, l_51, c_52, l_52, c_53, l_53, c_54, l_54, c_55, l_55, c_56, l_56, c_57, l_57, c_58, l_58, c_59, l_59, c_60, l_60, c_61, l_61, c_62, c_63, l_63, c_64, l_64, c_65, l_65, c_66, l_66, c_67, l_67, c_68, l_68, c_69, l_69, c_70, l_70, c_71, l_71, c_72, l_72, c_73, l_73, c_74, l_74, c_75, l_75, c_76, l_76, t_P_isKind, t_Row_has, t_Row_hasTime])
  all_goals first | assumption | (exact Or.inl rfl) | (exact Or.inr rfl) | (exact rfl) | trivial | omega | (rw [mm_bF (by omega)] at h; exact h) | (rw [mm_bT (by omega)] at h; exact h)
def t_P_timeMeant : mmT := fun as M Q => match as with
  | [.inr (.inr o), .inl t] => o = 0 ∧ Q (some (vi (if t = -1 then M 13 5 else t))) M
  | _ => False
set_option maxHeartbeats 4000000 in
set_option maxRecDepth 100000 in
theorem p_P_timeMeant : ∀ as M Q, (∀ v ∈ as, mm_vin v) → mm_mem M → t_P_timeMeant as M Q → (mm_ent as).length ≤ 2 ∧ mm_ok mb_P_timeMeant [] (mm_entry 2 as) M Q := by
  intro as M Q hin hM h
  unfold t_P_timeMeant at h
  split at h
  rotate_left
  · exact h.elim
  rename_i o t
  have hR_t : mm_R t := hin (vi t) (by simp)
  refine ⟨by simp [mm_ent], (show mm_ok mb_P_timeMeant [] [some (vr o), some (vi t)] M Q from ?_)⟩
  intro J hJ
  obtain ⟨rfl, h⟩ := h
  repeat' first | (refine And.intro ?_ ?_) | (intro _) | (refine hJ 0 _ _ _ ?_; show mm_wp _ _ _ mo_P_timeMeant_0 _ _ _; simp only [mo_P_timeMeant_0, mm_wp, mm_ldi, mm_lda, mm_ldl, mm_sti, mm_sta, mm_stl, mm_inc, mm_2i, mm_mm, mm_2l, mm_lcmp, mm_i2l, mm_l2i, mm_cast8, mm_if1, mm_if2, mm_cmp, mm_swi, mm_sw, mm_pop1, mm_dup, mm_dup2, mm_geti, mm_geta, mm_puti, mm_iald, mm_bald, mm_aald, mm_iast, mm_bast, mm_alen, mm_acpy, mm_call, mm_callv, mm_recv, mm_pop, mm_find, mm_push, mm_cats, mm_cat, mm_reti, mm_retz, mm_retl, mm_reta, mm_retv, mm_set1, mm_set2, mm_kill, List.getElem?_cons_zero, List.getElem?_cons_succ, Int.reduceToNat, ↓reduceIte, Nat.reduceEqDiff, Nat.reduceDiv, Nat.reduceAdd, Nat.reduceLeDiff, Nat.zero_le, true_and, and_true, true_or, or_true, mm_b0, mm_b1, mm_lc_lt, mm_lc_le, mm_lc_gt, mm_lc_ge, mm_lc_eq, Int.not_lt, Int.not_le, Decidable.not_not, Int.sub_neg, c_0, c_1, c_2, l_2, c_3, c_4, l_4, c_5, l_5, c_6, l_6, c_7, l_7, c_8, c_9, l_9, c_10, l_10, c_11, l_11, c_12, l_12, c_13, c_14, l_14, c_15, l_15, c_16, l_16, c_17, l_17, c_18, c_19, l_19, c_20, l_20, c_21, l_21, c_22, l_22, c_23, c_24, l_24, c_25, l_25, c_26, c_27, c_28, l_28, c_29, c_30, l_30, c_31, c_32, l_32, c_33, l_33, c_34, l_34, c_35, l_35, c_36, l_36, c_37, l_37, c_38, l_38, c_39, l_39, c_40, c_41, l_41, c_42, c_43, c_44, l_44, c_45, c_46, l_46, c_47, c_48, l_48, c_49, l_49, c_50, l_50, c_51, l_51, c_52, l_52, c_53, l_53, c_54, l_54, c_55, l_55, c_56, l_56, c_57, l_57, c_58, l_58, c_59, l_59, c_60, l_60, c_61, l_61, c_62, c_63, l_63, c_64, l_64, c_65, l_65, c_66, l_66, c_67, l_67, c_68, l_68, c_69, l_69, c_70, l_70, c_71, l_71, c_72, l_72, c_73, l_73, c_74, l_74, c_75, l_75, c_76, l_76]) | (refine hJ 15 _ _ _ ?_; show mm_wp _ _ _ mo_P_timeMeant_15 _ _ _; simp only [mo_P_timeMeant_15, mm_wp, mm_ldi, mm_lda, mm_ldl, mm_sti, mm_sta, mm_stl, mm_inc, mm_2i, mm_mm, mm_2l, mm_lcmp, mm_i2l, mm_l2i, mm_cast8, mm_if1, mm_if2, mm_cmp, mm_swi, mm_sw, mm_pop1, mm_dup, mm_dup2, mm_geti, mm_geta, mm_puti, mm_iald, mm_bald, mm_aald, mm_iast, mm_bast, mm_alen, mm_acpy, mm_call, mm_callv, mm_recv, mm_pop, mm_find, mm_push, mm_cats, mm_cat, mm_reti, mm_retz, mm_retl, mm_reta, mm_retv, mm_set1, mm_set2, mm_kill, List.getElem?_cons_zero, List.getElem?_cons_succ, Int.reduceToNat, ↓reduceIte, Nat.reduceEqDiff, Nat.reduceDiv, Nat.reduceAdd, Nat.reduceLeDiff, Nat.zero_le, true_and, and_true, true_or, or_true, mm_b0, mm_b1, mm_lc_lt, mm_lc_le, mm_lc_gt, mm_lc_ge, mm_lc_eq, Int.not_lt, Int.not_le, Decidable.not_not, Int.sub_neg, c_0, c_1, c_2, l_2, c_3, c_4, l_4, c_5, l_5, c_6, l_6, c_7, l_7, c_8, c_9, l_9, c_10, l_10, c_11, l_11, c_12, l_12, c_13, c_14, l_14, c_15, l_15, c_16, l_16, c_17, l_17, c_18, c_19, l_19, c_20, l_20, c_21, l_21, c_22, l_22, c_23, c_24, l_24, c_25, l_25, c_26, c_27, c_28, l_28, c_29, c_30, l_30, c_31, c_32, l_32, c_33, l_33, c_34, l_34, c_35, l_35, c_36, l_36, c_37, l_37, c_38, l_38, c_39, l_39, c_40, c_41, l_41, c_42, c_43, c_44, l_44, c_45, c_46, l_46, c_47, c_48, l_48, c_49, l_49, c_50, l_50, c_51, l_51, c_52, l_52, c_53, l_53, c_54, l_54, c_55, l_55, c_56, l_56, c_57, l_57, c_58, l_58, c_59, l_59, c_60, l_60, c_61, l_61, c_62, c_63, l_63, c_64, l_64, c_65, l_65, c_66, l_66, c_67, l_67, c_68, l_68, c_69, l_69, c_70, l_70, c_71, l_71, c_72, l_72, c_73, l_73, c_74, l_74, c_75, l_75, c_76, l_76]) | (refine hJ 16 _ _ _ ?_; show mm_wp _ _ _ mo_P_timeMeant_16 _ _ _; simp only [mo_P_timeMeant_16, mm_wp, mm_ldi, mm_lda, mm_ldl, mm_sti, mm_sta, mm_stl, mm_inc, mm_2i, mm_mm, mm_2l, mm_lcmp, mm_i2l, mm_l2i, mm_cast8, mm_if1, mm_if2, mm_cmp, mm_swi, mm_sw, mm_pop1, mm_dup, mm_dup2, mm_geti, mm_geta, mm_puti, mm_iald, mm_bald, mm_aald, mm_iast, mm_bast, mm_alen, mm_acpy, mm_call, mm_callv, mm_recv, mm_pop, mm_find, mm_push, mm_cats, mm_cat, mm_reti, mm_retz, mm_retl, mm_reta, mm_retv, mm_set1, mm_set2, mm_kill, List.getElem?_cons_zero, List.getElem?_cons_succ, Int.reduceToNat, ↓reduceIte, Nat.reduceEqDiff, Nat.reduceDiv, Nat.reduceAdd, Nat.reduceLeDiff, Nat.zero_le, true_and, and_true, true_or, or_true, mm_b0, mm_b1, mm_lc_lt, mm_lc_le, mm_lc_gt, mm_lc_ge, mm_lc_eq, Int.not_lt, Int.not_le, Decidable.not_not, Int.sub_neg, c_0, c_1, c_2, l_2, c_3, c_4, l_4, c_5, l_5, c_6, l_6, c_7, l_7, c_8, c_9, l_9, c_10, l_10, c_11, l_11, c_12, l_12, c_13, c_14, l_14, c_15, l_15, c_16, l_16, c_17, l_17, c_18, c_19, l_19, c_20, l_20, c_21, l_21, c_22, l_22, c_23, c_24, l_24, c_25, l_25, c_26, c_27, c_28, l_28, c_29, c_30, l_30, c_31, c_32, l_32, c_33, l_33, c_34, l_34, c_35, l_35, c_36, l_36, c_37, l_37, c_38, l_38, c_39, l_39, c_40, c_41, l_41, c_42, c_43, c_44, l_44, c_45, c_46, l_46, c_47, c_48, l_48, c_49, l_49, c_50, l_50, c_51, l_51, c_52, l_52, c_53, l_53, c_54, l_54, c_55, l_55, c_56, l_56, c_57, l_57, c_58, l_58, c_59, l_59, c_60, l_60, c_61, l_61, c_62, c_63, l_63, c_64, l_64, c_65, l_65, c_66, l_66, c_67, l_67, c_68, l_68, c_69, l_69, c_70, l_70, c_71, l_71, c_72, l_72, c_73, l_73, c_74, l_74, c_75, l_75, c_76, l_76])
  all_goals first | assumption | (exact Or.inl rfl) | (exact Or.inr rfl) | (exact rfl) | trivial | omega | (rw [if_neg (by omega)] at h; exact h) | (rw [if_pos (by omega)] at h; exact h)
def wnI (M : mmM) : Prop := 0 ≤ M 45 1 ∧ M 45 1 ≤ M 45 2 + 1 ∧ M 45 2 < M 13 4 ∧ 0 ≤ M 45 3 ∧ M 45 3 ≤ M 13 5 ∧ 0 ≤ M 45 4 ∧ M 45 4 ≤ 5000000 ∧ 0 ≤ M 45 5 ∧ M 45 5 ≤ 5000000 ∧ 0 ≤ M 45 6 ∧ M 45 6 ≤ 24
def rwI (M : mmM) : Prop := 2 ≤ M 13 4 ∧ M 13 4 ≤ 60 ∧ (∀ i, 0 ≤ i → i < M 13 4 → 0 ≤ M 14 i ∧ M 14 i < 64) ∧ 0 ≤ M 13 5 ∧ M 13 5 ≤ 32 ∧ ∀ k, 0 ≤ k → k < M 13 5 → 0 ≤ M 15 k ∧ M 15 k < M 13 4 ∧ 0 ≤ M 16 k ∧ M 16 k < 64
def quI (M : mmM) (n : Int) : Prop := 0 ≤ M 18 4 ∧ M 18 4 ≤ n ∧ ∀ q, 0 ≤ q → q < M 18 4 → 0 ≤ M 19 q ∧ M 19 q ≤ 7 ∧ 0 ≤ M 20 q ∧ M 20 q ≤ M 21 q ∧ M 21 q < M 13 4 ∧ 0 ≤ M 22 q ∧ M 22 q ≤ M 13 5
def seI (M : mmM) : Prop := 0 ≤ M 0 9 ∧ M 0 9 ≤ 9 ∧ 0 ≤ M 0 10 ∧ M 0 10 ≤ 2 ∧ 1 ≤ M 0 11 ∧ M 0 11 ≤ 60
theorem quB {M : mmM} (hr : rwI M) (h : quI M 25) : qB M 18 := by
  obtain ⟨r1, r2, r3, r4, r5, r6⟩ := hr
  obtain ⟨a, b, c⟩ := h
  refine ⟨a, b, fun q q0 q1 => ?_⟩
  have := c q q0 q1
  show 0 ≤ M 20 q ∧ M 20 q < 60 ∧ 0 ≤ M 21 q ∧ M 21 q < 60 ∧ 0 ≤ M 22 q ∧ M 22 q ≤ 32
  omega
def t_P_takeBackChange : mmT := fun as M Q => match as with
  | [.inr (.inr o)] => o = 0 ∧ wnI M ∧ 0 < M 13 5 ∧ M 13 5 ≤ 32 ∧ M 13 4 ≤ 60 ∧ Q none (mm_up (if M 45 3 < M 13 5 then M else mm_up (mm_up M 45 3 (M 45 3 - 1)) 45 5 (M 45 5 + 1)) 13 5 (M 13 5 - 1))
  | _ => False
set_option maxHeartbeats 4000000 in
set_option maxRecDepth 100000 in
theorem p_P_takeBackChange : ∀ as M Q, (∀ v ∈ as, mm_vin v) → mm_mem M → t_P_takeBackChange as M Q → (mm_ent as).length ≤ 1 ∧ mm_ok mb_P_takeBackChange [(908, t_Win_shift), (410, t_Row_removeLastChange)] (mm_entry 1 as) M Q := by
  intro as M Q hin hM h
  unfold t_P_takeBackChange at h
  split at h
  rotate_left
  · exact h.elim
  rename_i o
  refine ⟨by simp [mm_ent], (show mm_ok mb_P_takeBackChange [(908, t_Win_shift), (410, t_Row_removeLastChange)] [some (vr o)] M Q from ?_)⟩
  intro J hJ
  obtain ⟨rfl, hw, h1, h2, h3, h⟩ := h
  unfold wnI at hw
  have h27 : ∀ M1 : mmM, M1 13 = M 13 → Q none (mm_up M1 13 5 (M 13 5 - 1)) → J 27 [some (vr 0)] [] M1 := by
    intro M1 e hq
    refine hJ 27 _ _ _ (show mm_wp _ _ _ mo_P_takeBackChange_27 _ _ _ from ?_)
    simp only [mo_P_takeBackChange_27, mm_wp, mm_ldi, mm_lda, mm_ldl, mm_sti, mm_sta, mm_stl, mm_inc, mm_2i, mm_mm, mm_2l, mm_lcmp, mm_i2l, mm_l2i, mm_cast8, mm_if1, mm_if2, mm_cmp, mm_swi, mm_sw, mm_pop1, mm_dup, mm_dup2, mm_geti, mm_geta, mm_puti, mm_iald, mm_bald, mm_aald, mm_iast, mm_bast, mm_alen, mm_acpy, mm_call, mm_callv, mm_recv, mm_pop, mm_find, mm_push, mm_cats, mm_cat, mm_reti, mm_retz, mm_retl, mm_reta, mm_retv, mm_set1, mm_set2, mm_kill, List.getElem?_cons_zero, List.getElem?_cons_succ, Int.reduceToNat, ↓reduceIte, Nat.reduceEqDiff, Nat.reduceDiv, Nat.reduceAdd, Nat.reduceLeDiff, Nat.zero_le, true_and, and_true, true_or, or_true, mm_b0, mm_b1, mm_lc_lt, mm_lc_le, mm_lc_gt, mm_lc_ge, mm_lc_eq, Int.not_lt, Int.not_le, Decidable.not_not, Int.sub_neg, c_0, c_1, c_2, l_2, c_3, c_4, l_4, c_5, l_5, c_6, l_6, c_7, l_7, c_8, c_9, l_9, c_10, l_10, c_11, l_11, c_12, l_12, c_13, c_14, l_14, c_15, l_15, c_16, l_16, c_17, l_17, c_18, c_19, l_19, c_20, l_20, c_21, l_21, c_22, l_22, c_23, c_24, l_24, c_25, l_25, c_26, c_27, c_28, l_28, c_29, c_30, l_30, c_31, c_32, l_32, c_33, l_33, c_34, l_34, c_35, l_35, c_36, l_36, c_37, l_37, c_38, l_38, c_39, l_39, c_40, c_41, l_41, c_42, c_43, c_44, l_44, c_45, c_46, l_46, c_47, c_48, l_48, c_49, l_49, c_50, l_50, c_51, l_51, c_52, l_52, c_53, l_53, c_54, l_54, c_55, l_55, c_56, l_56, c_57, l_57, c_58, l_58, c_59, l_59, c_60, l_60, c_61, l_61, c_62, c_63, l_63, c_64, l_64, c_65, l_65, c_66, l_66, c_67, l_67, c_68, l_68, c_69, l_69, c_70, l_70, c_71, l_71, c_72, l_72, c_73, l_73, c_74, l_74, c_75, l_75, c_76, l_76, t_Row_removeLastChange]
    rw [e]
    exact ⟨h1, hq⟩
  refine hJ 0 _ _ _ (show mm_wp _ _ _ mo_P_takeBackChange_0 _ _ _ from ?_)
  simp only [mo_P_takeBackChange_0, mm_wp, mm_ldi, mm_lda, mm_ldl, mm_sti, mm_sta, mm_stl, mm_inc, mm_2i, mm_mm, mm_2l, mm_lcmp, mm_i2l, mm_l2i, mm_cast8, mm_if1, mm_if2, mm_cmp, mm_swi, mm_sw, mm_pop1, mm_dup, mm_dup2, mm_geti, mm_geta, mm_puti, mm_iald, mm_bald, mm_aald, mm_iast, mm_bast, mm_alen, mm_acpy, mm_call, mm_callv, mm_recv, mm_pop, mm_find, mm_push, mm_cats, mm_cat, mm_reti, mm_retz, mm_retl, mm_reta, mm_retv, mm_set1, mm_set2, mm_kill, List.getElem?_cons_zero, List.getElem?_cons_succ, Int.reduceToNat, ↓reduceIte, Nat.reduceEqDiff, Nat.reduceDiv, Nat.reduceAdd, Nat.reduceLeDiff, Nat.zero_le, true_and, and_true, true_or, or_true, mm_b0, mm_b1, mm_lc_lt, mm_lc_le, mm_lc_gt, mm_lc_ge, mm_lc_eq, Int.not_lt, Int.not_le, Decidable.not_not, Int.sub_neg, c_0, c_1, c_2, l_2, c_3, c_4, l_4, c_5, l_5, c_6, l_6, c_7, l_7, c_8, c_9, l_9, c_10, l_10, c_11, l_11, c_12, l_12, c_13, c_14, l_14, c_15, l_15, c_16, l_16, c_17, l_17, c_18, c_19, l_19, c_20, l_20, c_21, l_21, c_22, l_22, c_23, c_24, l_24, c_25, l_25, c_26, c_27, c_28, l_28, c_29, c_30, l_30, c_31, c_32, l_32, c_33, l_33, c_34, l_34, c_35, l_35, c_36, l_36, c_37, l_37, c_38, l_38, c_39, l_39, c_40, c_41, l_41, c_42, c_43, c_44, l_44, c_45, c_46, l_46, c_47, c_48, l_48, c_49, l_49, c_50, l_50, c_51, l_51, c_52, l_52, c_53, l_53, c_54, l_54, c_55, l_55, c_56, l_56, c_57, l_57, c_58, l_58, c_59, l_59, c_60, l_60, c_61, l_61, c_62, c_63, l_63, c_64, l_64, c_65, l_65, c_66, l_66, c_67, l_67, c_68, l_68, c_69, l_69, c_70, l_70, c_71, l_71, c_72, l_72, c_73, l_73, c_74, l_74, c_75, l_75, c_76, l_76, t_Win_shift]
  refine ⟨fun z => h27 M rfl ?_, fun z => ⟨isW45, by omega, h27 _ ?_ ?_⟩⟩
  · rw [if_pos z] at h; exact h
  · simp only [wSh, Int.reduceEq, ↓reduceIte]
    rw [mm_up_o _ _ (by decide), mm_up_o _ _ (by decide)]
  · rw [if_neg (by omega)] at h
    simp only [wSh, Int.reduceEq, ↓reduceIte]
    exact h
/-- the answer of a question (k, f, l, t) over the row c and the changes cc, ct -/
def anF (c cc ct : Int → Int) (f l t k : Int) : Int := tell (fun v => hsN (fun i => ca c cc ct i t.toNat) f v (l - f + 1).toNat) k
def t_P_answerOf : mmT := fun as M Q => match as with
  | [.inr (.inr o), .inl q] => o = 0 ∧ rwI M ∧ quI M 25 ∧ 0 ≤ q ∧ q < M 18 4 ∧ ∀ M', (∀ o', o' ≠ 17 → o' ≠ 24 → o' ≠ 25 → M' o' = M o') → Q (some (vl (anF (M 14) (M 15) (M 16) (M 20 q) (M 21 q) (M 22 q) (M 19 q)))) M'
  | _ => False
set_option maxHeartbeats 4000000 in
set_option maxRecDepth 100000 in
theorem p_P_answerOf : ∀ as M Q, (∀ v ∈ as, mm_vin v) → mm_mem M → t_P_answerOf as M Q → (mm_ent as).length ≤ 3 ∧ mm_ok mb_P_answerOf [(412, t_Row_asAt), (701, t_Tal_take), (702, t_Tal_tell)] (mm_entry 3 as) M Q := by
  intro as M Q hin hM h
  unfold t_P_answerOf at h
  split at h
  rotate_left
  · exact h.elim
  rename_i o q
  have hR_q : mm_R q := hin (vi q) (by simp)
  refine ⟨by simp [mm_ent], (show mm_ok mb_P_answerOf [(412, t_Row_asAt), (701, t_Tal_take), (702, t_Tal_tell)] [some (vr o), some (vi q), none] M Q from ?_)⟩
  intro J hJ
  obtain ⟨rfl, hr, hq, q0, q1, h⟩ := h
  obtain ⟨r1, r2, r3, r4, r5, r6⟩ := hr
  obtain ⟨u1, u2, u3⟩ := hq
  obtain ⟨k1, k2, f1, f2, f3, t1, t2⟩ := u3 q q0 q1
  refine hJ 0 _ _ _ (show mm_wp _ _ _ mo_P_answerOf_0 _ _ _ from ?_)
  simp only [mo_P_answerOf_0, mm_wp, mm_ldi, mm_lda, mm_ldl, mm_sti, mm_sta, mm_stl, mm_inc, mm_2i, mm_mm, mm_2l, mm_lcmp, mm_i2l, mm_l2i, mm_cast8, mm_if1, mm_if2, mm_cmp, mm_swi, mm_sw, mm_pop1, mm_dup, mm_dup2, mm_geti, mm_geta, mm_puti, mm_iald, mm_bald, mm_aald, mm_iast, mm_bast, mm_alen, mm_acpy, mm_call, mm_callv, mm_recv, mm_pop, mm_find, mm_push, mm_cats, mm_cat, mm_reti, mm_retz, mm_retl, mm_reta, mm_retv, mm_set1, mm_set2, mm_kill, List.getElem?_cons_zero, List.getElem?_cons_succ, Int.reduceToNat, ↓reduceIte, Nat.reduceEqDiff, Nat.reduceDiv, Nat.reduceAdd, Nat.reduceLeDiff, Nat.zero_le, true_and, and_true, true_or, or_true, mm_b0, mm_b1, mm_lc_lt, mm_lc_le, mm_lc_gt, mm_lc_ge, mm_lc_eq, Int.not_lt, Int.not_le, Decidable.not_not, Int.sub_neg, c_0, c_1, c_2, l_2, c_3, c_4, l_4, c_5, l_5, c_6, l_6, c_7, l_7, c_8, c_9, l_9, c_10, l_10, c_11, l_11, c_12, l_12, c_13, c_14, l_14, c_15, l_15, c_16, l_16, c_17, l_17, c_18, c_19, l_19, c_20, l_20, c_21, l_21, c_22, l_22, c_23, c_24, l_24, c_25, l_25, c_26, c_27, c_28, l_28, c_29, c_30, l_30, c_31, c_32, l_32, c_33, l_33, c_34, l_34, c_35, l_35, c_36, l_36, c_37, l_37, c_38, l_38, c_39, l_39, c_40, c_41, l_41, c_42, c_43, c_44, l_44, c_45, c_46, l_46, c_47, c_48, l_48, c_49, l_49, c_50, l_50, c_51, l_51, c_52, l_52, c_53, l_53, c_54, l_54, c_55, l_55, c_56, l_56, c_57, l_57, c_58, l_58, c_59, l_59, c_60, l_60, c_61, l_61, c_62, c_63, l_63, c_64, l_64, c_65, l_65, c_66, l_66, c_67, l_67, c_68, l_68, c_69, l_69, c_70, l_70, c_71, l_71, c_72, l_72, c_73, l_73, c_74, l_74, c_75, l_75, c_76, l_76, t_Row_asAt, t_Tal_take, t_Tal_tell]
  refine ⟨by omega, isRow13, r2, t1, t2, r5, fun M1 a1 b1 => ?_⟩
  have e20 : M1 20 = M 20 := a1 20 (by decide)
  have e21 : M1 21 = M 21 := a1 21 (by decide)
  have cav : ∀ i, 0 ≤ i → i < M 13 4 → 0 ≤ M1 17 i ∧ M1 17 i < 64 := by
    intro i i0 i1
    rw [b1 i i0 i1]
    exact ca_in _ (r3 i i0 i1) (fun k hk => by have := r6 k (by omega) (by omega); omega)
  rw [e20, e21]
  refine ⟨by omega, by omega, f1, by omega, by omega, fun i i0 i1 => cav i (by omega) (by omega), fun M2 a2 b2 => ?_⟩
  have e19 : M2 19 = M 19 := by rw [a2 19 (by decide), a1 19 (by decide)]
  have hn : (M 21 q - M 20 q + 1).toNat ≤ 60 := by omega
  rw [e19]
  refine ⟨by omega, fun v v0 v1 => ?_, k1, k2, fun M3 a3 => ?_⟩
  · rw [b2 v v0 v1]
    have := hsN_b (M1 17) (M 20 q) v (M 21 q - M 20 q + 1).toNat
    omega
  · have ht : tell (M2 24) (M 19 q) = anF (M 14) (M 15) (M 16) (M 20 q) (M 21 q) (M 22 q) (M 19 q) := by
      unfold anF
      refine tell_cong (fun v v0 v1 => ?_)
      rw [b2 v v0 v1]
      exact hsN_cong _ (fun k hk => b1 _ (by omega) (by omega))
    rw [ht]
    exact h M3 (fun o' c1 c2 c3 => by rw [a3 o' c3, a2 o' c2, a1 o' c1])
def t_P_tallyWindow : mmT := fun as M Q => match as with
  | [.inr (.inr o)] => o = 0 ∧ rwI M ∧ wnI M ∧ ∀ M', (∀ o', o' ≠ 17 → o' ≠ 24 → M' o' = M o') → (∀ v, 0 ≤ v → v < 64 → M' 24 v = hsN (fun i => ca (M 14) (M 15) (M 16) i (M 45 3).toNat) (M 45 1) v (M 45 2 - M 45 1 + 1).toNat) → Q none M'
  | _ => False
set_option maxHeartbeats 4000000 in
set_option maxRecDepth 100000 in
theorem p_P_tallyWindow : ∀ as M Q, (∀ v ∈ as, mm_vin v) → mm_mem M → t_P_tallyWindow as M Q → (mm_ent as).length ≤ 1 ∧ mm_ok mb_P_tallyWindow [(412, t_Row_asAt), (701, t_Tal_take)] (mm_entry 1 as) M Q := by
  intro as M Q hin hM h
  unfold t_P_tallyWindow at h
  split at h
  rotate_left
  · exact h.elim
  rename_i o
  refine ⟨by simp [mm_ent], (show mm_ok mb_P_tallyWindow [(412, t_Row_asAt), (701, t_Tal_take)] [some (vr o)] M Q from ?_)⟩
  intro J hJ
  obtain ⟨rfl, hr, hw, h⟩ := h
  obtain ⟨r1, r2, r3, r4, r5, r6⟩ := hr
  obtain ⟨w1, w2, w3, w4, w5, -⟩ := hw
  refine hJ 0 _ _ _ (show mm_wp _ _ _ mo_P_tallyWindow_0 _ _ _ from ?_)
  simp only [mo_P_tallyWindow_0, mm_wp, mm_ldi, mm_lda, mm_ldl, mm_sti, mm_sta, mm_stl, mm_inc, mm_2i, mm_mm, mm_2l, mm_lcmp, mm_i2l, mm_l2i, mm_cast8, mm_if1, mm_if2, mm_cmp, mm_swi, mm_sw, mm_pop1, mm_dup, mm_dup2, mm_geti, mm_geta, mm_puti, mm_iald, mm_bald, mm_aald, mm_iast, mm_bast, mm_alen, mm_acpy, mm_call, mm_callv, mm_recv, mm_pop, mm_find, mm_push, mm_cats, mm_cat, mm_reti, mm_retz, mm_retl, mm_reta, mm_retv, mm_set1, mm_set2, mm_kill, List.getElem?_cons_zero, List.getElem?_cons_succ, Int.reduceToNat, ↓reduceIte, Nat.reduceEqDiff, Nat.reduceDiv, Nat.reduceAdd, Nat.reduceLeDiff, Nat.zero_le, true_and, and_true, true_or, or_true, mm_b0, mm_b1, mm_lc_lt, mm_lc_le, mm_lc_gt, mm_lc_ge, mm_lc_eq, Int.not_lt, Int.not_le, Decidable.not_not, Int.sub_neg, c_0, c_1, c_2, l_2, c_3, c_4, l_4, c_5, l_5, c_6, l_6, c_7, l_7, c_8, c_9, l_9, c_10, l_10, c_11, l_11, c_12, l_12, c_13, c_14, l_14, c_15, l_15, c_16, l_16, c_17, l_17, c_18, c_19, l_19, c_20, l_20, c_21, l_21, c_22, l_22, c_23, c_24, l_24, c_25, l_25, c_26, c_27, c_28, l_28, c_29, c_30, l_30, c_31, c_32, l_32, c_33, l_33, c_34, l_34, c_35, l_35, c_36, l_36, c_37, l_37, c_38, l_38, c_39, l_39, c_40, c_41, l_41, c_42, c_43, c_44, l_44, c_45, c_46, l_46, c_47, c_48, l_48, c_49, l_49, c_50, l_50, c_51, l_51, c_52, l_52, c_53, l_53, c_54, l_54, c_55, l_55, c_56, l_56, c_57, l_57, c_58, l_58, c_59, l_59, c_60, l_60, c_61, l_61, c_62, c_63, l_63, c_64, l_64, c_65, l_65, c_66, l_66, c_67, l_67, c_68, l_68, c_69, l_69, c_70, l_70, c_71, l_71, c_72, l_72, c_73, l_73, c_74, l_74, c_75, l_75, c_76, l_76, t_Row_asAt, t_Tal_take]
  refine ⟨isRow13, r2, w4, w5, r5, fun M1 a1 b1 => ?_⟩
  have e45 : M1 45 = M 45 := a1 45 (by decide)
  have cav : ∀ i, 0 ≤ i → i < M 13 4 → 0 ≤ M1 17 i ∧ M1 17 i < 64 := by
    intro i i0 i1
    rw [b1 i i0 i1]
    exact ca_in _ (r3 i i0 i1) (fun k hk => by have := r6 k (by omega) (by omega); omega)
  rw [e45]
  refine ⟨w1, by omega, w2, fun i i0 i1 => cav i (by omega) (by omega), fun M2 a2 b2 => h M2 (fun o' c1 c2 => by rw [a2 o' c2, a1 o' c1]) (fun v v0 v1 => ?_)⟩
  rw [b2 v v0 v1]
  exact hsN_cong _ (fun k hk => b1 _ (by omega) (by omega))
/-- what the plan P of n questions costs -/
def coF (f l t P : Int → Int) (n w : Int) : Int := sN (stE f l P) n.toNat + w * sN (stU t P) n.toNat
theorem plB_of {M M' : mmM} {wo ord b : Int} (h : isKey (sPl M 18 wo) (kyf M 18 ord b) (M' 28) (M' 27 1)) (h1 : M' 27 1 ≤ M 18 4) (h2 : M 18 4 ≤ 25) (h3 : M' 18 = M 18) : plB M' := by
  refine ⟨h.1.1, by omega, fun i i0 i1 => ?_⟩
  have := h.1.2.1 i i0 i1
  rw [h3]
  exact ⟨this.1, this.2.1⟩
theorem st_b {M : mmM} (hB : qB M 18) (hP : plB M) : ∀ k : Nat, (k : Int) ≤ M 27 1 → 0 ≤ sN (stE (M 20) (M 21) (plP M)) k ∧ sN (stE (M 20) (M 21) (plP M)) k ≤ 200 * k ∧ 0 ≤ sN (stU (M 22) (plP M)) k ∧ sN (stU (M 22) (plP M)) k ≤ 100 * k := by
  have hB2 : ∀ q, 0 ≤ q → q < M 18 4 → 0 ≤ M 20 q ∧ M 20 q < 60 ∧ 0 ≤ M 21 q ∧ M 21 q < 60 ∧ 0 ≤ M 22 q ∧ M 22 q ≤ 32 := hB.2.2
  obtain ⟨n0, n1, hPq⟩ := hP
  intro k
  induction k with
  | zero => intro _; simp [sN]
  | succ k ih =>
    intro hk
    have i1 := ih (by omega)
    have a := hB2 _ (hPq k (by omega) (by omega)).1 (hPq k (by omega) (by omega)).2
    have i2 : 0 ≤ stE (M 20) (M 21) (plP M) k ∧ stE (M 20) (M 21) (plP M) k ≤ 200 ∧ 0 ≤ stU (M 22) (plP M) k ∧ stU (M 22) (plP M) k ≤ 100 := by
      unfold stE stU pv plP dA
      by_cases hk0 : (k : Int) = 0
      · simp only [hk0, ↓reduceIte] at a ⊢; omega
      · have b := hB2 _ (hPq ((k : Int) - 1) (by omega) (by omega)).1 (hPq ((k : Int) - 1) (by omega) (by omega)).2
        simp only [hk0, ↓reduceIte]; omega
    simp only [sN]
    omega
def t_P_costOf : mmT := fun as M Q => match as with
  | [.inr (.inr o), .inl ord, .inl b, .inl wo] => o = 0 ∧ qB M 18 ∧ seI M ∧ 0 ≤ ord ∧ ord ≤ 2 ∧ 1 ≤ b ∧ b ≤ 60 ∧ ∀ M' P n, (∀ o', o' < 26 ∨ 30 < o' → M' o' = M o') → isOrd (sPl M 18 wo) (kyf M 18 ord b) P n → 0 ≤ coF (M 20) (M 21) (M 22) P n (M 0 9) → coF (M 20) (M 21) (M 22) P n (M 0 9) ≤ 100000 → Q (some (vi (coF (M 20) (M 21) (M 22) P n (M 0 9)))) M'
  | _ => False
set_option maxHeartbeats 4000000 in
set_option maxRecDepth 100000 in
theorem p_P_costOf : ∀ as M Q, (∀ v ∈ as, mm_vin v) → mm_mem M → t_P_costOf as M Q → (mm_ent as).length ≤ 4 ∧ mm_ok mb_P_costOf [(101, t_Plan_lay), (105, t_Plan_follow), (903, t_Win_cost)] (mm_entry 4 as) M Q := by
  intro as M Q hin hM h
  unfold t_P_costOf at h
  split at h
  rotate_left
  · exact h.elim
  rename_i o ord b wo
  have hR_ord : mm_R ord := hin (vi ord) (by simp)
  have hR_b : mm_R b := hin (vi b) (by simp)
  have hR_wo : mm_R wo := hin (vi wo) (by simp)
  refine ⟨by simp [mm_ent], (show mm_ok mb_P_costOf [(101, t_Plan_lay), (105, t_Plan_follow), (903, t_Win_cost)] [some (vr o), some (vi ord), some (vi b), some (vi wo)] M Q from ?_)⟩
  intro J hJ
  obtain ⟨rfl, hB, hs, o1, o2, b1, b2, h⟩ := h
  refine hJ 0 _ _ _ (show mm_wp _ _ _ mo_P_costOf_0 _ _ _ from ?_)
  simp only [mo_P_costOf_0, mm_wp, mm_ldi, mm_lda, mm_ldl, mm_sti, mm_sta, mm_stl, mm_inc, mm_2i, mm_mm, mm_2l, mm_lcmp, mm_i2l, mm_l2i, mm_cast8, mm_if1, mm_if2, mm_cmp, mm_swi, mm_sw, mm_pop1, mm_dup, mm_dup2, mm_geti, mm_geta, mm_puti, mm_iald, mm_bald, mm_aald, mm_iast, mm_bast, mm_alen, mm_acpy, mm_call, mm_callv, mm_recv, mm_pop, mm_find, mm_push, mm_cats, mm_cat, mm_reti, mm_retz, mm_retl, mm_reta, mm_retv, mm_set1, mm_set2, mm_kill, List.getElem?_cons_zero, List.getElem?_cons_succ, Int.reduceToNat, ↓reduceIte, Nat.reduceEqDiff, Nat.reduceDiv, Nat.reduceAdd, Nat.reduceLeDiff, Nat.zero_le, true_and, and_true, true_or, or_true, mm_b0, mm_b1, mm_lc_lt, mm_lc_le, mm_lc_gt, mm_lc_ge, mm_lc_eq, Int.not_lt, Int.not_le, Decidable.not_not, Int.sub_neg, c_0, c_1, c_2, l_2, c_3, c_4, l_4, c_5, l_5, c_6, l_6, c_7, l_7, c_8, c_9, l_9, c_10, l_10, c_11, l_11, c_12, l_12, c_13, c_14, l_14, c_15, l_15, c_16, l_16, c_17, l_17, c_18, c_19, l_19, c_20, l_20, c_21, l_21, c_22, l_22, c_23, c_24, l_24, c_25, l_25, c_26, c_27, c_28, l_28, c_29, c_30, l_30, c_31, c_32, l_32, c_33, l_33, c_34, l_34, c_35, l_35, c_36, l_36, c_37, l_37, c_38, l_38, c_39, l_39, c_40, c_41, l_41, c_42, c_43, c_44, l_44, c_45, c_46, l_46, c_47, c_48, l_48, c_49, l_49, c_50, l_50, c_51, l_51, c_52, l_52, c_53, l_53, c_54, l_54, c_55, l_55, c_56, l_56, c_57, l_57, c_58, l_58, c_59, l_59, c_60, l_60, c_61, l_61, c_62, c_63, l_63, c_64, l_64, c_65, l_65, c_66, l_66, c_67, l_67, c_68, l_68, c_69, l_69, c_70, l_70, c_71, l_71, c_72, l_72, c_73, l_73, c_74, l_74, c_75, l_75, c_76, l_76, t_Plan_lay, t_Plan_follow, t_Win_cost]
  refine ⟨isPl26, isQ18, hB, by decide, o1, o2, b1, b2, fun M1 f1 n1 k1 => ?_⟩
  have e18 : M1 18 = M 18 := f1 18 (by decide) (by decide)
  have e20 : M1 20 = M 20 := f1 20 (by decide) (by decide)
  have e21 : M1 21 = M 21 := f1 21 (by decide) (by decide)
  have e22 : M1 22 = M 22 := f1 22 (by decide) (by decide)
  have hB1 : qB M1 18 := by
    refine ⟨by rw [e18]; exact hB.1, by rw [e18]; exact hB.2.1, ?_⟩
    show ∀ q, 0 ≤ q → q < M1 18 4 → 0 ≤ M1 20 q ∧ M1 20 q < 60 ∧ 0 ≤ M1 21 q ∧ M1 21 q < 60 ∧ 0 ≤ M1 22 q ∧ M1 22 q ≤ 32
    rw [e18, e20, e21, e22]
    exact hB.2.2
  have hP := plB_of k1 n1 hB.2.1 e18
  have hsb := st_b hB1 hP (M1 27 1).toNat (by have := hP.1; omega)
  have hn := hP.2.1
  refine ⟨hB1, hP, fun M2 f2 a4 a5 a6 => ?_⟩
  have e0 : M2 0 = M 0 := by rw [f2 0 (by decide) (by decide) (by decide), f1 0 (by decide) (by decide)]
  unfold seI at hs
  rw [e0, a4, a5, e20, e21, e22]
  rw [e20, e21, e22] at hsb
  refine ⟨isW29, by omega, by omega, by omega, by omega, by omega, by omega, ?_⟩
  exact h M2 (plP M1) (M1 27 1) (fun o' c => by rw [f2 o' (by omega) (by omega) (by omega), f1 o' (by omega) (by omega)]) k1.1 (by unfold coF; have := mul_b (a := M 0 9) (b := sN (stU (M 22) (plP M1)) (M1 27 1).toNat) (A := 9) (B := 2500) (by omega) (by omega) (by omega) (by omega); omega) (by unfold coF; have := mul_b (a := M 0 9) (b := sN (stU (M 22) (plP M1)) (M1 27 1).toNat) (A := 9) (B := 2500) (by omega) (by omega) (by omega) (by omega); omega)
