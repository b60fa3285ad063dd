/-! the reference: answers, the window, what is alike -/
def mR (M : mmM) : Prop := 2 ≤ M 62 3 ∧ M 62 3 ≤ 60 ∧ (∀ i, 0 ≤ i → i < M 62 3 → 0 ≤ M 64 i ∧ M 64 i < 64) ∧ 0 ≤ M 62 5 ∧ M 62 5 ≤ 32 ∧ ∀ k, 0 ≤ k → k < M 62 5 → 0 ≤ M 65 k ∧ M 65 k < M 62 3 ∧ 0 ≤ M 66 k ∧ M 66 k < 64
def mQ (M : mmM) (n : Int) : Prop := 0 ≤ M 62 8 ∧ M 62 8 ≤ n ∧ ∀ q, 0 ≤ q → q < M 62 8 → 0 ≤ M 67 (4 * q) ∧ M 67 (4 * q) ≤ 7 ∧ 0 ≤ M 67 (4 * q + 1) ∧ M 67 (4 * q + 1) ≤ M 67 (4 * q + 2) ∧ M 67 (4 * q + 2) < M 62 3 ∧ 0 ≤ M 67 (4 * q + 3) ∧ M 67 (4 * q + 3) ≤ M 62 5
def mW (M : mmM) : Prop := 0 ≤ M 62 39 ∧ M 62 39 ≤ M 62 40 + 1 ∧ M 62 40 < M 62 3 ∧ 0 ≤ M 62 41 ∧ M 62 41 ≤ M 62 5 ∧ 0 ≤ M 62 43 ∧ M 62 43 ≤ 5000000 ∧ 0 ≤ M 62 44 ∧ M 62 44 ≤ 5000000 ∧ 0 ≤ M 62 42 ∧ M 62 42 ≤ 24
theorem mR_ca {M : mmM} (h : mR M) {i t : Int} (i0 : 0 ≤ i) (i1 : i < M 62 3) (t1 : t ≤ M 62 5) : 0 ≤ ca (M 64) (M 65) (M 66) i t.toNat ∧ ca (M 64) (M 65) (M 66) i t.toNat < 64 :=
  ca_in _ (h.2.2.1 i i0 i1) (fun k hk => by have := h.2.2.2.2.2 k (by omega) (by omega); omega)
def t_M_answerOf : mmT := fun as M Q => match as with
  | [.inr (.inr o), .inl q] => o = 62 ∧ mR M ∧ mQ M 25 ∧ 0 ≤ q ∧ q < M 62 8 ∧ ∀ M', (∀ o', o' ≠ 73 → o' ≠ 74 → M' o' = M o') → Q (some (vl (anF (M 64) (M 65) (M 66) (M 67 (4 * q + 1)) (M 67 (4 * q + 2)) (M 67 (4 * q + 3)) (M 67 (4 * q))))) M'
  | _ => False
set_option maxHeartbeats 4000000 in
set_option maxRecDepth 100000 in
theorem p_M_answerOf : ∀ as M Q, (∀ v ∈ as, mm_vin v) → mm_mem M → t_M_answerOf as M Q → (mm_ent as).length ≤ 2 ∧ mm_ok mb_M_answerOf [(1140, t_M_lays), (1143, t_M_tellsOf)] (mm_entry 2 as) M Q := by
  intro as M Q hin hM h
  unfold t_M_answerOf at h
  split at h
  rotate_left
  · exact h.elim
  rename_i o q
  have hR_q : mm_R q := hin (vi q) (by simp)
  refine ⟨by simp [mm_ent], (show mm_ok mb_M_answerOf [(1140, t_M_lays), (1143, t_M_tellsOf)] [some (vr o), some (vi q)] M Q from ?_)⟩
  intro J hJ
  obtain ⟨rfl, hr, hq, q0, q1, h⟩ := h
  have hr2 := hr
  obtain ⟨r1, r2, r3, r4, r5, r6⟩ := hr2
  obtain ⟨u1, u2, u3⟩ := hq
  obtain ⟨k1, k2, f1, f2, f3, t1, t2⟩ := u3 q q0 q1
  refine hJ 0 _ _ _ (show mm_wp _ _ _ mo_M_answerOf_0 _ _ _ from ?_)
  simp only [mo_M_answerOf_0, mm_wp, mm_ldi, mm_lda, mm_ldl, mm_sti, mm_sta, mm_stl, mm_inc, mm_2i, mm_mm, mm_2l, mm_lcmp, mm_i2l, mm_l2i, mm_cast8, mm_if1, mm_if2, mm_cmp, mm_swi, mm_sw, mm_pop1, mm_dup, mm_dup2, mm_geti, mm_geta, mm_puti, mm_iald, mm_bald, mm_aald, mm_iast, mm_bast, mm_alen, mm_acpy, mm_call, mm_callv, mm_recv, mm_pop, mm_find, mm_push, mm_cats, mm_cat, mm_reti, mm_retz, mm_retl, mm_reta, mm_retv, mm_set1, mm_set2, mm_kill, List.getElem?_cons_zero, List.getElem?_cons_succ, Int.reduceToNat, ↓reduceIte, Nat.reduceEqDiff, Nat.reduceDiv, Nat.reduceAdd, Nat.reduceLeDiff, Nat.zero_le, true_and, and_true, true_or, or_true, mm_b0, mm_b1, mm_lc_lt, mm_lc_le, mm_lc_gt, mm_lc_ge, mm_lc_eq, Int.not_lt, Int.not_le, Decidable.not_not, Int.sub_neg, c_0, c_1, c_2, l_2, c_3, c_4, l_4, c_5, l_5, c_6, l_6, c_7, l_7, c_8, c_9, l_9, c_10, l_10, c_11, l_11, c_12, l_12, c_13, c_14, l_14, c_15, l_15, c_16, l_16, c_17, l_17, c_18, c_19, l_19, c_20, l_20, c_21, l_21, c_22, l_22, c_23, c_24, l_24, c_25, l_25, c_26, c_27, c_28, l_28, c_29, c_30, l_30, c_31, c_32, l_32, c_33, l_33, c_34, l_34, c_35, l_35, c_36, l_36, c_37, l_37, c_38, l_38, c_39, l_39, c_40, c_41, l_41, c_42, c_43, c_44, l_44, c_45, c_46, l_46, c_47, c_48, l_48, c_49, l_49, c_50, l_50, c_51, l_51, c_52, l_52, c_53, l_53, c_54, l_54, c_55, l_55, c_56, l_56, c_57, l_57, c_58, l_58, c_59, l_59, c_60, l_60, c_61, l_61, c_62, c_63, l_63, c_64, l_64, c_65, l_65, c_66, l_66, c_67, l_67, c_68, l_68, c_69, l_69, c_70, l_70, c_71, l_71, c_72, l_72, c_73, l_73, c_74, l_74, c_75, l_75, c_76, l_76, t_M_lays, t_M_tellsOf]
  repeat (refine And.intro (by omega) ?_)
  refine ⟨fun i i0 i1 => mR_ca hr (by omega) (by omega) (by omega), fun M1 a1 b1 => ?_⟩
  have e67 : M1 67 = M 67 := a1 67 (by decide)
  rw [e67]
  have hn : (M 67 (4 * q + 2) - M 67 (4 * q + 1) + 1).toNat ≤ 60 := by omega
  refine ⟨by omega, by omega, fun v v0 v1 => ?_, k1, k2, fun M2 a2 => ?_⟩
  · rw [b1 v v0 v1]
    have := hsN_b (fun i => ca (M 64) (M 65) (M 66) i (M 67 (4 * q + 3)).toNat) (M 67 (4 * q + 1)) v (M 67 (4 * q + 2) - M 67 (4 * q + 1) + 1).toNat
    omega
  · rw [tell_cong b1]
    exact h M2 (fun o' c1 c2 => by rw [a2 o' c2, a1 o' c1])
def t_M_answer : mmT := fun as M Q => match as with
  | [.inr (.inr o), .inl q] => o = 62 ∧ mR M ∧ mQ M 24 ∧ (¬ (0 ≤ q ∧ q < M 62 8) → Q (some (vl 0)) (mm_up M 62 0 1)) ∧ ((0 ≤ q ∧ q < M 62 8) → ∀ M', (∀ o', o' ≠ 73 → o' ≠ 74 → M' o' = tz M o') → Q (some (vl (anF (M 64) (M 65) (M 66) (M 67 (4 * q + 1)) (M 67 (4 * q + 2)) (M 67 (4 * q + 3)) (M 67 (4 * q))))) M')
  | _ => False
theorem mR_up {M : mmM} {v : Int} (h : mR M) : mR (mm_up M 62 0 v) := by
  unfold mR
  rw [mm_up_i _ (by decide), mm_up_i _ (by decide), mm_up_o _ _ (by decide), mm_up_o _ _ (by decide), mm_up_o _ _ (by decide)]
  exact h
theorem mQ_up {M : mmM} {v n : Int} (h : mQ M n) : mQ (mm_up M 62 0 v) n := by
  unfold mQ
  rw [mm_up_i _ (by decide), mm_up_i _ (by decide), mm_up_i _ (by decide), mm_up_o _ _ (by decide)]
  exact h
theorem mW_up {M : mmM} {v : Int} (h : mW M) : mW (mm_up M 62 0 v) := by
  unfold mW
  simp only [mm_up_if, Int.reduceEq, ↓reduceIte]
  exact h
theorem mQ_25 {M : mmM} (h : mQ M 24) : mQ M 25 := ⟨h.1, by have := h.2.1; omega, h.2.2⟩
set_option maxHeartbeats 4000000 in
set_option maxRecDepth 100000 in
theorem p_M_answer : ∀ as M Q, (∀ v ∈ as, mm_vin v) → mm_mem M → t_M_answer as M Q → (mm_ent as).length ≤ 2 ∧ mm_ok mb_M_answer [(1127, t_M_isQuestion), (1144, t_M_answerOf)] (mm_entry 2 as) M Q := by
  intro as M Q hin hM h
  unfold t_M_answer at h
  split at h
  rotate_left
  · exact h.elim
  rename_i o q
  have hR_q : mm_R q := hin (vi q) (by simp)
  refine ⟨by simp [mm_ent], (show mm_ok mb_M_answer [(1127, t_M_isQuestion), (1144, t_M_answerOf)] [some (vr o), some (vi q)] M Q from ?_)⟩
  intro J hJ
  obtain ⟨rfl, hr, hq, hN, hY⟩ := h
  have h33 : ∀ (z : Int) (M1 : mmM), Q (some (vl z)) M1 → J 33 [some (vr 62), some (vi q)] [vl z] M1 := by
    intro z M1 hz
    refine hJ 33 _ _ _ (show mm_wp _ _ _ mo_M_answer_33 _ _ _ from ?_)
    simp only [mo_M_answer_33, mm_wp, mm_ldi, mm_lda, mm_ldl, mm_sti, mm_sta, mm_stl, mm_inc, mm_2i, mm_mm, mm_2l, mm_lcmp, mm_i2l, mm_l2i, mm_cast8, mm_if1, mm_if2, mm_cmp, mm_swi, mm_sw, mm_pop1, mm_dup, mm_dup2, mm_geti, mm_geta, mm_puti, mm_iald, mm_bald, mm_aald, mm_iast, mm_bast, mm_alen, mm_acpy, mm_call, mm_callv, mm_recv, mm_pop, mm_find, mm_push, mm_cats, mm_cat, mm_reti, mm_retz, mm_retl, mm_reta, mm_retv, mm_set1, mm_set2, mm_kill, List.getElem?_cons_zero, List.getElem?_cons_succ, Int.reduceToNat, ↓reduceIte, Nat.reduceEqDiff, Nat.reduceDiv, Nat.reduceAdd, Nat.reduceLeDiff, Nat.zero_le, true_and, and_true, true_or, or_true, mm_b0, mm_b1, mm_lc_lt, mm_lc_le, mm_lc_gt, mm_lc_ge, mm_lc_eq, Int.not_lt, Int.not_le, Decidable.not_not, Int.sub_neg]
    exact hz
  have h14 : J 14 [some (vr 62), some (vi q)] [vi (if 0 ≤ q ∧ q < M 62 8 then 0 else 1), vr 62] M := by
    by_cases hc : 0 ≤ q ∧ q < M 62 8
    · have hY := hY hc
      rw [if_pos hc]
      have h28 : J 28 [some (vr 62), some (vi q)] [] (mm_up M 62 0 0) := by
        refine hJ 28 _ _ _ (show mm_wp _ _ _ mo_M_answer_28 _ _ _ from ?_)
        simp only [mo_M_answer_28, mm_wp, mm_ldi, mm_lda, mm_ldl, mm_sti, mm_sta, mm_stl, mm_inc, mm_2i, mm_mm, mm_2l, mm_lcmp, mm_i2l, mm_l2i, mm_cast8, mm_if1, mm_if2, mm_cmp, mm_swi, mm_sw, mm_pop1, mm_dup, mm_dup2, mm_geti, mm_geta, mm_puti, mm_iald, mm_bald, mm_aald, mm_iast, mm_bast, mm_alen, mm_acpy, mm_call, mm_callv, mm_recv, mm_pop, mm_find, mm_push, mm_cats, mm_cat, mm_reti, mm_retz, mm_retl, mm_reta, mm_retv, mm_set1, mm_set2, mm_kill, List.getElem?_cons_zero, List.getElem?_cons_succ, Int.reduceToNat, ↓reduceIte, Nat.reduceEqDiff, Nat.reduceDiv, Nat.reduceAdd, Nat.reduceLeDiff, Nat.zero_le, true_and, and_true, true_or, or_true, mm_b0, mm_b1, mm_lc_lt, mm_lc_le, mm_lc_gt, mm_lc_ge, mm_lc_eq, Int.not_lt, Int.not_le, Decidable.not_not, Int.sub_neg, c_0, c_1, c_2, l_2, c_3, c_4, l_4, c_5, l_5, c_6, l_6, c_7, l_7, c_8, c_9, l_9, c_10, l_10, c_11, l_11, c_12, l_12, c_13, c_14, l_14, c_15, l_15, c_16, l_16, c_17, l_17, c_18, c_19, l_19, c_20, l_20, c_21, l_21, c_22, l_22, c_23, c_24, l_24, c_25, l_25, c_26, c_27, c_28, l_28, c_29, c_30, l_30, c_31, c_32, l_32, c_33, l_33, c_34, l_34, c_35, l_35, c_36, l_36, c_37, l_37, c_38, l_38, c_39, l_39, c_40, c_41, l_41, c_42, c_43, c_44, l_44, c_45, c_46, l_46, c_47, c_48, l_48, c_49, l_49, c_50, l_50, c_51, l_51, c_52, l_52, c_53, l_53, c_54, l_54, c_55, l_55, c_56, l_56, c_57, l_57, c_58, l_58, c_59, l_59, c_60, l_60, c_61, l_61, c_62, c_63, l_63, c_64, l_64, c_65, l_65, c_66, l_66, c_67, l_67, c_68, l_68, c_69, l_69, c_70, l_70, c_71, l_71, c_72, l_72, c_73, l_73, c_74, l_74, c_75, l_75, c_76, l_76, t_M_answerOf]
        have e : ∀ o, o ≠ 62 → mm_up M 62 0 0 o = M o := fun o ho => mm_up_o _ _ ho
        have e8 : mm_up M 62 0 0 62 8 = M 62 8 := mm_up_i _ (by decide)
        rw [e 64 (by decide), e 65 (by decide), e 66 (by decide), e 67 (by decide), e8]
        exact ⟨mR_up hr, mQ_up (mQ_25 hq), hc.1, hc.2, fun M' f => h33 _ _ (hY M' f)⟩
      refine hJ 14 _ _ _ (show mm_wp _ _ _ mo_M_answer_14 _ _ _ from ?_)
      simp only [mo_M_answer_14, mm_wp, mm_ldi, mm_lda, mm_ldl, mm_sti, mm_sta, mm_stl, mm_inc, mm_2i, mm_mm, mm_2l, mm_lcmp, mm_i2l, mm_l2i, mm_cast8, mm_if1, mm_if2, mm_cmp, mm_swi, mm_sw, mm_pop1, mm_dup, mm_dup2, mm_geti, mm_geta, mm_puti, mm_iald, mm_bald, mm_aald, mm_iast, mm_bast, mm_alen, mm_acpy, mm_call, mm_callv, mm_recv, mm_pop, mm_find, mm_push, mm_cats, mm_cat, mm_reti, mm_retz, mm_retl, mm_reta, mm_retv, mm_set1, mm_set2, mm_kill, List.getElem?_cons_zero, List.getElem?_cons_succ, Int.reduceToNat, ↓reduceIte, Nat.reduceEqDiff, Nat.reduceDiv, Nat.reduceAdd, Nat.reduceLeDiff, Nat.zero_le, true_and, and_true, true_or, or_true, mm_b0, mm_b1, mm_lc_lt, mm_lc_le, mm_lc_gt, mm_lc_ge, mm_lc_eq, Int.not_lt, Int.not_le, Decidable.not_not, Int.sub_neg, c_0, c_1, c_2, l_2, c_3, c_4, l_4, c_5, l_5, c_6, l_6, c_7, l_7, c_8, c_9, l_9, c_10, l_10, c_11, l_11, c_12, l_12, c_13, c_14, l_14, c_15, l_15, c_16, l_16, c_17, l_17, c_18, c_19, l_19, c_20, l_20, c_21, l_21, c_22, l_22, c_23, c_24, l_24, c_25, l_25, c_26, c_27, c_28, l_28, c_29, c_30, l_30, c_31, c_32, l_32, c_33, l_33, c_34, l_34, c_35, l_35, c_36, l_36, c_37, l_37, c_38, l_38, c_39, l_39, c_40, c_41, l_41, c_42, c_43, c_44, l_44, c_45, c_46, l_46, c_47, c_48, l_48, c_49, l_49, c_50, l_50, c_51, l_51, c_52, l_52, c_53, l_53, c_54, l_54, c_55, l_55, c_56, l_56, c_57, l_57, c_58, l_58, c_59, l_59, c_60, l_60, c_61, l_61, c_62, c_63, l_63, c_64, l_64, c_65, l_65, c_66, l_66, c_67, l_67, c_68, l_68, c_69, l_69, c_70, l_70, c_71, l_71, c_72, l_72, c_73, l_73, c_74, l_74, c_75, l_75, c_76, l_76, mm_up_s]
      exact ⟨fun _ => h28, fun z => by omega⟩
    · have hN := hN hc
      rw [if_neg hc]
      refine hJ 14 _ _ _ (show mm_wp _ _ _ mo_M_answer_14 _ _ _ from ?_)
      simp only [mo_M_answer_14, mm_wp, mm_ldi, mm_lda, mm_ldl, mm_sti, mm_sta, mm_stl, mm_inc, mm_2i, mm_mm, mm_2l, mm_lcmp, mm_i2l, mm_l2i, mm_cast8, mm_if1, mm_if2, mm_cmp, mm_swi, mm_sw, mm_pop1, mm_dup, mm_dup2, mm_geti, mm_geta, mm_puti, mm_iald, mm_bald, mm_aald, mm_iast, mm_bast, mm_alen, mm_acpy, mm_call, mm_callv, mm_recv, mm_pop, mm_find, mm_push, mm_cats, mm_cat, mm_reti, mm_retz, mm_retl, mm_reta, mm_retv, mm_set1, mm_set2, mm_kill, List.getElem?_cons_zero, List.getElem?_cons_succ, Int.reduceToNat, ↓reduceIte, Nat.reduceEqDiff, Nat.reduceDiv, Nat.reduceAdd, Nat.reduceLeDiff, Nat.zero_le, true_and, and_true, true_or, or_true, mm_b0, mm_b1, mm_lc_lt, mm_lc_le, mm_lc_gt, mm_lc_ge, mm_lc_eq, Int.not_lt, Int.not_le, Decidable.not_not, Int.sub_neg, c_0, c_1, c_2, l_2, c_3, c_4, l_4, c_5, l_5, c_6, l_6, c_7, l_7, c_8, c_9, l_9, c_10, l_10, c_11, l_11, c_12, l_12, c_13, c_14, l_14, c_15, l_15, c_16, l_16, c_17, l_17, c_18, c_19, l_19, c_20, l_20, c_21, l_21, c_22, l_22, c_23, c_24, l_24, c_25, l_25, c_26, c_27, c_28, l_28, c_29, c_30, l_30, c_31, c_32, l_32, c_33, l_33, c_34, l_34, c_35, l_35, c_36, l_36, c_37, l_37, c_38, l_38, c_39, l_39, c_40, c_41, l_41, c_42, c_43, c_44, l_44, c_45, c_46, l_46, c_47, c_48, l_48, c_49, l_49, c_50, l_50, c_51, l_51, c_52, l_52, c_53, l_53, c_54, l_54, c_55, l_55, c_56, l_56, c_57, l_57, c_58, l_58, c_59, l_59, c_60, l_60, c_61, l_61, c_62, c_63, l_63, c_64, l_64, c_65, l_65, c_66, l_66, c_67, l_67, c_68, l_68, c_69, l_69, c_70, l_70, c_71, l_71, c_72, l_72, c_73, l_73, c_74, l_74, c_75, l_75, c_76, l_76, mm_up_s]
      exact ⟨fun z => by omega, fun _ => h33 _ _ hN⟩
  have h13 : ¬ (0 ≤ q ∧ q < M 62 8) → J 13 [some (vr 62), some (vi q)] [vr 62] M := by
    intro hc
    rw [if_neg hc] at h14
    refine hJ 13 _ _ _ (show mm_wp _ _ _ mo_M_answer_13 _ _ _ from ?_)
    simp only [mo_M_answer_13, mm_wp, mm_ldi, mm_lda, mm_ldl, mm_sti, mm_sta, mm_stl, mm_inc, mm_2i, mm_mm, mm_2l, mm_lcmp, mm_i2l, mm_l2i, mm_cast8, mm_if1, mm_if2, mm_cmp, mm_swi, mm_sw, mm_pop1, mm_dup, mm_dup2, mm_geti, mm_geta, mm_puti, mm_iald, mm_bald, mm_aald, mm_iast, mm_bast, mm_alen, mm_acpy, mm_call, mm_callv, mm_recv, mm_pop, mm_find, mm_push, mm_cats, mm_cat, mm_reti, mm_retz, mm_retl, mm_reta, mm_retv, mm_set1, mm_set2, mm_kill, List.getElem?_cons_zero, List.getElem?_cons_succ, Int.reduceToNat, ↓reduceIte, Nat.reduceEqDiff, Nat.reduceDiv, Nat.reduceAdd, Nat.reduceLeDiff, Nat.zero_le, true_and, and_true, true_or, or_true, mm_b0, mm_b1, mm_lc_lt, mm_lc_le, mm_lc_gt, mm_lc_ge, mm_lc_eq, Int.not_lt, Int.not_le, Decidable.not_not, Int.sub_neg]
    exact h14
  refine hJ 0 _ _ _ (show mm_wp _ _ _ mo_M_answer_0 _ _ _ from ?_)
  simp only [mo_M_answer_0, mm_wp, mm_ldi, mm_lda, mm_ldl, mm_sti, mm_sta, mm_stl, mm_inc, mm_2i, mm_mm, mm_2l, mm_lcmp, mm_i2l, mm_l2i, mm_cast8, mm_if1, mm_if2, mm_cmp, mm_swi, mm_sw, mm_pop1, mm_dup, mm_dup2, mm_geti, mm_geta, mm_puti, mm_iald, mm_bald, mm_aald, mm_iast, mm_bast, mm_alen, mm_acpy, mm_call, mm_callv, mm_recv, mm_pop, mm_find, mm_push, mm_cats, mm_cat, mm_reti, mm_retz, mm_retl, mm_reta, mm_retv, mm_set1, mm_set2, mm_kill, List.getElem?_cons_zero, List.getElem?_cons_succ, Int.reduceToNat, ↓reduceIte, Nat.reduceEqDiff, Nat.reduceDiv, Nat.reduceAdd, Nat.reduceLeDiff, Nat.zero_le, true_and, and_true, true_or, or_true, mm_b0, mm_b1, mm_lc_lt, mm_lc_le, mm_lc_gt, mm_lc_ge, mm_lc_eq, Int.not_lt, Int.not_le, Decidable.not_not, Int.sub_neg, c_0, c_1, c_2, l_2, c_3, c_4, l_4, c_5, l_5, c_6, l_6, c_7, l_7, c_8, c_9, l_9, c_10, l_10, c_11, l_11, c_12, l_12, c_13, c_14, l_14, c_15, l_15, c_16, l_16, c_17, l_17, c_18, c_19, l_19, c_20, l_20, c_21, l_21, c_22, l_22, c_23, c_24, l_24, c_25, l_25, c_26, c_27, c_28, l_28, c_29, c_30, l_30, c_31, c_32, l_32, c_33, l_33, c_34, l_34, c_35, l_35, c_36, l_36, c_37, l_37, c_38, l_38, c_39, l_39, c_40, c_41, l_41, c_42, c_43, c_44, l_44, c_45, c_46, l_46, c_47, c_48, l_48, c_49, l_49, c_50, l_50, c_51, l_51, c_52, l_52, c_53, l_53, c_54, l_54, c_55, l_55, c_56, l_56, c_57, l_57, c_58, l_58, c_59, l_59, c_60, l_60, c_61, l_61, c_62, c_63, l_63, c_64, l_64, c_65, l_65, c_66, l_66, c_67, l_67, c_68, l_68, c_69, l_69, c_70, l_70, c_71, l_71, c_72, l_72, c_73, l_73, c_74, l_74, c_75, l_75, c_76, l_76, t_M_isQuestion]
  refine ⟨fun z => h13 z, fun z => ?_⟩
  rw [if_pos z] at h14
  exact h14
def t_M_laysWindow : mmT := fun as M Q => match as with
  | [.inr (.inr o)] => o = 62 ∧ mR M ∧ mW M ∧ ∀ M', (∀ o', o' ≠ 73 → M' o' = M o') → (∀ v, 0 ≤ v → v < 64 → M' 73 v = hsN (fun i => ca (M 64) (M 65) (M 66) i (M 62 41).toNat) (M 62 39) v (M 62 40 - M 62 39 + 1).toNat) → Q none M'
  | _ => False
set_option maxHeartbeats 4000000 in
set_option maxRecDepth 100000 in
theorem p_M_laysWindow : ∀ as M Q, (∀ v ∈ as, mm_vin v) → mm_mem M → t_M_laysWindow as M Q → (mm_ent as).length ≤ 1 ∧ mm_ok mb_M_laysWindow [(1140, t_M_lays)] (mm_entry 1 as) M Q := by
  intro as M Q hin hM h
  unfold t_M_laysWindow at h
  split at h
  rotate_left
  · exact h.elim
  rename_i o
  refine ⟨by simp [mm_ent], (show mm_ok mb_M_laysWindow [(1140, t_M_lays)] [some (vr o)] M Q from ?_)⟩
  intro J hJ
  obtain ⟨rfl, hr, hw, h⟩ := h
  have hw2 := hw
  have hr2 := hr
  unfold mW at hw2
  unfold mR at hr2
  refine hJ 0 _ _ _ (show mm_wp _ _ _ mo_M_laysWindow_0 _ _ _ from ?_)
  simp only [mo_M_laysWindow_0, mm_wp, mm_ldi, mm_lda, mm_ldl, mm_sti, mm_sta, mm_stl, mm_inc, mm_2i, mm_mm, mm_2l, mm_lcmp, mm_i2l, mm_l2i, mm_cast8, mm_if1, mm_if2, mm_cmp, mm_swi, mm_sw, mm_pop1, mm_dup, mm_dup2, mm_geti, mm_geta, mm_puti, mm_iald, mm_bald, mm_aald, mm_iast, mm_bast, mm_alen, mm_acpy, mm_call, mm_callv, mm_recv, mm_pop, mm_find, mm_push, mm_cats, mm_cat, mm_reti, mm_retz, mm_retl, mm_reta, mm_retv, mm_set1, mm_set2, mm_kill, List.getElem?_cons_zero, List.getElem?_cons_succ, Int.reduceToNat, ↓reduceIte, Nat.reduceEqDiff, Nat.reduceDiv, Nat.reduceAdd, Nat.reduceLeDiff, Nat.zero_le, true_and, and_true, true_or, or_true, mm_b0, mm_b1, mm_lc_lt, mm_lc_le, mm_lc_gt, mm_lc_ge, mm_lc_eq, Int.not_lt, Int.not_le, Decidable.not_not, Int.sub_neg, c_0, c_1, c_2, l_2, c_3, c_4, l_4, c_5, l_5, c_6, l_6, c_7, l_7, c_8, c_9, l_9, c_10, l_10, c_11, l_11, c_12, l_12, c_13, c_14, l_14, c_15, l_15, c_16, l_16, c_17, l_17, c_18, c_19, l_19, c_20, l_20, c_21, l_21, c_22, l_22, c_23, c_24, l_24, c_25, l_25, c_26, c_27, c_28, l_28, c_29, c_30, l_30, c_31, c_32, l_32, c_33, l_33, c_34, l_34, c_35, l_35, c_36, l_36, c_37, l_37, c_38, l_38, c_39, l_39, c_40, c_41, l_41, c_42, c_43, c_44, l_44, c_45, c_46, l_46, c_47, c_48, l_48, c_49, l_49, c_50, l_50, c_51, l_51, c_52, l_52, c_53, l_53, c_54, l_54, c_55, l_55, c_56, l_56, c_57, l_57, c_58, l_58, c_59, l_59, c_60, l_60, c_61, l_61, c_62, c_63, l_63, c_64, l_64, c_65, l_65, c_66, l_66, c_67, l_67, c_68, l_68, c_69, l_69, c_70, l_70, c_71, l_71, c_72, l_72, c_73, l_73, c_74, l_74, c_75, l_75, c_76, l_76, t_M_lays]
  exact ⟨by omega, by omega, by omega, by omega, by omega, fun i i0 i1 => mR_ca hr (by omega) (by omega) (by omega), fun M' f g => h M' f g⟩
def t_M_holds : mmT := fun as M Q => match as with
  | [.inr (.inr o), .inl v] => o = 62 ∧ mR M ∧ mW M ∧ (¬ (0 ≤ v ∧ v < 64) → Q (some (vi (-1))) (tz M)) ∧ ((0 ≤ v ∧ v < 64) → ∀ M', (∀ o', o' ≠ 73 → M' o' = tz M o') → Q (some (vi (hsN (fun i => ca (M 64) (M 65) (M 66) i (M 62 41).toNat) (M 62 39) v (M 62 40 - M 62 39 + 1).toNat))) M')
  | _ => False
set_option maxHeartbeats 4000000 in
set_option maxRecDepth 100000 in
theorem p_M_holds : ∀ as M Q, (∀ v ∈ as, mm_vin v) → mm_mem M → t_M_holds as M Q → (mm_ent as).length ≤ 2 ∧ mm_ok mb_M_holds [(1102, t_M_within), (1171, t_M_laysWindow)] (mm_entry 2 as) M Q := by
  intro as M Q hin hM h
  unfold t_M_holds at h
  split at h
  rotate_left
  · exact h.elim
  rename_i o v
  have hR_v : mm_R v := hin (vi v) (by simp)
  refine ⟨by simp [mm_ent], (show mm_ok mb_M_holds [(1102, t_M_within), (1171, t_M_laysWindow)] [some (vr o), some (vi v)] M Q from ?_)⟩
  intro J hJ
  obtain ⟨rfl, hr, hw, hN, hY⟩ := h
  have h19 : (0 ≤ v ∧ v < 64) → J 19 [some (vr 62), some (vi v)] [] (mm_up M 62 0 0) := by
    intro hc
    refine hJ 19 _ _ _ (show mm_wp _ _ _ mo_M_holds_19 _ _ _ from ?_)
    simp only [mo_M_holds_19, mm_wp, mm_ldi, mm_lda, mm_ldl, mm_sti, mm_sta, mm_stl, mm_inc, mm_2i, mm_mm, mm_2l, mm_lcmp, mm_i2l, mm_l2i, mm_cast8, mm_if1, mm_if2, mm_cmp, mm_swi, mm_sw, mm_pop1, mm_dup, mm_dup2, mm_geti, mm_geta, mm_puti, mm_iald, mm_bald, mm_aald, mm_iast, mm_bast, mm_alen, mm_acpy, mm_call, mm_callv, mm_recv, mm_pop, mm_find, mm_push, mm_cats, mm_cat, mm_reti, mm_retz, mm_retl, mm_reta, mm_retv, mm_set1, mm_set2, mm_kill, List.getElem?_cons_zero, List.getElem?_cons_succ, Int.reduceToNat, ↓reduceIte, Nat.reduceEqDiff, Nat.reduceDiv, Nat.reduceAdd, Nat.reduceLeDiff, Nat.zero_le, true_and, and_true, true_or, or_true, mm_b0, mm_b1, mm_lc_lt, mm_lc_le, mm_lc_gt, mm_lc_ge, mm_lc_eq, Int.not_lt, Int.not_le, Decidable.not_not, Int.sub_neg, c_0, c_1, c_2, l_2, c_3, c_4, l_4, c_5, l_5, c_6, l_6, c_7, l_7, c_8, c_9, l_9, c_10, l_10, c_11, l_11, c_12, l_12, c_13, c_14, l_14, c_15, l_15, c_16, l_16, c_17, l_17, c_18, c_19, l_19, c_20, l_20, c_21, l_21, c_22, l_22, c_23, c_24, l_24, c_25, l_25, c_26, c_27, c_28, l_28, c_29, c_30, l_30, c_31, c_32, l_32, c_33, l_33, c_34, l_34, c_35, l_35, c_36, l_36, c_37, l_37, c_38, l_38, c_39, l_39, c_40, c_41, l_41, c_42, c_43, c_44, l_44, c_45, c_46, l_46, c_47, c_48, l_48, c_49, l_49, c_50, l_50, c_51, l_51, c_52, l_52, c_53, l_53, c_54, l_54, c_55, l_55, c_56, l_56, c_57, l_57, c_58, l_58, c_59, l_59, c_60, l_60, c_61, l_61, c_62, c_63, l_63, c_64, l_64, c_65, l_65, c_66, l_66, c_67, l_67, c_68, l_68, c_69, l_69, c_70, l_70, c_71, l_71, c_72, l_72, c_73, l_73, c_74, l_74, c_75, l_75, c_76, l_76, t_M_laysWindow]
    refine ⟨mR_up hr, mW_up hw, fun M' f g => ?_⟩
    rw [g v hc.1 hc.2, mm_up_i _ (by decide), mm_up_i _ (by decide), mm_up_i _ (by decide), mm_up_o _ _ (by decide), mm_up_o _ _ (by decide), mm_up_o _ _ (by decide)]
    exact ⟨by omega, hY hc M' f⟩
  refine hJ 0 _ _ _ (show mm_wp _ _ _ mo_M_holds_0 _ _ _ from ?_)
  simp only [mo_M_holds_0, mm_wp, mm_ldi, mm_lda, mm_ldl, mm_sti, mm_sta, mm_stl, mm_inc, mm_2i, mm_mm, mm_2l, mm_lcmp, mm_i2l, mm_l2i, mm_cast8, mm_if1, mm_if2, mm_cmp, mm_swi, mm_sw, mm_pop1, mm_dup, mm_dup2, mm_geti, mm_geta, mm_puti, mm_iald, mm_bald, mm_aald, mm_iast, mm_bast, mm_alen, mm_acpy, mm_call, mm_callv, mm_recv, mm_pop, mm_find, mm_push, mm_cats, mm_cat, mm_reti, mm_retz, mm_retl, mm_reta, mm_retv, mm_set1, mm_set2, mm_kill, List.getElem?_cons_zero, List.getElem?_cons_succ, Int.reduceToNat, ↓reduceIte, Nat.reduceEqDiff, Nat.reduceDiv, Nat.reduceAdd, Nat.reduceLeDiff, Nat.zero_le, true_and, and_true, true_or, or_true, mm_b0, mm_b1, mm_lc_lt, mm_lc_le, mm_lc_gt, mm_lc_ge, mm_lc_eq, Int.not_lt, Int.not_le, Decidable.not_not, Int.sub_neg, c_0, c_1, c_2, l_2, c_3, c_4, l_4, c_5, l_5, c_6, l_6, c_7, l_7, c_8, c_9, l_9, c_10, l_10, c_11, l_11, c_12, l_12, c_13, c_14, l_14, c_15, l_15, c_16, l_16, c_17, l_17, c_18, c_19, l_19, c_20, l_20, c_21, l_21, c_22, l_22, c_23, c_24, l_24, c_25, l_25, c_26, c_27, c_28, l_28, c_29, c_30, l_30, c_31, c_32, l_32, c_33, l_33, c_34, l_34, c_35, l_35, c_36, l_36, c_37, l_37, c_38, l_38, c_39, l_39, c_40, c_41, l_41, c_42, c_43, c_44, l_44, c_45, c_46, l_46, c_47, c_48, l_48, c_49, l_49, c_50, l_50, c_51, l_51, c_52, l_52, c_53, l_53, c_54, l_54, c_55, l_55, c_56, l_56, c_57, l_57, c_58, l_58, c_59, l_59, c_60, l_60, c_61, l_61, c_62, c_63, l_63, c_64, l_64, c_65, l_65, c_66, l_66, c_67, l_67, c_68, l_68, c_69, l_69, c_70, l_70, c_71, l_71, c_72, l_72, c_73, l_73, c_74, l_74, c_75, l_75, c_76, l_76, t_M_within]
  exact ⟨fun z => h19 (by omega), fun z => hN (by omega)⟩
def t_M_tells_ : mmT := fun as M Q => match as with
  | [.inr (.inr o), .inl k] => o = 62 ∧ mR M ∧ mW M ∧ (¬ ((0 ≤ k ∧ k < 8) ∧ ¬ k = 2 ∧ ¬ k = 3 ∧ ¬ k = 6) → Q (some (vl (-1))) (tz M)) ∧ (((0 ≤ k ∧ k < 8) ∧ ¬ k = 2 ∧ ¬ k = 3 ∧ ¬ k = 6) → ∀ M', (∀ o', o' ≠ 73 → o' ≠ 74 → M' o' = tz M o') → Q (some (vl (anF (M 64) (M 65) (M 66) (M 62 39) (M 62 40) (M 62 41) k))) M')
  | _ => False
set_option maxHeartbeats 4000000 in
set_option maxRecDepth 100000 in
theorem p_M_tells_ : ∀ as M Q, (∀ v ∈ as, mm_vin v) → mm_mem M → t_M_tells_ as M Q → (mm_ent as).length ≤ 2 ∧ mm_ok mb_M_tells_ [(1102, t_M_within), (1150, t_M_isPlanned), (1171, t_M_laysWindow), (1143, t_M_tellsOf)] (mm_entry 2 as) M Q := by
  intro as M Q hin hM h
  unfold t_M_tells_ at h
  split at h
  rotate_left
  · exact h.elim
  rename_i o k
  have hR_k : mm_R k := hin (vi k) (by simp)
  refine ⟨by simp [mm_ent], (show mm_ok mb_M_tells_ [(1102, t_M_within), (1150, t_M_isPlanned), (1171, t_M_laysWindow), (1143, t_M_tellsOf)] [some (vr o), some (vi k)] M Q from ?_)⟩
  intro J hJ
  obtain ⟨rfl, hr, hw, hN, hY⟩ := h
  have h28 : ((0 ≤ k ∧ k < 8) ∧ ¬ k = 2 ∧ ¬ k = 3 ∧ ¬ k = 6) → J 28 [some (vr 62), some (vi k)] [] (mm_up M 62 0 0) := by
    intro hk
    refine hJ 28 _ _ _ (show mm_wp _ _ _ mo_M_tells__28 _ _ _ from ?_)
    simp only [mo_M_tells__28, mm_wp, mm_ldi, mm_lda, mm_ldl, mm_sti, mm_sta, mm_stl, mm_inc, mm_2i, mm_mm, mm_2l, mm_lcmp, mm_i2l, mm_l2i, mm_cast8, mm_if1, mm_if2, mm_cmp, mm_swi, mm_sw, mm_pop1, mm_dup, mm_dup2, mm_geti, mm_geta, mm_puti, mm_iald, mm_bald, mm_aald, mm_iast, mm_bast, mm_alen, mm_acpy, mm_call, mm_callv, mm_recv, mm_pop, mm_find, mm_push, mm_cats, mm_cat, mm_reti, mm_retz, mm_retl, mm_reta, mm_retv, mm_set1, mm_set2, mm_kill, List.getElem?_cons_zero, List.getElem?_cons_succ, Int.reduceToNat, ↓reduceIte, Nat.reduceEqDiff, Nat.reduceDiv, Nat.reduceAdd, Nat.reduceLeDiff, Nat.zero_le, true_and, and_true, true_or, or_true, mm_b0, mm_b1, mm_lc_lt, mm_lc_le, mm_lc_gt, mm_lc_ge, mm_lc_eq, Int.not_lt, Int.not_le, Decidable.not_not, Int.sub_neg, c_0, c_1, c_2, l_2, c_3, c_4, l_4, c_5, l_5, c_6, l_6, c_7, l_7, c_8, c_9, l_9, c_10, l_10, c_11, l_11, c_12, l_12, c_13, c_14, l_14, c_15, l_15, c_16, l_16, c_17, l_17, c_18, c_19, l_19, c_20, l_20, c_21, l_21, c_22, l_22, c_23, c_24, l_24, c_25, l_25, c_26, c_27, c_28, l_28, c_29, c_30, l_30, c_31, c_32, l_32, c_33, l_33, c_34, l_34, c_35, l_35, c_36, l_36, c_37, l_37, c_38, l_38, c_39, l_39, c_40, c_41, l_41, c_42, c_43, c_44, l_44, c_45, c_46, l_46, c_47, c_48, l_48, c_49, l_49, c_50, l_50, c_51, l_51, c_52, l_52, c_53, l_53, c_54, l_54, c_55, l_55, c_56, l_56, c_57, l_57, c_58, l_58, c_59, l_59, c_60, l_60, c_61, l_61, c_62, c_63, l_63, c_64, l_64, c_65, l_65, c_66, l_66, c_67, l_67, c_68, l_68, c_69, l_69, c_70, l_70, c_71, l_71, c_72, l_72, c_73, l_73, c_74, l_74, c_75, l_75, c_76, l_76, t_M_laysWindow, t_M_tellsOf]
    refine ⟨mR_up hr, mW_up hw, fun M1 f1 g1 => ?_⟩
    rw [mm_up_i _ (by decide), mm_up_i _ (by decide), mm_up_i _ (by decide), mm_up_o _ _ (by decide), mm_up_o _ _ (by decide), mm_up_o _ _ (by decide)] at g1
    refine ⟨fun v v0 v1 => ?_, by omega, by omega, fun M2 f2 => ?_⟩
    · rw [g1 v v0 v1]
      have := hsN_b (fun i => ca (M 64) (M 65) (M 66) i (M 62 41).toNat) (M 62 39) v (M 62 40 - M 62 39 + 1).toNat
      unfold mW at hw
      unfold mR at hr
      omega
    · rw [tell_cong g1]
      exact hY hk M2 (fun o' c1 c2 => by rw [f2 o' c2, f1 o' c1]; rfl)
  have h24 : ¬ ((0 ≤ k ∧ k < 8) ∧ ¬ k = 2 ∧ ¬ k = 3 ∧ ¬ k = 6) → J 24 [some (vr 62), some (vi k)] [] (mm_up M 62 0 0) := by
    intro hk
    refine hJ 24 _ _ _ (show mm_wp _ _ _ mo_M_tells__24 _ _ _ from ?_)
    simp only [mo_M_tells__24, mm_wp, mm_ldi, mm_lda, mm_ldl, mm_sti, mm_sta, mm_stl, mm_inc, mm_2i, mm_mm, mm_2l, mm_lcmp, mm_i2l, mm_l2i, mm_cast8, mm_if1, mm_if2, mm_cmp, mm_swi, mm_sw, mm_pop1, mm_dup, mm_dup2, mm_geti, mm_geta, mm_puti, mm_iald, mm_bald, mm_aald, mm_iast, mm_bast, mm_alen, mm_acpy, mm_call, mm_callv, mm_recv, mm_pop, mm_find, mm_push, mm_cats, mm_cat, mm_reti, mm_retz, mm_retl, mm_reta, mm_retv, mm_set1, mm_set2, mm_kill, List.getElem?_cons_zero, List.getElem?_cons_succ, Int.reduceToNat, ↓reduceIte, Nat.reduceEqDiff, Nat.reduceDiv, Nat.reduceAdd, Nat.reduceLeDiff, Nat.zero_le, true_and, and_true, true_or, or_true, mm_b0, mm_b1, mm_lc_lt, mm_lc_le, mm_lc_gt, mm_lc_ge, mm_lc_eq, Int.not_lt, Int.not_le, Decidable.not_not, Int.sub_neg]
    exact hN hk
  refine hJ 0 _ _ _ (show mm_wp _ _ _ mo_M_tells__0 _ _ _ from ?_)
  simp only [mo_M_tells__0, mm_wp, mm_ldi, mm_lda, mm_ldl, mm_sti, mm_sta, mm_stl, mm_inc, mm_2i, mm_mm, mm_2l, mm_lcmp, mm_i2l, mm_l2i, mm_cast8, mm_if1, mm_if2, mm_cmp, mm_swi, mm_sw, mm_pop1, mm_dup, mm_dup2, mm_geti, mm_geta, mm_puti, mm_iald, mm_bald, mm_aald, mm_iast, mm_bast, mm_alen, mm_acpy, mm_call, mm_callv, mm_recv, mm_pop, mm_find, mm_push, mm_cats, mm_cat, mm_reti, mm_retz, mm_retl, mm_reta, mm_retv, mm_set1, mm_set2, mm_kill, List.getElem?_cons_zero, List.getElem?_cons_succ, Int.reduceToNat, ↓reduceIte, Nat.reduceEqDiff, Nat.reduceDiv, Nat.reduceAdd, Nat.reduceLeDiff, Nat.zero_le, true_and, and_true, true_or, or_true, mm_b0, mm_b1, mm_lc_lt, mm_lc_le, mm_lc_gt, mm_lc_ge, mm_lc_eq, Int.not_lt, Int.not_le, Decidable.not_not, Int.sub_neg, c_0, c_1, c_2, l_2, c_3, c_4, l_4, c_5, l_5, c_6, l_6, c_7, l_7, c_8, c_9, l_9, c_10, l_10, c_11, l_11, c_12, l_12, c_13, c_14, l_14, c_15, l_15, c_16, l_16, c_17, l_17, c_18, c_19, l_19, c_20, l_20, c_21, l_21, c_22, l_22, c_23, c_24, l_24, c_25, l_25, c_26, c_27, c_28, l_28, c_29, c_30, l_30, c_31, c_32, l_32, c_33, l_33, c_34, l_34, c_35, l_35, c_36, l_36, c_37, l_37, c_38, l_38, c_39, l_39, c_40, c_41, l_41, c_42, c_43, c_44, l_44, c_45, c_46, l_46, c_47, c_48, l_48, c_49, l_49, c_50, l_50, c_51, l_51, c_52, l_52, c_53, l_53, c_54, l_54, c_55, l_55, c_56, l_56, c_57, l_57, c_58, l_58, c_59, l_59, c_60, l_60, c_61, l_61, c_62, c_63, l_63, c_64, l_64, c_65, l_65, c_66, l_66, c_67, l_67, c_68, l_68, c_69, l_69, c_70, l_70, c_71, l_71, c_72, l_72, c_73, l_73, c_74, l_74, c_75, l_75, c_76, l_76, t_M_within, t_M_isPlanned]
  exact ⟨fun z => h24 (by omega), fun z => ⟨fun z2 => h28 ⟨by omega, z2⟩, fun z2 => h24 (fun w => z2 w.2)⟩⟩
def t_M_areAlike : mmT := fun as M Q => match as with
  | [.inr (.inr o), .inl p, .inl q] => o = 62 ∧ 0 ≤ p ∧ p < 25 ∧ 0 ≤ q ∧ q < 25 ∧ Q (some (vi (mm_b (M 67 (4 * p) = M 67 (4 * q) ∧ M 67 (4 * p + 1) = M 67 (4 * q + 1) ∧ M 67 (4 * p + 2) = M 67 (4 * q + 2) ∧ M 67 (4 * p + 3) = M 67 (4 * q + 3))))) M
  | _ => False
set_option maxHeartbeats 4000000 in
set_option maxRecDepth 100000 in
theorem p_M_areAlike : ∀ as M Q, (∀ v ∈ as, mm_vin v) → mm_mem M → t_M_areAlike as M Q → (mm_ent as).length ≤ 5 ∧ mm_ok mb_M_areAlike [] (mm_entry 5 as) M Q := by
  intro as M Q hin hM h
  unfold t_M_areAlike at h
  split at h
  rotate_left
  · exact h.elim
  rename_i o p q
  have hR_p : mm_R p := hin (vi p) (by simp)
  have hR_q : mm_R q := hin (vi q) (by simp)
  refine ⟨by simp [mm_ent], (show mm_ok mb_M_areAlike [] [some (vr o), some (vi p), some (vi q), none, none] M Q from ?_)⟩
  intro J hJ
  obtain ⟨rfl, p0, p1, q0, q1, h⟩ := h
  have h52 : ∀ z : Int, z = mm_b (M 67 (4 * p) = M 67 (4 * q) ∧ M 67 (4 * p + 1) = M 67 (4 * q + 1) ∧ M 67 (4 * p + 2) = M 67 (4 * q + 2) ∧ M 67 (4 * p + 3) = M 67 (4 * q + 3)) → J 52 [some (vr 62), some (vi p), some (vi q), some (vi z), some (vi 4)] [] M := by
    intro z hz
    refine hJ 52 _ _ _ (show mm_wp _ _ _ mo_M_areAlike_52 _ _ _ from ?_)
    simp only [mo_M_areAlike_52, mm_wp, mm_ldi, mm_lda, mm_ldl, mm_sti, mm_sta, mm_stl, mm_inc, mm_2i, mm_mm, mm_2l, mm_lcmp, mm_i2l, mm_l2i, mm_cast8, mm_if1, mm_if2, mm_cmp, mm_swi, mm_sw, mm_pop1, mm_dup, mm_dup2, mm_geti, mm_geta, mm_puti, mm_iald, mm_bald, mm_aald, mm_iast, mm_bast, mm_alen, mm_acpy, mm_call, mm_callv, mm_recv, mm_pop, mm_find, mm_push, mm_cats, mm_cat, mm_reti, mm_retz, mm_retl, mm_reta, mm_retv, mm_set1, mm_set2, mm_kill, List.getElem?_cons_zero, List.getElem?_cons_succ, Int.reduceToNat, ↓reduceIte, Nat.reduceEqDiff, Nat.reduceDiv, Nat.reduceAdd, Nat.reduceLeDiff, Nat.zero_le, true_and, and_true, true_or, or_true, mm_b0, mm_b1, mm_lc_lt, mm_lc_le, mm_lc_gt, mm_lc_ge, mm_lc_eq, Int.not_lt, Int.not_le, Decidable.not_not, Int.sub_neg]
    rw [hz]
    exact ⟨mm_b01 _, h⟩
  have st : ∀ (k : Int) (b : Int), 0 ≤ k → k < 4 → (b = 0 ∨ b = 1) → (∀ b2 : Int, (b2 = 1 ∧ b = 1 ∧ M 67 (4 * p + k) = M 67 (4 * q + k) ∨ b2 = 0 ∧ ¬ (b = 1 ∧ M 67 (4 * p + k) = M 67 (4 * q + k))) → J 5 [some (vr 62), some (vi p), some (vi q), some (vi b2), some (vi (k + 1))] [] M) → J 5 [some (vr 62), some (vi p), some (vi q), some (vi b), some (vi k)] [] M := by
    intro k b k0 k4 hb hn
    have h45 : ∀ b2 : Int, (b2 = 1 ∧ b = 1 ∧ M 67 (4 * p + k) = M 67 (4 * q + k) ∨ b2 = 0 ∧ ¬ (b = 1 ∧ M 67 (4 * p + k) = M 67 (4 * q + k))) → J 45 [some (vr 62), some (vi p), some (vi q), some (vi b), some (vi k)] [vi b2] M := by
      intro b2 h2
      refine hJ 45 _ _ _ (show mm_wp _ _ _ mo_M_areAlike_45 _ _ _ from ?_)
      simp only [mo_M_areAlike_45, mm_wp, mm_ldi, mm_lda, mm_ldl, mm_sti, mm_sta, mm_stl, mm_inc, mm_2i, mm_mm, mm_2l, mm_lcmp, mm_i2l, mm_l2i, mm_cast8, mm_if1, mm_if2, mm_cmp, mm_swi, mm_sw, mm_pop1, mm_dup, mm_dup2, mm_geti, mm_geta, mm_puti, mm_iald, mm_bald, mm_aald, mm_iast, mm_bast, mm_alen, mm_acpy, mm_call, mm_callv, mm_recv, mm_pop, mm_find, mm_push, mm_cats, mm_cat, mm_reti, mm_retz, mm_retl, mm_reta, mm_retv, mm_set1, mm_set2, mm_kill, List.getElem?_cons_zero, List.getElem?_cons_succ, Int.reduceToNat, ↓reduceIte, Nat.reduceEqDiff, Nat.reduceDiv, Nat.reduceAdd, Nat.reduceLeDiff, Nat.zero_le, true_and, and_true, true_or, or_true, mm_b0, mm_b1, mm_lc_lt, mm_lc_le, mm_lc_gt, mm_lc_ge, mm_lc_eq, Int.not_lt, Int.not_le, Decidable.not_not, Int.sub_neg]
      exact ⟨by omega, hn b2 h2⟩
    have h44 : ¬ (b = 1 ∧ M 67 (4 * p + k) = M 67 (4 * q + k)) → J 44 [some (vr 62), some (vi p), some (vi q), some (vi b), some (vi k)] [] M := by
      intro h2
      refine hJ 44 _ _ _ (show mm_wp _ _ _ mo_M_areAlike_44 _ _ _ from ?_)
      simp only [mo_M_areAlike_44, mm_wp, mm_ldi, mm_lda, mm_ldl, mm_sti, mm_sta, mm_stl, mm_inc, mm_2i, mm_mm, mm_2l, mm_lcmp, mm_i2l, mm_l2i, mm_cast8, mm_if1, mm_if2, mm_cmp, mm_swi, mm_sw, mm_pop1, mm_dup, mm_dup2, mm_geti, mm_geta, mm_puti, mm_iald, mm_bald, mm_aald, mm_iast, mm_bast, mm_alen, mm_acpy, mm_call, mm_callv, mm_recv, mm_pop, mm_find, mm_push, mm_cats, mm_cat, mm_reti, mm_retz, mm_retl, mm_reta, mm_retv, mm_set1, mm_set2, mm_kill, List.getElem?_cons_zero, List.getElem?_cons_succ, Int.reduceToNat, ↓reduceIte, Nat.reduceEqDiff, Nat.reduceDiv, Nat.reduceAdd, Nat.reduceLeDiff, Nat.zero_le, true_and, and_true, true_or, or_true, mm_b0, mm_b1, mm_lc_lt, mm_lc_le, mm_lc_gt, mm_lc_ge, mm_lc_eq, Int.not_lt, Int.not_le, Decidable.not_not, Int.sub_neg]
      exact h45 0 (Or.inr ⟨rfl, h2⟩)
    refine hJ 5 _ _ _ (show mm_wp _ _ _ mo_M_areAlike_5 _ _ _ from ?_)
    simp only [mo_M_areAlike_5, mm_wp, mm_ldi, mm_lda, mm_ldl, mm_sti, mm_sta, mm_stl, mm_inc, mm_2i, mm_mm, mm_2l, mm_lcmp, mm_i2l, mm_l2i, mm_cast8, mm_if1, mm_if2, mm_cmp, mm_swi, mm_sw, mm_pop1, mm_dup, mm_dup2, mm_geti, mm_geta, mm_puti, mm_iald, mm_bald, mm_aald, mm_iast, mm_bast, mm_alen, mm_acpy, mm_call, mm_callv, mm_recv, mm_pop, mm_find, mm_push, mm_cats, mm_cat, mm_reti, mm_retz, mm_retl, mm_reta, mm_retv, mm_set1, mm_set2, mm_kill, List.getElem?_cons_zero, List.getElem?_cons_succ, Int.reduceToNat, ↓reduceIte, Nat.reduceEqDiff, Nat.reduceDiv, Nat.reduceAdd, Nat.reduceLeDiff, Nat.zero_le, true_and, and_true, true_or, or_true, mm_b0, mm_b1, mm_lc_lt, mm_lc_le, mm_lc_gt, mm_lc_ge, mm_lc_eq, Int.not_lt, Int.not_le, Decidable.not_not, Int.sub_neg, c_0, c_1, c_2, l_2, c_3, c_4, l_4, c_5, l_5, c_6, l_6, c_7, l_7, c_8, c_9, l_9, c_10, l_10, c_11, l_11, c_12, l_12, c_13, c_14, l_14, c_15, l_15, c_16, l_16, c_17, l_17, c_18, c_19, l_19, c_20, l_20, c_21, l_21, c_22, l_22, c_23, c_24, l_24, c_25, l_25, c_26, c_27, c_28, l_28, c_29, c_30, l_30, c_31, c_32, l_32, c_33, l_33, c_34, l_34, c_35, l_35, c_36, l_36, c_37, l_37, c_38, l_38, c_39, l_39, c_40, c_41, l_41, c_42, c_43, c_44, l_44, c_45, c_46, l_46, c_47, c_48, l_48, c_49, l_49, c_50, l_50, c_51, l_51, c_52, l_52, c_53, l_53, c_54, l_54, c_55, l_55, c_56, l_56, c_57, l_57, c_58, l_58, c_59, l_59, c_60, l_60, c_61, l_61, c_62, c_63, l_63, c_64, l_64, c_65, l_65, c_66, l_66, c_67, l_67, c_68, l_68, c_69, l_69, c_70, l_70, c_71, l_71, c_72, l_72, c_73, l_73, c_74, l_74, c_75, l_75, c_76, l_76]
    refine ⟨fun z => by omega, fun _ => ⟨fun z => h44 (by omega), fun z => ⟨by omega, by omega, by omega, by omega, by omega, by omega, fun z2 => h44 (fun w => z2 w.2), fun z2 => h45 1 (Or.inl ⟨rfl, by omega, z2⟩)⟩⟩⟩
  have h5 : ∀ z : Int, z = mm_b (M 67 (4 * p) = M 67 (4 * q) ∧ M 67 (4 * p + 1) = M 67 (4 * q + 1) ∧ M 67 (4 * p + 2) = M 67 (4 * q + 2) ∧ M 67 (4 * p + 3) = M 67 (4 * q + 3)) → J 5 [some (vr 62), some (vi p), some (vi q), some (vi z), some (vi 4)] [] M := by
    intro z hz
    have := h52 z hz
    refine hJ 5 _ _ _ (show mm_wp _ _ _ mo_M_areAlike_5 _ _ _ from ?_)
    simp only [mo_M_areAlike_5, mm_wp, mm_ldi, mm_lda, mm_ldl, mm_sti, mm_sta, mm_stl, mm_inc, mm_2i, mm_mm, mm_2l, mm_lcmp, mm_i2l, mm_l2i, mm_cast8, mm_if1, mm_if2, mm_cmp, mm_swi, mm_sw, mm_pop1, mm_dup, mm_dup2, mm_geti, mm_geta, mm_puti, mm_iald, mm_bald, mm_aald, mm_iast, mm_bast, mm_alen, mm_acpy, mm_call, mm_callv, mm_recv, mm_pop, mm_find, mm_push, mm_cats, mm_cat, mm_reti, mm_retz, mm_retl, mm_reta, mm_retv, mm_set1, mm_set2, mm_kill, List.getElem?_cons_zero, List.getElem?_cons_succ, Int.reduceToNat, ↓reduceIte, Nat.reduceEqDiff, Nat.reduceDiv, Nat.reduceAdd, Nat.reduceLeDiff, Nat.zero_le, true_and, and_true, true_or, or_true, mm_b0, mm_b1, mm_lc_lt, mm_lc_le, mm_lc_gt, mm_lc_ge, mm_lc_eq, Int.not_lt, Int.not_le, Decidable.not_not, Int.sub_neg]
    exact ⟨fun _ => this, fun z => by omega⟩
  refine hJ 0 _ _ _ (show mm_wp _ _ _ mo_M_areAlike_0 _ _ _ from ?_)
  simp only [mo_M_areAlike_0, mm_wp, mm_ldi, mm_lda, mm_ldl, mm_sti, mm_sta, mm_stl, mm_inc, mm_2i, mm_mm, mm_2l, mm_lcmp, mm_i2l, mm_l2i, mm_cast8, mm_if1, mm_if2, mm_cmp, mm_swi, mm_sw, mm_pop1, mm_dup, mm_dup2, mm_geti, mm_geta, mm_puti, mm_iald, mm_bald, mm_aald, mm_iast, mm_bast, mm_alen, mm_acpy, mm_call, mm_callv, mm_recv, mm_pop, mm_find, mm_push, mm_cats, mm_cat, mm_reti, mm_retz, mm_retl, mm_reta, mm_retv, mm_set1, mm_set2, mm_kill, List.getElem?_cons_zero, List.getElem?_cons_succ, Int.reduceToNat, ↓reduceIte, Nat.reduceEqDiff, Nat.reduceDiv, Nat.reduceAdd, Nat.reduceLeDiff, Nat.zero_le, true_and, and_true, true_or, or_true, mm_b0, mm_b1, mm_lc_lt, mm_lc_le, mm_lc_gt, mm_lc_ge, mm_lc_eq, Int.not_lt, Int.not_le, Decidable.not_not, Int.sub_neg]
  refine st 0 1 (by omega) (by omega) (by omega) (fun b1 g1 => st 1 b1 (by omega) (by omega) (by omega) (fun b2 g2 => st 2 b2 (by omega) (by omega) (by omega) (fun b3 g3 => st 3 b3 (by omega) (by omega) (by omega) (fun b4 g4 => h5 b4 ?_))))
  rw [Int.add_zero, Int.add_zero] at g1
  by_cases c : M 67 (4 * p) = M 67 (4 * q) ∧ M 67 (4 * p + 1) = M 67 (4 * q + 1) ∧ M 67 (4 * p + 2) = M 67 (4 * q + 2) ∧ M 67 (4 * p + 3) = M 67 (4 * q + 3)
  · rw [mm_bT c]
    omega
  · rw [mm_bF c]
    omega
