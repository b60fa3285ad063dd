/-! the reference's reader beside the planner's: tokens -/
theorem and255F : ∀ y : Fin 256, mm_and ((y.val : Int) - 128) 255 = if (y.val : Int) - 128 < 0 then (y.val : Int) - 128 + 256 else (y.val : Int) - 128 := by decide +kernel
theorem and255 {x : Int} (h0 : -128 ≤ x) (h1 : x ≤ 127) : mm_and x 255 = if x < 0 then x + 256 else x := by
  have := and255F ⟨(x + 128).toNat, by omega⟩
  simp only [show (((x + 128).toNat : Nat) : Int) - 128 = x by omega] at this
  exact this
theorem dig2F : ∀ a b : Fin 10, mm_wsub (mm_wadd (mm_wmul 10 (a.val : Int)) ((b.val : Int) + 48)) 48 = 10 * (a.val : Int) + (b.val : Int) := by decide +kernel
theorem dig2 {a b : Int} (a0 : 0 ≤ a) (a1 : a ≤ 9) (b0 : 48 ≤ b) (b1 : b ≤ 57) : mm_wsub (mm_wadd (mm_wmul 10 a) b) 48 = 10 * a + b - 48 := by
  have := dig2F ⟨a.toNat, by omega⟩ ⟨(b - 48).toNat, by omega⟩
  simp only [show ((a.toNat : Nat) : Int) = a by omega, show (((b - 48).toNat : Nat) : Int) = b - 48 by omega] at this
  rw [show b - 48 + 48 = b by omega] at this
  omega
theorem rnF_all {T : Int → Int} {g : Int → Bool} : ∀ (k : Nat) (a i : Int), a ≤ i → i < rnF T g a k → g (T i) = true
  | 0, a, i, h1, h2 => by
    have h2 : i < a := h2
    omega
  | k + 1, a, i, h1, h2 => by
    simp only [rnF] at h2
    by_cases c : g (T a) = true
    · rw [if_pos c] at h2
      by_cases c2 : i = a
      · rw [c2]; exact c
      · exact rnF_all k (a + 1) i (by omega) h2
    · rw [if_neg c] at h2
      omega
/-- the reference's byte -/
def mby (M : mmM) (k : Int) : Int := if k < M 62 20 then mm_and (M 63 k) 255 else -1
def t_M_byteAt : mmT := fun as M Q => match as with
  | [.inr (.inr o), .inl k] => o = 62 ∧ 0 ≤ k ∧ M 62 20 ≤ 600 ∧ Q (some (vi (mby M k))) M
  | _ => False
set_option maxHeartbeats 4000000 in
set_option maxRecDepth 100000 in
theorem p_M_byteAt : ∀ as M Q, (∀ v ∈ as, mm_vin v) → mm_mem M → t_M_byteAt as M Q → (mm_ent as).length ≤ 2 ∧ mm_ok mb_M_byteAt [] (mm_entry 2 as) M Q := by
  intro as M Q hin hM h
  unfold t_M_byteAt at h
  split at h
  rotate_left
  · exact h.elim
  rename_i o k
  have hR_k : mm_R k := hin (vi k) (by simp)
  refine ⟨by simp [mm_ent], (show mm_ok mb_M_byteAt [] [some (vr o), some (vi k)] M Q from ?_)⟩
  intro J hJ
  obtain ⟨rfl, k0, k1, h⟩ := h
  unfold mby at h
  by_cases hc : k < M 62 20
  · rw [if_pos hc] at h
    repeat' first | (refine And.intro ?_ ?_) | (intro _) | (refine hJ 0 _ _ _ ?_; show mm_wp _ _ _ mo_M_byteAt_0 _ _ _; simp only [mo_M_byteAt_0, mm_wp, mm_ldi, mm_lda, mm_ldl, mm_sti, mm_sta, mm_stl, mm_inc, mm_2i, mm_mm, mm_2l, mm_lcmp, mm_i2l, mm_l2i, mm_cast8, mm_if1, mm_if2, mm_cmp, mm_swi, mm_sw, mm_pop1, mm_dup, mm_dup2, mm_geti, mm_geta, mm_puti, mm_iald, mm_bald, mm_aald, mm_iast, mm_bast, mm_alen, mm_acpy, mm_call, mm_callv, mm_recv, mm_pop, mm_find, mm_push, mm_cats, mm_cat, mm_reti, mm_retz, mm_retl, mm_reta, mm_retv, mm_set1, mm_set2, mm_kill, List.getElem?_cons_zero, List.getElem?_cons_succ, Int.reduceToNat, ↓reduceIte, Nat.reduceEqDiff, Nat.reduceDiv, Nat.reduceAdd, Nat.reduceLeDiff, Nat.zero_le, true_and, and_true, true_or, or_true, mm_b0, mm_b1, mm_lc_lt, mm_lc_le, mm_lc_gt, mm_lc_ge, mm_lc_eq, Int.not_lt, Int.not_le, Decidable.not_not, Int.sub_neg, c_0, c_1, c_2, l_2, c_3, c_4, l_4, c_5, l_5, c_6, l_6, c_7, l_7, c_8, c_9, l_9, c_10, l_10, c_11, l_11, c_12, l_12, c_13, c_14, l_14, c_15, l_15, c_16, l_16, c_17, l_17, c_18, c_19, l_19, c_20, l_20, c_21, l_21, c_22, l_22, c_23, c_24, l_24, c_25, l_25, c_26, c_27, c_28, l_28, c_29, c_30, l_30, c_31, c_32, l_32, c_33, l_33, c_34, l_34, c_35, l_35, c_36, l_36, c_37, l_37, c_38, l_38, c_39, l_39, c_40, c_41, l_41, c_42, c_43, c_44, l_44, c_45, c_46, l_46, c_47, c_48, l_48, c_49, l_49, c_50, l_50, c_51, l_51, c_52, l_52, c_53, l_53, c_54, l_54, c_55, l_55, c_56, l_56, c_57, l_57, c_58, l_58, c_59, l_59, c_60, l_60, c_61, l_61, c_62, c_63, l_63, c_64, l_64, c_65, l_65, c_66, l_66, c_67, l_67, c_68, l_68, c_69, l_69, c_70, l_70, c_71, l_71, c_72, l_72, c_73, l_73, c_74, l_74, c_75, l_75, c_76, l_76]) | (refine hJ 21 _ _ _ ?_; show mm_wp _ _ _ mo_M_byteAt_21 _ _ _; simp only [mo_M_byteAt_21, mm_wp, mm_ldi, mm_lda, mm_ldl, mm_sti, mm_sta, mm_stl, mm_inc, mm_2i, mm_mm, mm_2l, mm_lcmp, mm_i2l, mm_l2i, mm_cast8, mm_if1, mm_if2, mm_cmp, mm_swi, mm_sw, mm_pop1, mm_dup, mm_dup2, mm_geti, mm_geta, mm_puti, mm_iald, mm_bald, mm_aald, mm_iast, mm_bast, mm_alen, mm_acpy, mm_call, mm_callv, mm_recv, mm_pop, mm_find, mm_push, mm_cats, mm_cat, mm_reti, mm_retz, mm_retl, mm_reta, mm_retv, mm_set1, mm_set2, mm_kill, List.getElem?_cons_zero, List.getElem?_cons_succ, Int.reduceToNat, ↓reduceIte, Nat.reduceEqDiff, Nat.reduceDiv, Nat.reduceAdd, Nat.reduceLeDiff, Nat.zero_le, true_and, and_true, true_or, or_true, mm_b0, mm_b1, mm_lc_lt, mm_lc_le, mm_lc_gt, mm_lc_ge, mm_lc_eq, Int.not_lt, Int.not_le, Decidable.not_not, Int.sub_neg, c_0, c_1, c_2, l_2, c_3, c_4, l_4, c_5, l_5, c_6, l_6, c_7, l_7, c_8, c_9, l_9, c_10, l_10, c_11, l_11, c_12, l_12, c_13, c_14, l_14, c_15, l_15, c_16, l_16, c_17, l_17, c_18, c_19, l_19, c_20, l_20, c_21, l_21, c_22, l_22, c_23, c_24, l_24, c_25, l_25, c_26, c_27, c_28, l_28, c_29, c_30, l_30, c_31, c_32, l_32, c_33, l_33, c_34, l_34, c_35, l_35, c_36, l_36, c_37, l_37, c_38, l_38, c_39, l_39, c_40, c_41, l_41, c_42, c_43, c_44, l_44, c_45, c_46, l_46, c_47, c_48, l_48, c_49, l_49, c_50, l_50, c_51, l_51, c_52, l_52, c_53, l_53, c_54, l_54, c_55, l_55, c_56, l_56, c_57, l_57, c_58, l_58, c_59, l_59, c_60, l_60, c_61, l_61, c_62, c_63, l_63, c_64, l_64, c_65, l_65, c_66, l_66, c_67, l_67, c_68, l_68, c_69, l_69, c_70, l_70, c_71, l_71, c_72, l_72, c_73, l_73, c_74, l_74, c_75, l_75, c_76, l_76]) | (refine hJ 22 _ _ _ ?_; show mm_wp _ _ _ mo_M_byteAt_22 _ _ _; simp only [mo_M_byteAt_22, mm_wp, mm_ldi, mm_lda, mm_ldl, mm_sti, mm_sta, mm_stl, mm_inc, mm_2i, mm_mm, mm_2l, mm_lcmp, mm_i2l, mm_l2i, mm_cast8, mm_if1, mm_if2, mm_cmp, mm_swi, mm_sw, mm_pop1, mm_dup, mm_dup2, mm_geti, mm_geta, mm_puti, mm_iald, mm_bald, mm_aald, mm_iast, mm_bast, mm_alen, mm_acpy, mm_call, mm_callv, mm_recv, mm_pop, mm_find, mm_push, mm_cats, mm_cat, mm_reti, mm_retz, mm_retl, mm_reta, mm_retv, mm_set1, mm_set2, mm_kill, List.getElem?_cons_zero, List.getElem?_cons_succ, Int.reduceToNat, ↓reduceIte, Nat.reduceEqDiff, Nat.reduceDiv, Nat.reduceAdd, Nat.reduceLeDiff, Nat.zero_le, true_and, and_true, true_or, or_true, mm_b0, mm_b1, mm_lc_lt, mm_lc_le, mm_lc_gt, mm_lc_ge, mm_lc_eq, Int.not_lt, Int.not_le, Decidable.not_not, Int.sub_neg, c_0, c_1, c_2, l_2, c_3, c_4, l_4, c_5, l_5, c_6, l_6, c_7, l_7, c_8, c_9, l_9, c_10, l_10, c_11, l_11, c_12, l_12, c_13, c_14, l_14, c_15, l_15, c_16, l_16, c_17, l_17, c_18, c_19, l_19, c_20, l_20, c_21, l_21, c_22, l_22, c_23, c_24, l_24, c_25, l_25, c_26, c_27, c_28, l_28, c_29, c_30, l_30, c_31, c_32, l_32, c_33, l_33, c_34, l_34, c_35, l_35, c_36, l_36, c_37, l_37, c_38, l_38, c_39, l_39, c_40, c_41, l_41, c_42, c_43, c_44, l_44, c_45, c_46, l_46, c_47, c_48, l_48, c_49, l_49, c_50, l_50, c_51, l_51, c_52, l_52, c_53, l_53, c_54, l_54, c_55, l_55, c_56, l_56, c_57, l_57, c_58, l_58, c_59, l_59, c_60, l_60, c_61, l_61, c_62, c_63, l_63, c_64, l_64, c_65, l_65, c_66, l_66, c_67, l_67, c_68, l_68, c_69, l_69, c_70, l_70, c_71, l_71, c_72, l_72, c_73, l_73, c_74, l_74, c_75, l_75, c_76, l_76])
    all_goals first | assumption | (exact Or.inl rfl) | (exact Or.inr rfl) | (exact rfl) | trivial | omega
  · rw [if_neg hc] at h
    repeat' first | (refine And.intro ?_ ?_) | (intro _) | (refine hJ 0 _ _ _ ?_; show mm_wp _ _ _ mo_M_byteAt_0 _ _ _; simp only [mo_M_byteAt_0, mm_wp, mm_ldi, mm_lda, mm_ldl, mm_sti, mm_sta, mm_stl, mm_inc, mm_2i, mm_mm, mm_2l, mm_lcmp, mm_i2l, mm_l2i, mm_cast8, mm_if1, mm_if2, mm_cmp, mm_swi, mm_sw, mm_pop1, mm_dup, mm_dup2, mm_geti, mm_geta, mm_puti, mm_iald, mm_bald, mm_aald, mm_iast, mm_bast, mm_alen, mm_acpy, mm_call, mm_callv, mm_recv, mm_pop, mm_find, mm_push, mm_cats, mm_cat, mm_reti, mm_retz, mm_retl, mm_reta, mm_retv, mm_set1, mm_set2, mm_kill, List.getElem?_cons_zero, List.getElem?_cons_succ, Int.reduceToNat, ↓reduceIte, Nat.reduceEqDiff, Nat.reduceDiv, Nat.reduceAdd, Nat.reduceLeDiff, Nat.zero_le, true_and, and_true, true_or, or_true, mm_b0, mm_b1, mm_lc_lt, mm_lc_le, mm_lc_gt, mm_lc_ge, mm_lc_eq, Int.not_lt, Int.not_le, Decidable.not_not, Int.sub_neg, c_0, c_1, c_2, l_2, c_3, c_4, l_4, c_5, l_5, c_6, l_6, c_7, l_7, c_8, c_9, l_9, c_10, l_10, c_11, l_11, c_12, l_12, c_13, c_14, l_14, c_15, l_15, c_16, l_16, c_17, l_17, c_18, c_19, l_19, c_20, l_20, c_21, l_21, c_22, l_22, c_23, c_24, l_24, c_25, l_25, c_26, c_27, c_28, l_28, c_29, c_30, l_30, c_31, c_32, l_32, c_33, l_33, c_34, l_34, c_35, l_35, c_36, l_36, c_37, l_37, c_38, l_38, c_39, l_39, c_40, c_41, l_41, c_42, c_43, c_44, l_44, c_45, c_46, l_46, c_47, c_48, l_48, c_49, l_49, c_50, l_50, c_51, l_51, c_52, l_52, c_53, l_53, c_54, l_54, c_55, l_55, c_56, l_56, c_57, l_57, c_58, l_58, c_59, l_59, c_60, l_60, c_61, l_61, c_62, c_63, l_63, c_64, l_64, c_65, l_65, c_66, l_66, c_67, l_67, c_68, l_68, c_69, l_69, c_70, l_70, c_71, l_71, c_72, l_72, c_73, l_73, c_74, l_74, c_75, l_75, c_76, l_76]) | (refine hJ 21 _ _ _ ?_; show mm_wp _ _ _ mo_M_byteAt_21 _ _ _; simp only [mo_M_byteAt_21, mm_wp, mm_ldi, mm_lda, mm_ldl, mm_sti, mm_sta, mm_stl, mm_inc, mm_2i, mm_mm, mm_2l, mm_lcmp, mm_i2l, mm_l2i, mm_cast8, mm_if1, mm_if2, mm_cmp, mm_swi, mm_sw, mm_pop1, mm_dup, mm_dup2, mm_geti, mm_geta, mm_puti, mm_iald, mm_bald, mm_aald, mm_iast, mm_bast, mm_alen, mm_acpy, mm_call, mm_callv, mm_recv, mm_pop, mm_find, mm_push, mm_cats, mm_cat, mm_reti, mm_retz, mm_retl, mm_reta, mm_retv, mm_set1, mm_set2, mm_kill, List.getElem?_cons_zero, List.getElem?_cons_succ, Int.reduceToNat, ↓reduceIte, Nat.reduceEqDiff, Nat.reduceDiv, Nat.reduceAdd, Nat.reduceLeDiff, Nat.zero_le, true_and, and_true, true_or, or_true, mm_b0, mm_b1, mm_lc_lt, mm_lc_le, mm_lc_gt, mm_lc_ge, mm_lc_eq, Int.not_lt, Int.not_le, Decidable.not_not, Int.sub_neg, c_0, c_1, c_2, l_2, c_3, c_4, l_4, c_5, l_5, c_6, l_6, c_7, l_7, c_8, c_9, l_9, c_10, l_10, c_11, l_11, c_12, l_12, c_13, c_14, l_14, c_15, l_15, c_16, l_16, c_17, l_17, c_18, c_19, l_19, c_20, l_20, c_21, l_21, c_22, l_22, c_23, c_24, l_24, c_25, l_25, c_26, c_27, c_28, l_28, c_29, c_30, l_30, c_31, c_32, l_32, c_33, l_33, c_34, l_34, c_35, l_35, c_36, l_36, c_37, l_37, c_38, l_38, c_39, l_39, c_40, c_41, l_41, c_42, c_43, c_44, l_44, c_45, c_46, l_46, c_47, c_48, l_48, c_49, l_49, c_50, l_50, c_51, l_51, c_52, l_52, c_53, l_53, c_54, l_54, c_55, l_55, c_56, l_56, c_57, l_57, c_58, l_58, c_59, l_59, c_60, l_60, c_61, l_61, c_62, c_63, l_63, c_64, l_64, c_65, l_65, c_66, l_66, c_67, l_67, c_68, l_68, c_69, l_69, c_70, l_70, c_71, l_71, c_72, l_72, c_73, l_73, c_74, l_74, c_75, l_75, c_76, l_76]) | (refine hJ 22 _ _ _ ?_; show mm_wp _ _ _ mo_M_byteAt_22 _ _ _; simp only [mo_M_byteAt_22, mm_wp, mm_ldi, mm_lda, mm_ldl, mm_sti, mm_sta, mm_stl, mm_inc, mm_2i, mm_mm, mm_2l, mm_lcmp, mm_i2l, mm_l2i, mm_cast8, mm_if1, mm_if2, mm_cmp, mm_swi, mm_sw, mm_pop1, mm_dup, mm_dup2, mm_geti, mm_geta, mm_puti, mm_iald, mm_bald, mm_aald, mm_iast, mm_bast, mm_alen, mm_acpy, mm_call, mm_callv, mm_recv, mm_pop, mm_find, mm_push, mm_cats, mm_cat, mm_reti, mm_retz, mm_retl, mm_reta, mm_retv, mm_set1, mm_set2, mm_kill, List.getElem?_cons_zero, List.getElem?_cons_succ, Int.reduceToNat, ↓reduceIte, Nat.reduceEqDiff, Nat.reduceDiv, Nat.reduceAdd, Nat.reduceLeDiff, Nat.zero_le, true_and, and_true, true_or, or_true, mm_b0, mm_b1, mm_lc_lt, mm_lc_le, mm_lc_gt, mm_lc_ge, mm_lc_eq, Int.not_lt, Int.not_le, Decidable.not_not, Int.sub_neg, c_0, c_1, c_2, l_2, c_3, c_4, l_4, c_5, l_5, c_6, l_6, c_7, l_7, c_8, c_9, l_9, c_10, l_10, c_11, l_11, c_12, l_12, c_13, c_14, l_14, c_15, l_15, c_16, l_16, c_17, l_17, c_18, c_19, l_19, c_20, l_20, c_21, l_21, c_22, l_22, c_23, c_24, l_24, c_25, l_25, c_26, c_27, c_28, l_28, c_29, c_30, l_30, c_31, c_32, l_32, c_33, l_33, c_34, l_34, c_35, l_35, c_36, l_36, c_37, l_37, c_38, l_38, c_39, l_39, c_40, c_41, l_41, c_42, c_43, c_44, l_44, c_45, c_46, l_46, c_47, c_48, l_48, c_49, l_49, c_50, l_50, c_51, l_51, c_52, l_52, c_53, l_53, c_54, l_54, c_55, l_55, c_56, l_56, c_57, l_57, c_58, l_58, c_59, l_59, c_60, l_60, c_61, l_61, c_62, c_63, l_63, c_64, l_64, c_65, l_65, c_66, l_66, c_67, l_67, c_68, l_68, c_69, l_69, c_70, l_70, c_71, l_71, c_72, l_72, c_73, l_73, c_74, l_74, c_75, l_75, c_76, l_76])
    all_goals first | assumption | (exact Or.inl rfl) | (exact Or.inr rfl) | (exact rfl) | trivial | omega
/-- both tapes, and where the next token is looked for -/
def tpE (N M : mmM) : Prop := ∀ i, 0 ≤ i → i < 600 → M 63 i = N 2 i ∧ -128 ≤ N 2 i ∧ N 2 i ≤ 127
def rdP (N M : mmM) : Prop := rdI N ∧ M 62 20 = N 1 4 ∧ M 62 22 = N 1 7 ∧ tpE N M
def tokR (s t g : Int) : Prop := (s = 0 ∧ t = 0) ∨ (s = 1 ∧ t = 1) ∨ (s = 2 ∧ t = 2) ∨ (s = 3 ∧ t = 3 ∧ g = 59) ∨ (s = 4 ∧ t = 3 ∧ g = 44) ∨ (s = 5 ∧ t = 4)
/-- both stand at the same token -/
def rdT (N M : mmM) : Prop := rdM N ∧ M 62 20 = N 1 4 ∧ M 62 21 = N 1 6 ∧ M 62 22 = N 1 7 ∧ tpE N M ∧ tokR (N 1 5) (M 62 23) (M 62 25) ∧ (N 1 5 = 2 → M 62 24 = N 1 8 ∧ 0 ≤ N 1 8 ∧ N 1 8 ≤ 99) ∧ (N 1 5 = 1 → N 1 7 - N 1 6 ≤ 7 ∧ ∀ i, N 1 6 ≤ i → i < N 1 7 → leB (N 2 i) = true) ∧ (¬ N 1 5 = 0 → N 1 6 < N 1 7)
theorem rdT_P {N M : mmM} (h : rdT N M) : rdP N M := ⟨h.1.1, h.2.1, h.2.2.2.1, h.2.2.2.2.1⟩
theorem mby_in {N M M1 : mmM} {k : Int} (hd : rdI N) (h20 : M1 62 20 = N 1 4) (h63 : M1 63 = M 63) (ht : tpE N M) (k0 : 0 ≤ k) (k1 : k < N 1 4) : 0 ≤ mby M1 k ∧ mby M1 k ≤ 255 ∧ (0 ≤ N 2 k → mby M1 k = N 2 k) ∧ (N 2 k < 0 → 128 ≤ mby M1 k) := by
  unfold rdI at hd
  obtain ⟨e1, e2, e3⟩ := ht k k0 (by omega)
  unfold mby
  rw [h20, if_pos k1, h63, e1, and255 e2 e3]
  split <;> omega
theorem mby_out {N M1 : mmM} {k : Int} (h20 : M1 62 20 = N 1 4) (k1 : N 1 4 ≤ k) : mby M1 k = -1 := by
  unfold mby
  rw [h20, if_neg (by omega)]
def goF (M M' : mmM) : Prop := (∀ o', o' ≠ 62 → M' o' = M o') ∧ ∀ j, (j < 21 ∨ 25 < j) → M' 62 j = M 62 j
theorem goF_up {M M1 : mmM} {j v : Int} (h : goF M M1) (h0 : 21 ≤ j) (h1 : j ≤ 25) : goF M (mm_up M1 62 j v) := ⟨fun o' c => by rw [mm_up_o _ _ c, h.1 o' c], fun i c => by rw [mm_up_i _ (by omega), h.2 i c]⟩
theorem nx_in {N : mmM} (hd : rdI N) : (tkS N = 1 → tkE N - tkP N ≤ 7 ∧ ∀ i, tkP N ≤ i → i < tkE N → leB (N 2 i) = true) ∧ (¬ tkS N = 0 → tkP N < tkE N) := by
  have hb := tk_b hd
  unfold rdI at hd
  constructor
  · intro hs
    unfold tkS at hs
    by_cases c1 : N 1 4 ≤ tkP N
    · rw [if_pos c1] at hs; omega
    · rw [if_neg c1] at hs
      by_cases c2 : N 2 (tkP N) = 59
      · rw [if_pos c2] at hs; omega
      · rw [if_neg c2] at hs
        by_cases c3 : N 2 (tkP N) = 44
        · rw [if_pos c3] at hs; omega
        · rw [if_neg c3] at hs
          by_cases c4 : leB (N 2 (tkP N)) = true
          · rw [if_pos c4] at hs
            by_cases c5 : tkE N - tkP N ≤ 7
            · refine ⟨c5, fun i i0 i1 => ?_⟩
              by_cases c6 : i = tkP N
              · rw [c6]; exact c4
              · unfold tkE at i1
                rw [if_neg c1, if_pos c4] at i1
                exact rnF_all _ _ i (by omega) i1
            · rw [if_neg c5] at hs; omega
          · rw [if_neg c4] at hs
            by_cases c5 : diB (N 2 (tkP N)) = true
            · rw [if_pos c5] at hs
              by_cases c6 : tkE N - tkP N ≤ 2
              · rw [if_pos c6] at hs; omega
              · rw [if_neg c6] at hs; omega
            · rw [if_neg c5] at hs; omega
  · intro hs
    refine hb.2.2.2.2 ?_
    unfold tkS at hs
    by_cases c1 : N 1 4 ≤ tkP N
    · rw [if_pos c1] at hs; omega
    · omega
def t_M_go : mmT := fun as M Q => match as with
  | [.inr (.inr o)] => o = 62 ∧ ∃ N, rdP N M ∧ ∀ M', goF M M' → rdT (nxM N) M' → Q none M'
  | _ => False
set_option maxHeartbeats 4000000 in
set_option maxRecDepth 100000 in
theorem p_M_go : ∀ as M Q, (∀ v ∈ as, mm_vin v) → mm_mem M → t_M_go as M Q → (mm_ent as).length ≤ 2 ∧ mm_ok mb_M_go [(1105, t_M_byteAt), (1106, t_M_isLetter), (1107, t_M_isDigit)] (mm_entry 2 as) M Q := by
  intro as M Q hin hM h
  unfold t_M_go at h
  split at h
  rotate_left
  · exact h.elim
  rename_i o
  refine ⟨by simp [mm_ent], (show mm_ok mb_M_go [(1105, t_M_byteAt), (1106, t_M_isLetter), (1107, t_M_isDigit)] [some (vr o), none] M Q from ?_)⟩
  intro J hJ
  obtain ⟨rfl, N, ⟨hd, h20, h22, ht⟩, h⟩ := h
  have hb := tk_b hd
  have hin := nx_in hd
  have hd2 := hd
  unfold rdI at hd2
  have g20 : ∀ M1, goF M M1 → M1 62 20 = N 1 4 := fun M1 hg => by rw [hg.2 20 (by omega), h20]
  have g63 : ∀ M1, goF M M1 → M1 63 = M 63 := fun M1 hg => hg.1 63 (by decide)
  have u : ∀ (M1 : mmM) (j v k : Int), j ≠ 20 → mby (mm_up M1 62 j v) k = mby M1 k := fun M1 j v k hj => by
    unfold mby
    rw [mm_up_i _ (Ne.symm hj), mm_up_o _ _ (by decide)]
  have h271 : ∀ (M1 : mmM) (x1 : Option mmV), goF M M1 → M1 62 21 = tkP N → M1 62 22 = tkE N → tokR (tkS N) (M1 62 23) (M1 62 25) → (tkS N = 2 → M1 62 24 = tkV N ∧ 0 ≤ tkV N ∧ tkV N ≤ 99) → J 271 [some (vr 62), x1] [] M1 := by
    intro M1 x1 hg e1 e2 e3 e4
    refine hJ 271 _ _ _ (show mm_wp _ _ _ mo_M_go_271 _ _ _ from ?_)
    simp only [mo_M_go_271, mm_wp, mm_ldi, mm_lda, mm_ldl, mm_sti, mm_sta, mm_stl, mm_inc, mm_2i, mm_mm, mm_2l, mm_lcmp, mm_i2l, mm_l2i, mm_cast8, mm_if1, mm_if2, mm_cmp, mm_swi, mm_sw, mm_pop1, mm_dup, mm_dup2, mm_geti, mm_geta, mm_puti, mm_iald, mm_bald, mm_aald, mm_iast, mm_bast, mm_alen, mm_acpy, mm_call, mm_callv, mm_recv, mm_pop, mm_find, mm_push, mm_cats, mm_cat, mm_reti, mm_retz, mm_retl, mm_reta, mm_retv, mm_set1, mm_set2, mm_kill, List.getElem?_cons_zero, List.getElem?_cons_succ, Int.reduceToNat, ↓reduceIte, Nat.reduceEqDiff, Nat.reduceDiv, Nat.reduceAdd, Nat.reduceLeDiff, Nat.zero_le, true_and, and_true, true_or, or_true, mm_b0, mm_b1, mm_lc_lt, mm_lc_le, mm_lc_gt, mm_lc_ge, mm_lc_eq, Int.not_lt, Int.not_le, Decidable.not_not, Int.sub_neg]
    refine h M1 hg ⟨nx_rd hd, ?_, ?_, ?_, ?_, ?_, ?_, ?_, ?_⟩
    · rw [nx_i _ (by decide) (by decide) (by decide) (by decide), g20 M1 hg]
    · rw [nx_6, e1]
    · rw [nx_7, e2]
    · intro i i0 i1
      rw [g63 M1 hg, nx_o _ (by decide)]
      exact ht i i0 i1
    · rw [nx_5]; exact e3
    · rw [nx_5, nx_8]; exact e4
    · rw [nx_5, nx_6, nx_7, nx_o _ (by decide)]; exact hin.1
    · rw [nx_5, nx_6, nx_7]; exact hin.2
  have h39 : ∀ M1 : mmM, goF M M1 → M1 62 22 = tkP N → J 39 [some (vr 62), none] [] M1 := by
    intro M1 hg e22
    have f20 := g20 M1 hg
    by_cases hend : N 1 4 ≤ tkP N
    · have hby := mby_out (N := N) f20 hend
      have hS : tkS N = 0 := by unfold tkS; rw [if_pos hend]
      have hE : tkE N = tkP N := by unfold tkE; rw [if_pos hend]; omega
      have := h271 (mm_up (mm_up M1 62 21 (tkP N)) 62 23 0) (some (vi (-1))) (goF_up (goF_up hg (by decide) (by decide)) (by decide) (by decide)) (by simp [mm_up]) (by rw [hE]; simp [mm_up, e22]) (by rw [hS]; exact Or.inl ⟨rfl, by simp [mm_up]⟩) (by rw [hS]; intro c; omega)
      have e22' : mm_up M1 62 21 (tkP N) 62 22 = tkP N := by rw [mm_up_i _ (by decide), e22]
      have e20' : mm_up M1 62 21 (tkP N) 62 20 = N 1 4 := by rw [mm_up_i _ (by decide), f20]
      refine hJ 39 _ _ _ (show mm_wp _ _ _ mo_M_go_39 _ _ _ from ?_)
      simp only [mo_M_go_39, mm_wp, mm_ldi, mm_lda, mm_ldl, mm_sti, mm_sta, mm_stl, mm_inc, mm_2i, mm_mm, mm_2l, mm_lcmp, mm_i2l, mm_l2i, mm_cast8, mm_if1, mm_if2, mm_cmp, mm_swi, mm_sw, mm_pop1, mm_dup, mm_dup2, mm_geti, mm_geta, mm_puti, mm_iald, mm_bald, mm_aald, mm_iast, mm_bast, mm_alen, mm_acpy, mm_call, mm_callv, mm_recv, mm_pop, mm_find, mm_push, mm_cats, mm_cat, mm_reti, mm_retz, mm_retl, mm_reta, mm_retv, mm_set1, mm_set2, mm_kill, List.getElem?_cons_zero, List.getElem?_cons_succ, Int.reduceToNat, ↓reduceIte, Nat.reduceEqDiff, Nat.reduceDiv, Nat.reduceAdd, Nat.reduceLeDiff, Nat.zero_le, true_and, and_true, true_or, or_true, mm_b0, mm_b1, mm_lc_lt, mm_lc_le, mm_lc_gt, mm_lc_ge, mm_lc_eq, Int.not_lt, Int.not_le, Decidable.not_not, Int.sub_neg, c_0, c_1, c_2, l_2, c_3, c_4, l_4, c_5, l_5, c_6, l_6, c_7, l_7, c_8, c_9, l_9, c_10, l_10, c_11, l_11, c_12, l_12, c_13, c_14, l_14, c_15, l_15, c_16, l_16, c_17, l_17, c_18, c_19, l_19, c_20, l_20, c_21, l_21, c_22, l_22, c_23, c_24, l_24, c_25, l_25, c_26, c_27, c_28, l_28, c_29, c_30, l_30, c_31, c_32, l_32, c_33, l_33, c_34, l_34, c_35, l_35, c_36, l_36, c_37, l_37, c_38, l_38, c_39, l_39, c_40, c_41, l_41, c_42, c_43, c_44, l_44, c_45, c_46, l_46, c_47, c_48, l_48, c_49, l_49, c_50, l_50, c_51, l_51, c_52, l_52, c_53, l_53, c_54, l_54, c_55, l_55, c_56, l_56, c_57, l_57, c_58, l_58, c_59, l_59, c_60, l_60, c_61, l_61, c_62, c_63, l_63, c_64, l_64, c_65, l_65, c_66, l_66, c_67, l_67, c_68, l_68, c_69, l_69, c_70, l_70, c_71, l_71, c_72, l_72, c_73, l_73, c_74, l_74, c_75, l_75, c_76, l_76, e22, t_M_byteAt]
      rw [e22', e20', u _ _ _ _ (by decide), hby]
      exact ⟨by omega, by omega, fun z => by omega, fun _ => this⟩
    · have hby := mby_in (M1 := M1) hd f20 (g63 M1 hg) ht (show 0 ≤ tkP N by omega) (by omega)
      generalize hv : mby M1 (tkP N) = v at hby
      have hg1 : goF M (mm_up M1 62 21 (tkP N)) := goF_up hg (by decide) (by decide)
      have e22' : mm_up M1 62 21 (tkP N) 62 22 = tkP N := by rw [mm_up_i _ (by decide), e22]
      have e20' : mm_up M1 62 21 (tkP N) 62 20 = N 1 4 := by rw [mm_up_i _ (by decide), f20]
      have e21' : mm_up M1 62 21 (tkP N) 62 21 = tkP N := mm_up_s _ _ _ _
      have ev : mby (mm_up M1 62 21 (tkP N)) (tkP N) = v := by rw [u _ _ _ _ (by decide), hv]
      have h68 : J 68 [some (vr 62), some (vi v)] [] (mm_up M1 62 21 (tkP N)) := by
        generalize mm_up M1 62 21 (tkP N) = M2 at hg1 e22' e20' e21' ev
        by_cases hle : leB (N 2 (tkP N)) = true
        · have hle' := hle
          rw [leB_t] at hle
          have hE : tkE N = rnF (N 2) leB (tkP N) (N 1 4 - tkP N).toNat := by
            unfold tkE
            rw [if_neg hend, if_pos hle', show (N 1 4 - tkP N).toNat = (N 1 4 - (tkP N + 1)).toNat + 1 by omega]
            simp only [rnF]
            rw [if_pos hle']
            rfl
          have hS : tkS N = if tkE N - tkP N ≤ 7 then 1 else 5 := by
            unfold tkS
            rw [if_neg hend, if_neg (by omega), if_neg (by omega), if_pos hle']
          have h122 : ∀ (z : Int) (M3 : mmM), goF M M3 → M3 62 21 = tkP N → M3 62 22 = tkE N → (z = if tkE N - tkP N ≤ 7 then 1 else 4) → J 122 [some (vr 62), some (vi v)] [vi z, vr 62] M3 := by
            intro z M3 hg3 q1 q2 hz
            refine hJ 122 _ _ _ (show mm_wp _ _ _ mo_M_go_122 _ _ _ from ?_)
            simp only [mo_M_go_122, mm_wp, mm_ldi, mm_lda, mm_ldl, mm_sti, mm_sta, mm_stl, mm_inc, mm_2i, mm_mm, mm_2l, mm_lcmp, mm_i2l, mm_l2i, mm_cast8, mm_if1, mm_if2, mm_cmp, mm_swi, mm_sw, mm_pop1, mm_dup, mm_dup2, mm_geti, mm_geta, mm_puti, mm_iald, mm_bald, mm_aald, mm_iast, mm_bast, mm_alen, mm_acpy, mm_call, mm_callv, mm_recv, mm_pop, mm_find, mm_push, mm_cats, mm_cat, mm_reti, mm_retz, mm_retl, mm_reta, mm_retv, mm_set1, mm_set2, mm_kill, List.getElem?_cons_zero, List.getElem?_cons_succ, Int.reduceToNat, ↓reduceIte, Nat.reduceEqDiff, Nat.reduceDiv, Nat.reduceAdd, Nat.reduceLeDiff, Nat.zero_le, true_and, and_true, true_or, or_true, mm_b0, mm_b1, mm_lc_lt, mm_lc_le, mm_lc_gt, mm_lc_ge, mm_lc_eq, Int.not_lt, Int.not_le, Decidable.not_not, Int.sub_neg, c_0, c_1, c_2, l_2, c_3, c_4, l_4, c_5, l_5, c_6, l_6, c_7, l_7, c_8, c_9, l_9, c_10, l_10, c_11, l_11, c_12, l_12, c_13, c_14, l_14, c_15, l_15, c_16, l_16, c_17, l_17, c_18, c_19, l_19, c_20, l_20, c_21, l_21, c_22, l_22, c_23, c_24, l_24, c_25, l_25, c_26, c_27, c_28, l_28, c_29, c_30, l_30, c_31, c_32, l_32, c_33, l_33, c_34, l_34, c_35, l_35, c_36, l_36, c_37, l_37, c_38, l_38, c_39, l_39, c_40, c_41, l_41, c_42, c_43, c_44, l_44, c_45, c_46, l_46, c_47, c_48, l_48, c_49, l_49, c_50, l_50, c_51, l_51, c_52, l_52, c_53, l_53, c_54, l_54, c_55, l_55, c_56, l_56, c_57, l_57, c_58, l_58, c_59, l_59, c_60, l_60, c_61, l_61, c_62, c_63, l_63, c_64, l_64, c_65, l_65, c_66, l_66, c_67, l_67, c_68, l_68, c_69, l_69, c_70, l_70, c_71, l_71, c_72, l_72, c_73, l_73, c_74, l_74, c_75, l_75, c_76, l_76]
            refine h271 _ _ (goF_up hg3 (by decide) (by decide)) (by rw [mm_up_i _ (by decide), q1]) (by rw [mm_up_i _ (by decide), q2]) ?_ ?_
            · rw [mm_up_s, hz, hS]
              split
              · exact Or.inr (Or.inl ⟨rfl, rfl⟩)
              · exact Or.inr (Or.inr (Or.inr (Or.inr (Or.inr ⟨rfl, rfl⟩))))
            · rw [hS]; intro c; split at c <;> omega
          have h102 : ∀ M3 : mmM, goF M M3 → M3 62 21 = tkP N → M3 62 22 = tkE N → J 102 [some (vr 62), some (vi v)] [] M3 := by
            intro M3 hg3 q1 q2
            have h121 : ¬ tkE N - tkP N ≤ 7 → J 121 [some (vr 62), some (vi v)] [vr 62] M3 := by
              intro c
              refine hJ 121 _ _ _ (show mm_wp _ _ _ mo_M_go_121 _ _ _ from ?_)
              simp only [mo_M_go_121, mm_wp, mm_ldi, mm_lda, mm_ldl, mm_sti, mm_sta, mm_stl, mm_inc, mm_2i, mm_mm, mm_2l, mm_lcmp, mm_i2l, mm_l2i, mm_cast8, mm_if1, mm_if2, mm_cmp, mm_swi, mm_sw, mm_pop1, mm_dup, mm_dup2, mm_geti, mm_geta, mm_puti, mm_iald, mm_bald, mm_aald, mm_iast, mm_bast, mm_alen, mm_acpy, mm_call, mm_callv, mm_recv, mm_pop, mm_find, mm_push, mm_cats, mm_cat, mm_reti, mm_retz, mm_retl, mm_reta, mm_retv, mm_set1, mm_set2, mm_kill, List.getElem?_cons_zero, List.getElem?_cons_succ, Int.reduceToNat, ↓reduceIte, Nat.reduceEqDiff, Nat.reduceDiv, Nat.reduceAdd, Nat.reduceLeDiff, Nat.zero_le, true_and, and_true, true_or, or_true, mm_b0, mm_b1, mm_lc_lt, mm_lc_le, mm_lc_gt, mm_lc_ge, mm_lc_eq, Int.not_lt, Int.not_le, Decidable.not_not, Int.sub_neg]
              exact h122 _ M3 hg3 q1 q2 (by rw [if_neg c])
            refine hJ 102 _ _ _ (show mm_wp _ _ _ mo_M_go_102 _ _ _ from ?_)
            simp only [mo_M_go_102, mm_wp, mm_ldi, mm_lda, mm_ldl, mm_sti, mm_sta, mm_stl, mm_inc, mm_2i, mm_mm, mm_2l, mm_lcmp, mm_i2l, mm_l2i, mm_cast8, mm_if1, mm_if2, mm_cmp, mm_swi, mm_sw, mm_pop1, mm_dup, mm_dup2, mm_geti, mm_geta, mm_puti, mm_iald, mm_bald, mm_aald, mm_iast, mm_bast, mm_alen, mm_acpy, mm_call, mm_callv, mm_recv, mm_pop, mm_find, mm_push, mm_cats, mm_cat, mm_reti, mm_retz, mm_retl, mm_reta, mm_retv, mm_set1, mm_set2, mm_kill, List.getElem?_cons_zero, List.getElem?_cons_succ, Int.reduceToNat, ↓reduceIte, Nat.reduceEqDiff, Nat.reduceDiv, Nat.reduceAdd, Nat.reduceLeDiff, Nat.zero_le, true_and, and_true, true_or, or_true, mm_b0, mm_b1, mm_lc_lt, mm_lc_le, mm_lc_gt, mm_lc_ge, mm_lc_eq, Int.not_lt, Int.not_le, Decidable.not_not, Int.sub_neg, c_0, c_1, c_2, l_2, c_3, c_4, l_4, c_5, l_5, c_6, l_6, c_7, l_7, c_8, c_9, l_9, c_10, l_10, c_11, l_11, c_12, l_12, c_13, c_14, l_14, c_15, l_15, c_16, l_16, c_17, l_17, c_18, c_19, l_19, c_20, l_20, c_21, l_21, c_22, l_22, c_23, c_24, l_24, c_25, l_25, c_26, c_27, c_28, l_28, c_29, c_30, l_30, c_31, c_32, l_32, c_33, l_33, c_34, l_34, c_35, l_35, c_36, l_36, c_37, l_37, c_38, l_38, c_39, l_39, c_40, c_41, l_41, c_42, c_43, c_44, l_44, c_45, c_46, l_46, c_47, c_48, l_48, c_49, l_49, c_50, l_50, c_51, l_51, c_52, l_52, c_53, l_53, c_54, l_54, c_55, l_55, c_56, l_56, c_57, l_57, c_58, l_58, c_59, l_59, c_60, l_60, c_61, l_61, c_62, c_63, l_63, c_64, l_64, c_65, l_65, c_66, l_66, c_67, l_67, c_68, l_68, c_69, l_69, c_70, l_70, c_71, l_71, c_72, l_72, c_73, l_73, c_74, l_74, c_75, l_75, c_76, l_76, q1, q2]
            exact ⟨by omega, fun z => h121 (by omega), fun z => h122 _ M3 hg3 q1 q2 (by rw [if_pos (by omega)])⟩
          have hl : ∀ (k : Nat) (a : Int) (M3 : mmM), N 1 4 - a = k → tkP N ≤ a → rnF (N 2) leB a k = tkE N → goF M M3 → M3 62 21 = tkP N → M3 62 22 = a → J 75 [some (vr 62), some (vi v)] [] M3 := by
            intro k
            induction k with
            | zero =>
              intro a M3 hk ha hr hg3 q1 q2
              have hby := mby_out (N := N) (g20 M3 hg3) (show N 1 4 ≤ a by omega)
              have hr : a = tkE N := hr
              refine hJ 75 _ _ _ (show mm_wp _ _ _ mo_M_go_75 _ _ _ from ?_)
              simp only [mo_M_go_75, mm_wp, mm_ldi, mm_lda, mm_ldl, mm_sti, mm_sta, mm_stl, mm_inc, mm_2i, mm_mm, mm_2l, mm_lcmp, mm_i2l, mm_l2i, mm_cast8, mm_if1, mm_if2, mm_cmp, mm_swi, mm_sw, mm_pop1, mm_dup, mm_dup2, mm_geti, mm_geta, mm_puti, mm_iald, mm_bald, mm_aald, mm_iast, mm_bast, mm_alen, mm_acpy, mm_call, mm_callv, mm_recv, mm_pop, mm_find, mm_push, mm_cats, mm_cat, mm_reti, mm_retz, mm_retl, mm_reta, mm_retv, mm_set1, mm_set2, mm_kill, List.getElem?_cons_zero, List.getElem?_cons_succ, Int.reduceToNat, ↓reduceIte, Nat.reduceEqDiff, Nat.reduceDiv, Nat.reduceAdd, Nat.reduceLeDiff, Nat.zero_le, true_and, and_true, true_or, or_true, mm_b0, mm_b1, mm_lc_lt, mm_lc_le, mm_lc_gt, mm_lc_ge, mm_lc_eq, Int.not_lt, Int.not_le, Decidable.not_not, Int.sub_neg, c_0, c_1, c_2, l_2, c_3, c_4, l_4, c_5, l_5, c_6, l_6, c_7, l_7, c_8, c_9, l_9, c_10, l_10, c_11, l_11, c_12, l_12, c_13, c_14, l_14, c_15, l_15, c_16, l_16, c_17, l_17, c_18, c_19, l_19, c_20, l_20, c_21, l_21, c_22, l_22, c_23, c_24, l_24, c_25, l_25, c_26, c_27, c_28, l_28, c_29, c_30, l_30, c_31, c_32, l_32, c_33, l_33, c_34, l_34, c_35, l_35, c_36, l_36, c_37, l_37, c_38, l_38, c_39, l_39, c_40, c_41, l_41, c_42, c_43, c_44, l_44, c_45, c_46, l_46, c_47, c_48, l_48, c_49, l_49, c_50, l_50, c_51, l_51, c_52, l_52, c_53, l_53, c_54, l_54, c_55, l_55, c_56, l_56, c_57, l_57, c_58, l_58, c_59, l_59, c_60, l_60, c_61, l_61, c_62, c_63, l_63, c_64, l_64, c_65, l_65, c_66, l_66, c_67, l_67, c_68, l_68, c_69, l_69, c_70, l_70, c_71, l_71, c_72, l_72, c_73, l_73, c_74, l_74, c_75, l_75, c_76, l_76, t_M_byteAt, t_M_isLetter, q2, g20 M3 hg3, hby]
              exact ⟨by omega, by omega, fun _ => h102 M3 hg3 q1 (by omega), fun z => by omega⟩
            | succ k ih =>
              intro a M3 hk ha hr hg3 q1 q2
              have hby := mby_in (M1 := M3) hd (g20 M3 hg3) (g63 M3 hg3) ht (show 0 ≤ a by omega) (by omega)
              simp only [rnF] at hr
              refine hJ 75 _ _ _ (show mm_wp _ _ _ mo_M_go_75 _ _ _ from ?_)
              simp only [mo_M_go_75, mm_wp, mm_ldi, mm_lda, mm_ldl, mm_sti, mm_sta, mm_stl, mm_inc, mm_2i, mm_mm, mm_2l, mm_lcmp, mm_i2l, mm_l2i, mm_cast8, mm_if1, mm_if2, mm_cmp, mm_swi, mm_sw, mm_pop1, mm_dup, mm_dup2, mm_geti, mm_geta, mm_puti, mm_iald, mm_bald, mm_aald, mm_iast, mm_bast, mm_alen, mm_acpy, mm_call, mm_callv, mm_recv, mm_pop, mm_find, mm_push, mm_cats, mm_cat, mm_reti, mm_retz, mm_retl, mm_reta, mm_retv, mm_set1, mm_set2, mm_kill, List.getElem?_cons_zero, List.getElem?_cons_succ, Int.reduceToNat, ↓reduceIte, Nat.reduceEqDiff, Nat.reduceDiv, Nat.reduceAdd, Nat.reduceLeDiff, Nat.zero_le, true_and, and_true, true_or, or_true, mm_b0, mm_b1, mm_lc_lt, mm_lc_le, mm_lc_gt, mm_lc_ge, mm_lc_eq, Int.not_lt, Int.not_le, Decidable.not_not, Int.sub_neg, c_0, c_1, c_2, l_2, c_3, c_4, l_4, c_5, l_5, c_6, l_6, c_7, l_7, c_8, c_9, l_9, c_10, l_10, c_11, l_11, c_12, l_12, c_13, c_14, l_14, c_15, l_15, c_16, l_16, c_17, l_17, c_18, c_19, l_19, c_20, l_20, c_21, l_21, c_22, l_22, c_23, c_24, l_24, c_25, l_25, c_26, c_27, c_28, l_28, c_29, c_30, l_30, c_31, c_32, l_32, c_33, l_33, c_34, l_34, c_35, l_35, c_36, l_36, c_37, l_37, c_38, l_38, c_39, l_39, c_40, c_41, l_41, c_42, c_43, c_44, l_44, c_45, c_46, l_46, c_47, c_48, l_48, c_49, l_49, c_50, l_50, c_51, l_51, c_52, l_52, c_53, l_53, c_54, l_54, c_55, l_55, c_56, l_56, c_57, l_57, c_58, l_58, c_59, l_59, c_60, l_60, c_61, l_61, c_62, c_63, l_63, c_64, l_64, c_65, l_65, c_66, l_66, c_67, l_67, c_68, l_68, c_69, l_69, c_70, l_70, c_71, l_71, c_72, l_72, c_73, l_73, c_74, l_74, c_75, l_75, c_76, l_76, t_M_byteAt, t_M_isLetter, q2, g20 M3 hg3]
              refine ⟨by omega, by omega, fun z => ?_, fun z => ?_⟩
              · rw [if_neg (by rw [leB_t]; omega)] at hr
                exact h102 M3 hg3 q1 (by omega)
              · rw [if_pos (by rw [leB_t]; omega)] at hr
                exact ⟨by omega, ih (a + 1) _ (by omega) (by omega) hr (goF_up hg3 (by decide) (by decide)) (by rw [mm_up_i _ (by decide), q1]) (by rw [mm_up_s])⟩
          have h75 := hl (N 1 4 - tkP N).toNat (tkP N) M2 (by omega) (by omega) hE.symm hg1 e21' e22'
          refine hJ 68 _ _ _ (show mm_wp _ _ _ mo_M_go_68 _ _ _ from ?_)
          simp only [mo_M_go_68, mm_wp, mm_ldi, mm_lda, mm_ldl, mm_sti, mm_sta, mm_stl, mm_inc, mm_2i, mm_mm, mm_2l, mm_lcmp, mm_i2l, mm_l2i, mm_cast8, mm_if1, mm_if2, mm_cmp, mm_swi, mm_sw, mm_pop1, mm_dup, mm_dup2, mm_geti, mm_geta, mm_puti, mm_iald, mm_bald, mm_aald, mm_iast, mm_bast, mm_alen, mm_acpy, mm_call, mm_callv, mm_recv, mm_pop, mm_find, mm_push, mm_cats, mm_cat, mm_reti, mm_retz, mm_retl, mm_reta, mm_retv, mm_set1, mm_set2, mm_kill, List.getElem?_cons_zero, List.getElem?_cons_succ, Int.reduceToNat, ↓reduceIte, Nat.reduceEqDiff, Nat.reduceDiv, Nat.reduceAdd, Nat.reduceLeDiff, Nat.zero_le, true_and, and_true, true_or, or_true, mm_b0, mm_b1, mm_lc_lt, mm_lc_le, mm_lc_gt, mm_lc_ge, mm_lc_eq, Int.not_lt, Int.not_le, Decidable.not_not, Int.sub_neg, t_M_isLetter]
          exact ⟨fun z => by omega, fun _ => h75⟩
        · have hle' := hle
          rw [leB_t] at hle
          have h128 : J 128 [some (vr 62), some (vi v)] [] M2 := by
            by_cases hdi : diB (N 2 (tkP N)) = true
            · have hdi' := hdi
              rw [diB_t] at hdi
              have hE0 : tkE N = rnF (N 2) diB (tkP N + 1) (N 1 4 - (tkP N + 1)).toNat := by
                unfold tkE
                rw [if_neg hend, if_neg hle', if_pos hdi']
                rfl
              have hE : tkE N = rnF (N 2) diB (tkP N) (N 1 4 - tkP N).toNat := by
                rw [hE0, show (N 1 4 - tkP N).toNat = (N 1 4 - (tkP N + 1)).toNat + 1 by omega]
                simp only [rnF]
                rw [if_pos hdi']
              have hS : tkS N = if tkE N - tkP N ≤ 2 then 2 else 5 := by
                unfold tkS
                rw [if_neg hend, if_neg (by omega), if_neg (by omega), if_neg hle', if_pos hdi']
              have hall := rnF_all (T := N 2) (g := diB) (N 1 4 - tkP N).toNat (tkP N)
              rw [← hE] at hall
              have h229 : ∀ (z : Int) (M3 : mmM), goF M M3 → M3 62 21 = tkP N → M3 62 22 = tkE N → (tkE N - tkP N = 1 → M3 62 24 = N 2 (tkP N) - 48) → (tkE N - tkP N = 2 → M3 62 24 = 10 * (N 2 (tkP N) - 48) + N 2 (tkP N + 1) - 48) → (z = if tkE N - tkP N ≤ 2 then 2 else 4) → J 229 [some (vr 62), some (vi v)] [vi z, vr 62] M3 := by
                intro z M3 hg3 q1 q2 q3 q4 hz
                refine hJ 229 _ _ _ (show mm_wp _ _ _ mo_M_go_229 _ _ _ from ?_)
                simp only [mo_M_go_229, mm_wp, mm_ldi, mm_lda, mm_ldl, mm_sti, mm_sta, mm_stl, mm_inc, mm_2i, mm_mm, mm_2l, mm_lcmp, mm_i2l, mm_l2i, mm_cast8, mm_if1, mm_if2, mm_cmp, mm_swi, mm_sw, mm_pop1, mm_dup, mm_dup2, mm_geti, mm_geta, mm_puti, mm_iald, mm_bald, mm_aald, mm_iast, mm_bast, mm_alen, mm_acpy, mm_call, mm_callv, mm_recv, mm_pop, mm_find, mm_push, mm_cats, mm_cat, mm_reti, mm_retz, mm_retl, mm_reta, mm_retv, mm_set1, mm_set2, mm_kill, List.getElem?_cons_zero, List.getElem?_cons_succ, Int.reduceToNat, ↓reduceIte, Nat.reduceEqDiff, Nat.reduceDiv, Nat.reduceAdd, Nat.reduceLeDiff, Nat.zero_le, true_and, and_true, true_or, or_true, mm_b0, mm_b1, mm_lc_lt, mm_lc_le, mm_lc_gt, mm_lc_ge, mm_lc_eq, Int.not_lt, Int.not_le, Decidable.not_not, Int.sub_neg, c_0, c_1, c_2, l_2, c_3, c_4, l_4, c_5, l_5, c_6, l_6, c_7, l_7, c_8, c_9, l_9, c_10, l_10, c_11, l_11, c_12, l_12, c_13, c_14, l_14, c_15, l_15, c_16, l_16, c_17, l_17, c_18, c_19, l_19, c_20, l_20, c_21, l_21, c_22, l_22, c_23, c_24, l_24, c_25, l_25, c_26, c_27, c_28, l_28, c_29, c_30, l_30, c_31, c_32, l_32, c_33, l_33, c_34, l_34, c_35, l_35, c_36, l_36, c_37, l_37, c_38, l_38, c_39, l_39, c_40, c_41, l_41, c_42, c_43, c_44, l_44, c_45, c_46, l_46, c_47, c_48, l_48, c_49, l_49, c_50, l_50, c_51, l_51, c_52, l_52, c_53, l_53, c_54, l_54, c_55, l_55, c_56, l_56, c_57, l_57, c_58, l_58, c_59, l_59, c_60, l_60, c_61, l_61, c_62, c_63, l_63, c_64, l_64, c_65, l_65, c_66, l_66, c_67, l_67, c_68, l_68, c_69, l_69, c_70, l_70, c_71, l_71, c_72, l_72, c_73, l_73, c_74, l_74, c_75, l_75, c_76, l_76]
                refine h271 _ _ (goF_up hg3 (by decide) (by decide)) (by rw [mm_up_i _ (by decide), q1]) (by rw [mm_up_i _ (by decide), q2]) ?_ ?_
                · rw [mm_up_s, hz, hS]
                  split
                  · exact Or.inr (Or.inr (Or.inl ⟨rfl, rfl⟩))
                  · exact Or.inr (Or.inr (Or.inr (Or.inr (Or.inr ⟨rfl, rfl⟩))))
                · rw [hS, mm_up_i _ (by decide)]
                  intro c
                  have c2 : tkE N - tkP N ≤ 2 := by split at c <;> omega
                  have hV : tkV N = vwF (N 2) (tkP N) (tkE N - tkP N - 1).toNat := by
                    unfold tkV
                    rw [if_neg hend, if_neg hle', if_pos hdi']
                  rw [hV]
                  by_cases c3 : tkE N - tkP N = 1
                  · rw [q3 c3, show (tkE N - tkP N - 1).toNat = 0 by omega]
                    exact ⟨rfl, by simp only [vwF]; omega, by simp only [vwF]; omega⟩
                  · have c4 : tkE N - tkP N = 2 := by omega
                    have h2 := hall (tkP N + 1) (by omega) (by omega)
                    rw [diB_t] at h2
                    rw [q4 c4, show (tkE N - tkP N - 1).toNat = 0 + 1 by omega]
                    simp only [vwF]
                    rw [show tkP N + 1 + ((0 : Nat) : Int) = tkP N + 1 by omega, dig2 (by omega) (by omega) (by omega) (by omega)]
                    omega
              have h210 : ∀ M3 : mmM, goF M M3 → M3 62 21 = tkP N → M3 62 22 = tkE N → (tkE N - tkP N = 1 → M3 62 24 = N 2 (tkP N) - 48) → (tkE N - tkP N = 2 → M3 62 24 = 10 * (N 2 (tkP N) - 48) + N 2 (tkP N + 1) - 48) → J 210 [some (vr 62), some (vi v)] [] M3 := by
                intro M3 hg3 q1 q2 q3 q4
                have h228 : ¬ tkE N - tkP N ≤ 2 → J 228 [some (vr 62), some (vi v)] [vr 62] M3 := by
                  intro c
                  refine hJ 228 _ _ _ (show mm_wp _ _ _ mo_M_go_228 _ _ _ from ?_)
                  simp only [mo_M_go_228, mm_wp, mm_ldi, mm_lda, mm_ldl, mm_sti, mm_sta, mm_stl, mm_inc, mm_2i, mm_mm, mm_2l, mm_lcmp, mm_i2l, mm_l2i, mm_cast8, mm_if1, mm_if2, mm_cmp, mm_swi, mm_sw, mm_pop1, mm_dup, mm_dup2, mm_geti, mm_geta, mm_puti, mm_iald, mm_bald, mm_aald, mm_iast, mm_bast, mm_alen, mm_acpy, mm_call, mm_callv, mm_recv, mm_pop, mm_find, mm_push, mm_cats, mm_cat, mm_reti, mm_retz, mm_retl, mm_reta, mm_retv, mm_set1, mm_set2, mm_kill, List.getElem?_cons_zero, List.getElem?_cons_succ, Int.reduceToNat, ↓reduceIte, Nat.reduceEqDiff, Nat.reduceDiv, Nat.reduceAdd, Nat.reduceLeDiff, Nat.zero_le, true_and, and_true, true_or, or_true, mm_b0, mm_b1, mm_lc_lt, mm_lc_le, mm_lc_gt, mm_lc_ge, mm_lc_eq, Int.not_lt, Int.not_le, Decidable.not_not, Int.sub_neg]
                  exact h229 _ M3 hg3 q1 q2 q3 q4 (by rw [if_neg c])
                refine hJ 210 _ _ _ (show mm_wp _ _ _ mo_M_go_210 _ _ _ from ?_)
                simp only [mo_M_go_210, mm_wp, mm_ldi, mm_lda, mm_ldl, mm_sti, mm_sta, mm_stl, mm_inc, mm_2i, mm_mm, mm_2l, mm_lcmp, mm_i2l, mm_l2i, mm_cast8, mm_if1, mm_if2, mm_cmp, mm_swi, mm_sw, mm_pop1, mm_dup, mm_dup2, mm_geti, mm_geta, mm_puti, mm_iald, mm_bald, mm_aald, mm_iast, mm_bast, mm_alen, mm_acpy, mm_call, mm_callv, mm_recv, mm_pop, mm_find, mm_push, mm_cats, mm_cat, mm_reti, mm_retz, mm_retl, mm_reta, mm_retv, mm_set1, mm_set2, mm_kill, List.getElem?_cons_zero, List.getElem?_cons_succ, Int.reduceToNat, ↓reduceIte, Nat.reduceEqDiff, Nat.reduceDiv, Nat.reduceAdd, Nat.reduceLeDiff, Nat.zero_le, true_and, and_true, true_or, or_true, mm_b0, mm_b1, mm_lc_lt, mm_lc_le, mm_lc_gt, mm_lc_ge, mm_lc_eq, Int.not_lt, Int.not_le, Decidable.not_not, Int.sub_neg, c_0, c_1, c_2, l_2, c_3, c_4, l_4, c_5, l_5, c_6, l_6, c_7, l_7, c_8, c_9, l_9, c_10, l_10, c_11, l_11, c_12, l_12, c_13, c_14, l_14, c_15, l_15, c_16, l_16, c_17, l_17, c_18, c_19, l_19, c_20, l_20, c_21, l_21, c_22, l_22, c_23, c_24, l_24, c_25, l_25, c_26, c_27, c_28, l_28, c_29, c_30, l_30, c_31, c_32, l_32, c_33, l_33, c_34, l_34, c_35, l_35, c_36, l_36, c_37, l_37, c_38, l_38, c_39, l_39, c_40, c_41, l_41, c_42, c_43, c_44, l_44, c_45, c_46, l_46, c_47, c_48, l_48, c_49, l_49, c_50, l_50, c_51, l_51, c_52, l_52, c_53, l_53, c_54, l_54, c_55, l_55, c_56, l_56, c_57, l_57, c_58, l_58, c_59, l_59, c_60, l_60, c_61, l_61, c_62, c_63, l_63, c_64, l_64, c_65, l_65, c_66, l_66, c_67, l_67, c_68, l_68, c_69, l_69, c_70, l_70, c_71, l_71, c_72, l_72, c_73, l_73, c_74, l_74, c_75, l_75, c_76, l_76, q1, q2]
                exact ⟨by omega, fun z => h228 (by omega), fun z => h229 _ M3 hg3 q1 q2 q3 q4 (by rw [if_pos (by omega)])⟩
              have hl : ∀ (k m : Nat) (M3 : mmM), N 1 4 - (tkP N + m) = k → rnF (N 2) diB (tkP N + m) k = tkE N → goF M M3 → M3 62 21 = tkP N → M3 62 22 = tkP N + m → (m = 0 → M3 62 24 = 0) → (m = 1 → M3 62 24 = N 2 (tkP N) - 48) → (m = 2 → M3 62 24 = 10 * (N 2 (tkP N) - 48) + N 2 (tkP N + 1) - 48) → J 140 [some (vr 62), some (vi v)] [] M3 := by
                intro k
                induction k with
                | zero =>
                  intro m M3 hk hr hg3 q1 q2 w0 w1 w2
                  have hby := mby_out (N := N) (g20 M3 hg3) (show N 1 4 ≤ tkP N + m by omega)
                  have hr : tkP N + m = tkE N := hr
                  refine hJ 140 _ _ _ (show mm_wp _ _ _ mo_M_go_140 _ _ _ from ?_)
                  simp only [mo_M_go_140, mm_wp, mm_ldi, mm_lda, mm_ldl, mm_sti, mm_sta, mm_stl, mm_inc, mm_2i, mm_mm, mm_2l, mm_lcmp, mm_i2l, mm_l2i, mm_cast8, mm_if1, mm_if2, mm_cmp, mm_swi, mm_sw, mm_pop1, mm_dup, mm_dup2, mm_geti, mm_geta, mm_puti, mm_iald, mm_bald, mm_aald, mm_iast, mm_bast, mm_alen, mm_acpy, mm_call, mm_callv, mm_recv, mm_pop, mm_find, mm_push, mm_cats, mm_cat, mm_reti, mm_retz, mm_retl, mm_reta, mm_retv, mm_set1, mm_set2, mm_kill, List.getElem?_cons_zero, List.getElem?_cons_succ, Int.reduceToNat, ↓reduceIte, Nat.reduceEqDiff, Nat.reduceDiv, Nat.reduceAdd, Nat.reduceLeDiff, Nat.zero_le, true_and, and_true, true_or, or_true, mm_b0, mm_b1, mm_lc_lt, mm_lc_le, mm_lc_gt, mm_lc_ge, mm_lc_eq, Int.not_lt, Int.not_le, Decidable.not_not, Int.sub_neg, c_0, c_1, c_2, l_2, c_3, c_4, l_4, c_5, l_5, c_6, l_6, c_7, l_7, c_8, c_9, l_9, c_10, l_10, c_11, l_11, c_12, l_12, c_13, c_14, l_14, c_15, l_15, c_16, l_16, c_17, l_17, c_18, c_19, l_19, c_20, l_20, c_21, l_21, c_22, l_22, c_23, c_24, l_24, c_25, l_25, c_26, c_27, c_28, l_28, c_29, c_30, l_30, c_31, c_32, l_32, c_33, l_33, c_34, l_34, c_35, l_35, c_36, l_36, c_37, l_37, c_38, l_38, c_39, l_39, c_40, c_41, l_41, c_42, c_43, c_44, l_44, c_45, c_46, l_46, c_47, c_48, l_48, c_49, l_49, c_50, l_50, c_51, l_51, c_52, l_52, c_53, l_53, c_54, l_54, c_55, l_55, c_56, l_56, c_57, l_57, c_58, l_58, c_59, l_59, c_60, l_60, c_61, l_61, c_62, c_63, l_63, c_64, l_64, c_65, l_65, c_66, l_66, c_67, l_67, c_68, l_68, c_69, l_69, c_70, l_70, c_71, l_71, c_72, l_72, c_73, l_73, c_74, l_74, c_75, l_75, c_76, l_76, t_M_byteAt, t_M_isDigit, q2, g20 M3 hg3, hby]
                  exact ⟨by omega, by omega, fun _ => h210 M3 hg3 q1 (by omega) (fun c => w1 (by omega)) (fun c => w2 (by omega)), fun z => by omega⟩
                | succ k ih =>
                  intro m M3 hk hr hg3 q1 q2 w0 w1 w2
                  have hby := mby_in (M1 := M3) hd (g20 M3 hg3) (g63 M3 hg3) ht (show 0 ≤ tkP N + m by omega) (by omega)
                  simp only [rnF] at hr
                  by_cases hc : diB (N 2 (tkP N + m)) = true
                  · have hc' := hc
                    rw [diB_t] at hc
                    rw [if_pos hc', show tkP N + (m : Int) + 1 = tkP N + ((m + 1 : Nat) : Int) by omega] at hr
                    have h194 : ∀ z : Int, (m = 0 → z = N 2 (tkP N) - 48) → (m = 1 → z = 10 * (N 2 (tkP N) - 48) + N 2 (tkP N + 1) - 48) → J 194 [some (vr 62), some (vi v)] [vi z, vr 62] M3 := by
                      intro z z0 z1
                      have e22 : mm_up M3 62 24 z 62 22 = tkP N + m := by rw [mm_up_i _ (by decide), q2]
                      refine hJ 194 _ _ _ (show mm_wp _ _ _ mo_M_go_194 _ _ _ from ?_)
                      simp only [mo_M_go_194, mm_wp, mm_ldi, mm_lda, mm_ldl, mm_sti, mm_sta, mm_stl, mm_inc, mm_2i, mm_mm, mm_2l, mm_lcmp, mm_i2l, mm_l2i, mm_cast8, mm_if1, mm_if2, mm_cmp, mm_swi, mm_sw, mm_pop1, mm_dup, mm_dup2, mm_geti, mm_geta, mm_puti, mm_iald, mm_bald, mm_aald, mm_iast, mm_bast, mm_alen, mm_acpy, mm_call, mm_callv, mm_recv, mm_pop, mm_find, mm_push, mm_cats, mm_cat, mm_reti, mm_retz, mm_retl, mm_reta, mm_retv, mm_set1, mm_set2, mm_kill, List.getElem?_cons_zero, List.getElem?_cons_succ, Int.reduceToNat, ↓reduceIte, Nat.reduceEqDiff, Nat.reduceDiv, Nat.reduceAdd, Nat.reduceLeDiff, Nat.zero_le, true_and, and_true, true_or, or_true, mm_b0, mm_b1, mm_lc_lt, mm_lc_le, mm_lc_gt, mm_lc_ge, mm_lc_eq, Int.not_lt, Int.not_le, Decidable.not_not, Int.sub_neg, c_0, c_1, c_2, l_2, c_3, c_4, l_4, c_5, l_5, c_6, l_6, c_7, l_7, c_8, c_9, l_9, c_10, l_10, c_11, l_11, c_12, l_12, c_13, c_14, l_14, c_15, l_15, c_16, l_16, c_17, l_17, c_18, c_19, l_19, c_20, l_20, c_21, l_21, c_22, l_22, c_23, c_24, l_24, c_25, l_25, c_26, c_27, c_28, l_28, c_29, c_30, l_30, c_31, c_32, l_32, c_33, l_33, c_34, l_34, c_35, l_35, c_36, l_36, c_37, l_37, c_38, l_38, c_39, l_39, c_40, c_41, l_41, c_42, c_43, c_44, l_44, c_45, c_46, l_46, c_47, c_48, l_48, c_49, l_49, c_50, l_50, c_51, l_51, c_52, l_52, c_53, l_53, c_54, l_54, c_55, l_55, c_56, l_56, c_57, l_57, c_58, l_58, c_59, l_59, c_60, l_60, c_61, l_61, c_62, c_63, l_63, c_64, l_64, c_65, l_65, c_66, l_66, c_67, l_67, c_68, l_68, c_69, l_69, c_70, l_70, c_71, l_71, c_72, l_72, c_73, l_73, c_74, l_74, c_75, l_75, c_76, l_76, e22]
                      refine ⟨by omega, ih (m + 1) _ (by omega) hr (goF_up (goF_up hg3 (by decide) (by decide)) (by decide) (by decide)) (by rw [mm_up_i _ (by decide), mm_up_i _ (by decide), q1]) (by rw [mm_up_s]; omega) (fun c => by omega) (fun c => ?_) (fun c => ?_)⟩
                      · rw [mm_up_i _ (by decide), mm_up_s]; exact z0 (by omega)
                      · rw [mm_up_i _ (by decide), mm_up_s]; exact z1 (by omega)
                    have h190 : ¬ m < 2 → J 190 [some (vr 62), some (vi v)] [vr 62] M3 := by
                      intro c
                      refine hJ 190 _ _ _ (show mm_wp _ _ _ mo_M_go_190 _ _ _ from ?_)
                      simp only [mo_M_go_190, mm_wp, mm_ldi, mm_lda, mm_ldl, mm_sti, mm_sta, mm_stl, mm_inc, mm_2i, mm_mm, mm_2l, mm_lcmp, mm_i2l, mm_l2i, mm_cast8, mm_if1, mm_if2, mm_cmp, mm_swi, mm_sw, mm_pop1, mm_dup, mm_dup2, mm_geti, mm_geta, mm_puti, mm_iald, mm_bald, mm_aald, mm_iast, mm_bast, mm_alen, mm_acpy, mm_call, mm_callv, mm_recv, mm_pop, mm_find, mm_push, mm_cats, mm_cat, mm_reti, mm_retz, mm_retl, mm_reta, mm_retv, mm_set1, mm_set2, mm_kill, List.getElem?_cons_zero, List.getElem?_cons_succ, Int.reduceToNat, ↓reduceIte, Nat.reduceEqDiff, Nat.reduceDiv, Nat.reduceAdd, Nat.reduceLeDiff, Nat.zero_le, true_and, and_true, true_or, or_true, mm_b0, mm_b1, mm_lc_lt, mm_lc_le, mm_lc_gt, mm_lc_ge, mm_lc_eq, Int.not_lt, Int.not_le, Decidable.not_not, Int.sub_neg, c_0, c_1, c_2, l_2, c_3, c_4, l_4, c_5, l_5, c_6, l_6, c_7, l_7, c_8, c_9, l_9, c_10, l_10, c_11, l_11, c_12, l_12, c_13, c_14, l_14, c_15, l_15, c_16, l_16, c_17, l_17, c_18, c_19, l_19, c_20, l_20, c_21, l_21, c_22, l_22, c_23, c_24, l_24, c_25, l_25, c_26, c_27, c_28, l_28, c_29, c_30, l_30, c_31, c_32, l_32, c_33, l_33, c_34, l_34, c_35, l_35, c_36, l_36, c_37, l_37, c_38, l_38, c_39, l_39, c_40, c_41, l_41, c_42, c_43, c_44, l_44, c_45, c_46, l_46, c_47, c_48, l_48, c_49, l_49, c_50, l_50, c_51, l_51, c_52, l_52, c_53, l_53, c_54, l_54, c_55, l_55, c_56, l_56, c_57, l_57, c_58, l_58, c_59, l_59, c_60, l_60, c_61, l_61, c_62, c_63, l_63, c_64, l_64, c_65, l_65, c_66, l_66, c_67, l_67, c_68, l_68, c_69, l_69, c_70, l_70, c_71, l_71, c_72, l_72, c_73, l_73, c_74, l_74, c_75, l_75, c_76, l_76]
                      exact h194 _ (fun c => by omega) (fun c => by omega)
                    have w24 : m < 2 → 0 ≤ M3 62 24 ∧ M3 62 24 ≤ 9 := by
                      intro c
                      by_cases c0 : m = 0
                      · rw [w0 c0]; omega
                      · rw [w1 (by omega)]; omega
                    refine hJ 140 _ _ _ (show mm_wp _ _ _ mo_M_go_140 _ _ _ from ?_)
                    simp only [mo_M_go_140, mm_wp, mm_ldi, mm_lda, mm_ldl, mm_sti, mm_sta, mm_stl, mm_inc, mm_2i, mm_mm, mm_2l, mm_lcmp, mm_i2l, mm_l2i, mm_cast8, mm_if1, mm_if2, mm_cmp, mm_swi, mm_sw, mm_pop1, mm_dup, mm_dup2, mm_geti, mm_geta, mm_puti, mm_iald, mm_bald, mm_aald, mm_iast, mm_bast, mm_alen, mm_acpy, mm_call, mm_callv, mm_recv, mm_pop, mm_find, mm_push, mm_cats, mm_cat, mm_reti, mm_retz, mm_retl, mm_reta, mm_retv, mm_set1, mm_set2, mm_kill, List.getElem?_cons_zero, List.getElem?_cons_succ, Int.reduceToNat, ↓reduceIte, Nat.reduceEqDiff, Nat.reduceDiv, Nat.reduceAdd, Nat.reduceLeDiff, Nat.zero_le, true_and, and_true, true_or, or_true, mm_b0, mm_b1, mm_lc_lt, mm_lc_le, mm_lc_gt, mm_lc_ge, mm_lc_eq, Int.not_lt, Int.not_le, Decidable.not_not, Int.sub_neg, c_0, c_1, c_2, l_2, c_3, c_4, l_4, c_5, l_5, c_6, l_6, c_7, l_7, c_8, c_9, l_9, c_10, l_10, c_11, l_11, c_12, l_12, c_13, c_14, l_14, c_15, l_15, c_16, l_16, c_17, l_17, c_18, c_19, l_19, c_20, l_20, c_21, l_21, c_22, l_22, c_23, c_24, l_24, c_25, l_25, c_26, c_27, c_28, l_28, c_29, c_30, l_30, c_31, c_32, l_32, c_33, l_33, c_34, l_34, c_35, l_35, c_36, l_36, c_37, l_37, c_38, l_38, c_39, l_39, c_40, c_41, l_41, c_42, c_43, c_44, l_44, c_45, c_46, l_46, c_47, c_48, l_48, c_49, l_49, c_50, l_50, c_51, l_51, c_52, l_52, c_53, l_53, c_54, l_54, c_55, l_55, c_56, l_56, c_57, l_57, c_58, l_58, c_59, l_59, c_60, l_60, c_61, l_61, c_62, c_63, l_63, c_64, l_64, c_65, l_65, c_66, l_66, c_67, l_67, c_68, l_68, c_69, l_69, c_70, l_70, c_71, l_71, c_72, l_72, c_73, l_73, c_74, l_74, c_75, l_75, c_76, l_76, t_M_byteAt, t_M_isDigit, q1, q2, g20 M3 hg3]
                    refine ⟨by omega, by omega, fun z => by omega, fun _ => ⟨by omega, fun z => h190 (by omega), fun z => ?_⟩⟩
                    have := w24 (by omega)
                    refine ⟨by omega, by omega, by omega, by omega, by omega, h194 _ (fun c => ?_) (fun c => ?_)⟩
                    · rw [hby.2.2.1 (by omega), w0 c, c, show tkP N + ((0 : Nat) : Int) = tkP N by omega]; omega
                    · rw [hby.2.2.1 (by omega), w1 c, c, show tkP N + ((1 : Nat) : Int) = tkP N + 1 by omega]
                  · have hc' := hc
                    rw [diB_t] at hc
                    rw [if_neg hc'] at hr
                    refine hJ 140 _ _ _ (show mm_wp _ _ _ mo_M_go_140 _ _ _ from ?_)
                    simp only [mo_M_go_140, mm_wp, mm_ldi, mm_lda, mm_ldl, mm_sti, mm_sta, mm_stl, mm_inc, mm_2i, mm_mm, mm_2l, mm_lcmp, mm_i2l, mm_l2i, mm_cast8, mm_if1, mm_if2, mm_cmp, mm_swi, mm_sw, mm_pop1, mm_dup, mm_dup2, mm_geti, mm_geta, mm_puti, mm_iald, mm_bald, mm_aald, mm_iast, mm_bast, mm_alen, mm_acpy, mm_call, mm_callv, mm_recv, mm_pop, mm_find, mm_push, mm_cats, mm_cat, mm_reti, mm_retz, mm_retl, mm_reta, mm_retv, mm_set1, mm_set2, mm_kill, List.getElem?_cons_zero, List.getElem?_cons_succ, Int.reduceToNat, ↓reduceIte, Nat.reduceEqDiff, Nat.reduceDiv, Nat.reduceAdd, Nat.reduceLeDiff, Nat.zero_le, true_and, and_true, true_or, or_true, mm_b0, mm_b1, mm_lc_lt, mm_lc_le, mm_lc_gt, mm_lc_ge, mm_lc_eq, Int.not_lt, Int.not_le, Decidable.not_not, Int.sub_neg, c_0, c_1, c_2, l_2, c_3, c_4, l_4, c_5, l_5, c_6, l_6, c_7, l_7, c_8, c_9, l_9, c_10, l_10, c_11, l_11, c_12, l_12, c_13, c_14, l_14, c_15, l_15, c_16, l_16, c_17, l_17, c_18, c_19, l_19, c_20, l_20, c_21, l_21, c_22, l_22, c_23, c_24, l_24, c_25, l_25, c_26, c_27, c_28, l_28, c_29, c_30, l_30, c_31, c_32, l_32, c_33, l_33, c_34, l_34, c_35, l_35, c_36, l_36, c_37, l_37, c_38, l_38, c_39, l_39, c_40, c_41, l_41, c_42, c_43, c_44, l_44, c_45, c_46, l_46, c_47, c_48, l_48, c_49, l_49, c_50, l_50, c_51, l_51, c_52, l_52, c_53, l_53, c_54, l_54, c_55, l_55, c_56, l_56, c_57, l_57, c_58, l_58, c_59, l_59, c_60, l_60, c_61, l_61, c_62, c_63, l_63, c_64, l_64, c_65, l_65, c_66, l_66, c_67, l_67, c_68, l_68, c_69, l_69, c_70, l_70, c_71, l_71, c_72, l_72, c_73, l_73, c_74, l_74, c_75, l_75, c_76, l_76, t_M_byteAt, t_M_isDigit, q2, g20 M3 hg3]
                    exact ⟨by omega, by omega, fun z => h210 M3 hg3 q1 (by omega) (fun c => w1 (by omega)) (fun c => w2 (by omega)), fun z => by omega⟩
              have h140 := hl (N 1 4 - tkP N).toNat 0 (mm_up M2 62 24 0) (by omega) (by rw [show tkP N + ((0 : Nat) : Int) = tkP N by omega]; exact hE.symm) (goF_up hg1 (by decide) (by decide)) (by rw [mm_up_i _ (by decide), e21']) (by rw [mm_up_i _ (by decide), e22']; omega) (fun _ => by rw [mm_up_s]) (fun c => by omega) (fun c => by omega)
              refine hJ 128 _ _ _ (show mm_wp _ _ _ mo_M_go_128 _ _ _ from ?_)
              simp only [mo_M_go_128, mm_wp, mm_ldi, mm_lda, mm_ldl, mm_sti, mm_sta, mm_stl, mm_inc, mm_2i, mm_mm, mm_2l, mm_lcmp, mm_i2l, mm_l2i, mm_cast8, mm_if1, mm_if2, mm_cmp, mm_swi, mm_sw, mm_pop1, mm_dup, mm_dup2, mm_geti, mm_geta, mm_puti, mm_iald, mm_bald, mm_aald, mm_iast, mm_bast, mm_alen, mm_acpy, mm_call, mm_callv, mm_recv, mm_pop, mm_find, mm_push, mm_cats, mm_cat, mm_reti, mm_retz, mm_retl, mm_reta, mm_retv, mm_set1, mm_set2, mm_kill, List.getElem?_cons_zero, List.getElem?_cons_succ, Int.reduceToNat, ↓reduceIte, Nat.reduceEqDiff, Nat.reduceDiv, Nat.reduceAdd, Nat.reduceLeDiff, Nat.zero_le, true_and, and_true, true_or, or_true, mm_b0, mm_b1, mm_lc_lt, mm_lc_le, mm_lc_gt, mm_lc_ge, mm_lc_eq, Int.not_lt, Int.not_le, Decidable.not_not, Int.sub_neg, c_0, c_1, c_2, l_2, c_3, c_4, l_4, c_5, l_5, c_6, l_6, c_7, l_7, c_8, c_9, l_9, c_10, l_10, c_11, l_11, c_12, l_12, c_13, c_14, l_14, c_15, l_15, c_16, l_16, c_17, l_17, c_18, c_19, l_19, c_20, l_20, c_21, l_21, c_22, l_22, c_23, c_24, l_24, c_25, l_25, c_26, c_27, c_28, l_28, c_29, c_30, l_30, c_31, c_32, l_32, c_33, l_33, c_34, l_34, c_35, l_35, c_36, l_36, c_37, l_37, c_38, l_38, c_39, l_39, c_40, c_41, l_41, c_42, c_43, c_44, l_44, c_45, c_46, l_46, c_47, c_48, l_48, c_49, l_49, c_50, l_50, c_51, l_51, c_52, l_52, c_53, l_53, c_54, l_54, c_55, l_55, c_56, l_56, c_57, l_57, c_58, l_58, c_59, l_59, c_60, l_60, c_61, l_61, c_62, c_63, l_63, c_64, l_64, c_65, l_65, c_66, l_66, c_67, l_67, c_68, l_68, c_69, l_69, c_70, l_70, c_71, l_71, c_72, l_72, c_73, l_73, c_74, l_74, c_75, l_75, c_76, l_76, t_M_isDigit]
              exact ⟨fun z => by omega, fun _ => h140⟩
            · have hdi' := hdi
              rw [diB_t] at hdi
              have hE : tkE N = tkP N + 1 := by
                unfold tkE
                rw [if_neg hend, if_neg hle', if_neg hdi']
              have hS : tkS N = if N 2 (tkP N) = 59 then 3 else if N 2 (tkP N) = 44 then 4 else 5 := by
                unfold tkS
                rw [if_neg hend, if_neg hle', if_neg hdi']
              have h258 : ∀ (z : Int) (M3 : mmM), goF M M3 → M3 62 21 = tkP N → M3 62 22 = tkP N → M3 62 25 = v → tokR (tkS N) z v → J 258 [some (vr 62), some (vi v)] [vi z, vr 62] M3 := by
                intro z M3 hg3 q1 q2 q3 hz
                have e22 : mm_up M3 62 23 z 62 22 = tkP N := by rw [mm_up_i _ (by decide), q2]
                have := h271 (mm_up (mm_up M3 62 23 z) 62 22 (tkP N + 1)) (some (vi v)) (goF_up (goF_up hg3 (by decide) (by decide)) (by decide) (by decide)) (by rw [mm_up_i _ (by decide), mm_up_i _ (by decide), q1]) (by rw [mm_up_s, hE]) (by
                  rw [mm_up_i _ (by decide), mm_up_s, mm_up_i _ (by decide), mm_up_i _ (by decide), q3]
                  exact hz) (by
                  rw [hS]
                  intro c
                  split at c
                  · omega
                  · split at c <;> omega)
                refine hJ 258 _ _ _ (show mm_wp _ _ _ mo_M_go_258 _ _ _ from ?_)
                simp only [mo_M_go_258, mm_wp, mm_ldi, mm_lda, mm_ldl, mm_sti, mm_sta, mm_stl, mm_inc, mm_2i, mm_mm, mm_2l, mm_lcmp, mm_i2l, mm_l2i, mm_cast8, mm_if1, mm_if2, mm_cmp, mm_swi, mm_sw, mm_pop1, mm_dup, mm_dup2, mm_geti, mm_geta, mm_puti, mm_iald, mm_bald, mm_aald, mm_iast, mm_bast, mm_alen, mm_acpy, mm_call, mm_callv, mm_recv, mm_pop, mm_find, mm_push, mm_cats, mm_cat, mm_reti, mm_retz, mm_retl, mm_reta, mm_retv, mm_set1, mm_set2, mm_kill, List.getElem?_cons_zero, List.getElem?_cons_succ, Int.reduceToNat, ↓reduceIte, Nat.reduceEqDiff, Nat.reduceDiv, Nat.reduceAdd, Nat.reduceLeDiff, Nat.zero_le, true_and, and_true, true_or, or_true, mm_b0, mm_b1, mm_lc_lt, mm_lc_le, mm_lc_gt, mm_lc_ge, mm_lc_eq, Int.not_lt, Int.not_le, Decidable.not_not, Int.sub_neg, c_0, c_1, c_2, l_2, c_3, c_4, l_4, c_5, l_5, c_6, l_6, c_7, l_7, c_8, c_9, l_9, c_10, l_10, c_11, l_11, c_12, l_12, c_13, c_14, l_14, c_15, l_15, c_16, l_16, c_17, l_17, c_18, c_19, l_19, c_20, l_20, c_21, l_21, c_22, l_22, c_23, c_24, l_24, c_25, l_25, c_26, c_27, c_28, l_28, c_29, c_30, l_30, c_31, c_32, l_32, c_33, l_33, c_34, l_34, c_35, l_35, c_36, l_36, c_37, l_37, c_38, l_38, c_39, l_39, c_40, c_41, l_41, c_42, c_43, c_44, l_44, c_45, c_46, l_46, c_47, c_48, l_48, c_49, l_49, c_50, l_50, c_51, l_51, c_52, l_52, c_53, l_53, c_54, l_54, c_55, l_55, c_56, l_56, c_57, l_57, c_58, l_58, c_59, l_59, c_60, l_60, c_61, l_61, c_62, c_63, l_63, c_64, l_64, c_65, l_65, c_66, l_66, c_67, l_67, c_68, l_68, c_69, l_69, c_70, l_70, c_71, l_71, c_72, l_72, c_73, l_73, c_74, l_74, c_75, l_75, c_76, l_76, e22]
                exact ⟨by omega, this⟩
              have hg2 : goF M (mm_up M2 62 25 v) := goF_up hg1 (by decide) (by decide)
              have k1 : mm_up M2 62 25 v 62 21 = tkP N := by rw [mm_up_i _ (by decide), e21']
              have k2 : mm_up M2 62 25 v 62 22 = tkP N := by rw [mm_up_i _ (by decide), e22']
              have k3 : mm_up M2 62 25 v 62 25 = v := mm_up_s _ _ _ _
              have h253 : (v = 59 ∨ v = 44) → J 253 [some (vr 62), some (vi v)] [vr 62] (mm_up M2 62 25 v) := by
                intro c
                refine hJ 253 _ _ _ (show mm_wp _ _ _ mo_M_go_253 _ _ _ from ?_)
                simp only [mo_M_go_253, mm_wp, mm_ldi, mm_lda, mm_ldl, mm_sti, mm_sta, mm_stl, mm_inc, mm_2i, mm_mm, mm_2l, mm_lcmp, mm_i2l, mm_l2i, mm_cast8, mm_if1, mm_if2, mm_cmp, mm_swi, mm_sw, mm_pop1, mm_dup, mm_dup2, mm_geti, mm_geta, mm_puti, mm_iald, mm_bald, mm_aald, mm_iast, mm_bast, mm_alen, mm_acpy, mm_call, mm_callv, mm_recv, mm_pop, mm_find, mm_push, mm_cats, mm_cat, mm_reti, mm_retz, mm_retl, mm_reta, mm_retv, mm_set1, mm_set2, mm_kill, List.getElem?_cons_zero, List.getElem?_cons_succ, Int.reduceToNat, ↓reduceIte, Nat.reduceEqDiff, Nat.reduceDiv, Nat.reduceAdd, Nat.reduceLeDiff, Nat.zero_le, true_and, and_true, true_or, or_true, mm_b0, mm_b1, mm_lc_lt, mm_lc_le, mm_lc_gt, mm_lc_ge, mm_lc_eq, Int.not_lt, Int.not_le, Decidable.not_not, Int.sub_neg]
                refine h258 _ _ hg2 k1 k2 k3 ?_
                rw [hS]
                rcases c with c | c
                · rw [if_pos (by omega)]; exact Or.inr (Or.inr (Or.inr (Or.inl ⟨rfl, rfl, c⟩)))
                · rw [if_neg (by omega), if_pos (by omega)]; exact Or.inr (Or.inr (Or.inr (Or.inr (Or.inl ⟨rfl, rfl, c⟩))))
              have h257 : ¬ v = 59 → ¬ v = 44 → J 257 [some (vr 62), some (vi v)] [vr 62] (mm_up M2 62 25 v) := by
                intro c1 c2
                refine hJ 257 _ _ _ (show mm_wp _ _ _ mo_M_go_257 _ _ _ from ?_)
                simp only [mo_M_go_257, mm_wp, mm_ldi, mm_lda, mm_ldl, mm_sti, mm_sta, mm_stl, mm_inc, mm_2i, mm_mm, mm_2l, mm_lcmp, mm_i2l, mm_l2i, mm_cast8, mm_if1, mm_if2, mm_cmp, mm_swi, mm_sw, mm_pop1, mm_dup, mm_dup2, mm_geti, mm_geta, mm_puti, mm_iald, mm_bald, mm_aald, mm_iast, mm_bast, mm_alen, mm_acpy, mm_call, mm_callv, mm_recv, mm_pop, mm_find, mm_push, mm_cats, mm_cat, mm_reti, mm_retz, mm_retl, mm_reta, mm_retv, mm_set1, mm_set2, mm_kill, List.getElem?_cons_zero, List.getElem?_cons_succ, Int.reduceToNat, ↓reduceIte, Nat.reduceEqDiff, Nat.reduceDiv, Nat.reduceAdd, Nat.reduceLeDiff, Nat.zero_le, true_and, and_true, true_or, or_true, mm_b0, mm_b1, mm_lc_lt, mm_lc_le, mm_lc_gt, mm_lc_ge, mm_lc_eq, Int.not_lt, Int.not_le, Decidable.not_not, Int.sub_neg]
                refine h258 _ _ hg2 k1 k2 k3 ?_
                rw [hS, if_neg (by omega), if_neg (by omega)]
                exact Or.inr (Or.inr (Or.inr (Or.inr (Or.inr ⟨rfl, rfl⟩))))
              have h235 : J 235 [some (vr 62), some (vi v)] [] M2 := by
                refine hJ 235 _ _ _ (show mm_wp _ _ _ mo_M_go_235 _ _ _ from ?_)
                simp only [mo_M_go_235, mm_wp, mm_ldi, mm_lda, mm_ldl, mm_sti, mm_sta, mm_stl, mm_inc, mm_2i, mm_mm, mm_2l, mm_lcmp, mm_i2l, mm_l2i, mm_cast8, mm_if1, mm_if2, mm_cmp, mm_swi, mm_sw, mm_pop1, mm_dup, mm_dup2, mm_geti, mm_geta, mm_puti, mm_iald, mm_bald, mm_aald, mm_iast, mm_bast, mm_alen, mm_acpy, mm_call, mm_callv, mm_recv, mm_pop, mm_find, mm_push, mm_cats, mm_cat, mm_reti, mm_retz, mm_retl, mm_reta, mm_retv, mm_set1, mm_set2, mm_kill, List.getElem?_cons_zero, List.getElem?_cons_succ, Int.reduceToNat, ↓reduceIte, Nat.reduceEqDiff, Nat.reduceDiv, Nat.reduceAdd, Nat.reduceLeDiff, Nat.zero_le, true_and, and_true, true_or, or_true, mm_b0, mm_b1, mm_lc_lt, mm_lc_le, mm_lc_gt, mm_lc_ge, mm_lc_eq, Int.not_lt, Int.not_le, Decidable.not_not, Int.sub_neg, c_0, c_1, c_2, l_2, c_3, c_4, l_4, c_5, l_5, c_6, l_6, c_7, l_7, c_8, c_9, l_9, c_10, l_10, c_11, l_11, c_12, l_12, c_13, c_14, l_14, c_15, l_15, c_16, l_16, c_17, l_17, c_18, c_19, l_19, c_20, l_20, c_21, l_21, c_22, l_22, c_23, c_24, l_24, c_25, l_25, c_26, c_27, c_28, l_28, c_29, c_30, l_30, c_31, c_32, l_32, c_33, l_33, c_34, l_34, c_35, l_35, c_36, l_36, c_37, l_37, c_38, l_38, c_39, l_39, c_40, c_41, l_41, c_42, c_43, c_44, l_44, c_45, c_46, l_46, c_47, c_48, l_48, c_49, l_49, c_50, l_50, c_51, l_51, c_52, l_52, c_53, l_53, c_54, l_54, c_55, l_55, c_56, l_56, c_57, l_57, c_58, l_58, c_59, l_59, c_60, l_60, c_61, l_61, c_62, c_63, l_63, c_64, l_64, c_65, l_65, c_66, l_66, c_67, l_67, c_68, l_68, c_69, l_69, c_70, l_70, c_71, l_71, c_72, l_72, c_73, l_73, c_74, l_74, c_75, l_75, c_76, l_76]
                exact ⟨fun z => h253 (Or.inl z), fun z => ⟨fun z2 => h257 z z2, fun z2 => h253 (Or.inr z2)⟩⟩
              refine hJ 128 _ _ _ (show mm_wp _ _ _ mo_M_go_128 _ _ _ from ?_)
              simp only [mo_M_go_128, mm_wp, mm_ldi, mm_lda, mm_ldl, mm_sti, mm_sta, mm_stl, mm_inc, mm_2i, mm_mm, mm_2l, mm_lcmp, mm_i2l, mm_l2i, mm_cast8, mm_if1, mm_if2, mm_cmp, mm_swi, mm_sw, mm_pop1, mm_dup, mm_dup2, mm_geti, mm_geta, mm_puti, mm_iald, mm_bald, mm_aald, mm_iast, mm_bast, mm_alen, mm_acpy, mm_call, mm_callv, mm_recv, mm_pop, mm_find, mm_push, mm_cats, mm_cat, mm_reti, mm_retz, mm_retl, mm_reta, mm_retv, mm_set1, mm_set2, mm_kill, List.getElem?_cons_zero, List.getElem?_cons_succ, Int.reduceToNat, ↓reduceIte, Nat.reduceEqDiff, Nat.reduceDiv, Nat.reduceAdd, Nat.reduceLeDiff, Nat.zero_le, true_and, and_true, true_or, or_true, mm_b0, mm_b1, mm_lc_lt, mm_lc_le, mm_lc_gt, mm_lc_ge, mm_lc_eq, Int.not_lt, Int.not_le, Decidable.not_not, Int.sub_neg, c_0, c_1, c_2, l_2, c_3, c_4, l_4, c_5, l_5, c_6, l_6, c_7, l_7, c_8, c_9, l_9, c_10, l_10, c_11, l_11, c_12, l_12, c_13, c_14, l_14, c_15, l_15, c_16, l_16, c_17, l_17, c_18, c_19, l_19, c_20, l_20, c_21, l_21, c_22, l_22, c_23, c_24, l_24, c_25, l_25, c_26, c_27, c_28, l_28, c_29, c_30, l_30, c_31, c_32, l_32, c_33, l_33, c_34, l_34, c_35, l_35, c_36, l_36, c_37, l_37, c_38, l_38, c_39, l_39, c_40, c_41, l_41, c_42, c_43, c_44, l_44, c_45, c_46, l_46, c_47, c_48, l_48, c_49, l_49, c_50, l_50, c_51, l_51, c_52, l_52, c_53, l_53, c_54, l_54, c_55, l_55, c_56, l_56, c_57, l_57, c_58, l_58, c_59, l_59, c_60, l_60, c_61, l_61, c_62, c_63, l_63, c_64, l_64, c_65, l_65, c_66, l_66, c_67, l_67, c_68, l_68, c_69, l_69, c_70, l_70, c_71, l_71, c_72, l_72, c_73, l_73, c_74, l_74, c_75, l_75, c_76, l_76, t_M_isDigit]
              exact ⟨fun z => h235, fun z => by omega⟩
          refine hJ 68 _ _ _ (show mm_wp _ _ _ mo_M_go_68 _ _ _ from ?_)
          simp only [mo_M_go_68, mm_wp, mm_ldi, mm_lda, mm_ldl, mm_sti, mm_sta, mm_stl, mm_inc, mm_2i, mm_mm, mm_2l, mm_lcmp, mm_i2l, mm_l2i, mm_cast8, mm_if1, mm_if2, mm_cmp, mm_swi, mm_sw, mm_pop1, mm_dup, mm_dup2, mm_geti, mm_geta, mm_puti, mm_iald, mm_bald, mm_aald, mm_iast, mm_bast, mm_alen, mm_acpy, mm_call, mm_callv, mm_recv, mm_pop, mm_find, mm_push, mm_cats, mm_cat, mm_reti, mm_retz, mm_retl, mm_reta, mm_retv, mm_set1, mm_set2, mm_kill, List.getElem?_cons_zero, List.getElem?_cons_succ, Int.reduceToNat, ↓reduceIte, Nat.reduceEqDiff, Nat.reduceDiv, Nat.reduceAdd, Nat.reduceLeDiff, Nat.zero_le, true_and, and_true, true_or, or_true, mm_b0, mm_b1, mm_lc_lt, mm_lc_le, mm_lc_gt, mm_lc_ge, mm_lc_eq, Int.not_lt, Int.not_le, Decidable.not_not, Int.sub_neg, t_M_isLetter]
          exact ⟨fun z => h128, fun z => by omega⟩
      refine hJ 39 _ _ _ (show mm_wp _ _ _ mo_M_go_39 _ _ _ from ?_)
      simp only [mo_M_go_39, mm_wp, mm_ldi, mm_lda, mm_ldl, mm_sti, mm_sta, mm_stl, mm_inc, mm_2i, mm_mm, mm_2l, mm_lcmp, mm_i2l, mm_l2i, mm_cast8, mm_if1, mm_if2, mm_cmp, mm_swi, mm_sw, mm_pop1, mm_dup, mm_dup2, mm_geti, mm_geta, mm_puti, mm_iald, mm_bald, mm_aald, mm_iast, mm_bast, mm_alen, mm_acpy, mm_call, mm_callv, mm_recv, mm_pop, mm_find, mm_push, mm_cats, mm_cat, mm_reti, mm_retz, mm_retl, mm_reta, mm_retv, mm_set1, mm_set2, mm_kill, List.getElem?_cons_zero, List.getElem?_cons_succ, Int.reduceToNat, ↓reduceIte, Nat.reduceEqDiff, Nat.reduceDiv, Nat.reduceAdd, Nat.reduceLeDiff, Nat.zero_le, true_and, and_true, true_or, or_true, mm_b0, mm_b1, mm_lc_lt, mm_lc_le, mm_lc_gt, mm_lc_ge, mm_lc_eq, Int.not_lt, Int.not_le, Decidable.not_not, Int.sub_neg, c_0, c_1, c_2, l_2, c_3, c_4, l_4, c_5, l_5, c_6, l_6, c_7, l_7, c_8, c_9, l_9, c_10, l_10, c_11, l_11, c_12, l_12, c_13, c_14, l_14, c_15, l_15, c_16, l_16, c_17, l_17, c_18, c_19, l_19, c_20, l_20, c_21, l_21, c_22, l_22, c_23, c_24, l_24, c_25, l_25, c_26, c_27, c_28, l_28, c_29, c_30, l_30, c_31, c_32, l_32, c_33, l_33, c_34, l_34, c_35, l_35, c_36, l_36, c_37, l_37, c_38, l_38, c_39, l_39, c_40, c_41, l_41, c_42, c_43, c_44, l_44, c_45, c_46, l_46, c_47, c_48, l_48, c_49, l_49, c_50, l_50, c_51, l_51, c_52, l_52, c_53, l_53, c_54, l_54, c_55, l_55, c_56, l_56, c_57, l_57, c_58, l_58, c_59, l_59, c_60, l_60, c_61, l_61, c_62, c_63, l_63, c_64, l_64, c_65, l_65, c_66, l_66, c_67, l_67, c_68, l_68, c_69, l_69, c_70, l_70, c_71, l_71, c_72, l_72, c_73, l_73, c_74, l_74, c_75, l_75, c_76, l_76, e22, t_M_byteAt]
      rw [e22', e20', ev]
      exact ⟨by omega, by omega, fun z => h68, fun z => by omega⟩
  have hl : ∀ (k : Nat) (a : Int) (M1 : mmM), N 1 4 - a = k → 0 ≤ a → rnF (N 2) blB a k = tkP N → goF M M1 → M1 62 22 = a → J 0 [some (vr 62), none] [] M1 := by
    intro k
    induction k with
    | zero =>
      intro a M1 hk ha hr hg q2
      have hby := mby_out (N := N) (g20 M1 hg) (show N 1 4 ≤ a by omega)
      have hr : a = tkP N := hr
      have := h39 M1 hg (by omega)
      refine hJ 0 _ _ _ (show mm_wp _ _ _ mo_M_go_0 _ _ _ from ?_)
      simp only [mo_M_go_0, mm_wp, mm_ldi, mm_lda, mm_ldl, mm_sti, mm_sta, mm_stl, mm_inc, mm_2i, mm_mm, mm_2l, mm_lcmp, mm_i2l, mm_l2i, mm_cast8, mm_if1, mm_if2, mm_cmp, mm_swi, mm_sw, mm_pop1, mm_dup, mm_dup2, mm_geti, mm_geta, mm_puti, mm_iald, mm_bald, mm_aald, mm_iast, mm_bast, mm_alen, mm_acpy, mm_call, mm_callv, mm_recv, mm_pop, mm_find, mm_push, mm_cats, mm_cat, mm_reti, mm_retz, mm_retl, mm_reta, mm_retv, mm_set1, mm_set2, mm_kill, List.getElem?_cons_zero, List.getElem?_cons_succ, Int.reduceToNat, ↓reduceIte, Nat.reduceEqDiff, Nat.reduceDiv, Nat.reduceAdd, Nat.reduceLeDiff, Nat.zero_le, true_and, and_true, true_or, or_true, mm_b0, mm_b1, mm_lc_lt, mm_lc_le, mm_lc_gt, mm_lc_ge, mm_lc_eq, Int.not_lt, Int.not_le, Decidable.not_not, Int.sub_neg, c_0, c_1, c_2, l_2, c_3, c_4, l_4, c_5, l_5, c_6, l_6, c_7, l_7, c_8, c_9, l_9, c_10, l_10, c_11, l_11, c_12, l_12, c_13, c_14, l_14, c_15, l_15, c_16, l_16, c_17, l_17, c_18, c_19, l_19, c_20, l_20, c_21, l_21, c_22, l_22, c_23, c_24, l_24, c_25, l_25, c_26, c_27, c_28, l_28, c_29, c_30, l_30, c_31, c_32, l_32, c_33, l_33, c_34, l_34, c_35, l_35, c_36, l_36, c_37, l_37, c_38, l_38, c_39, l_39, c_40, c_41, l_41, c_42, c_43, c_44, l_44, c_45, c_46, l_46, c_47, c_48, l_48, c_49, l_49, c_50, l_50, c_51, l_51, c_52, l_52, c_53, l_53, c_54, l_54, c_55, l_55, c_56, l_56, c_57, l_57, c_58, l_58, c_59, l_59, c_60, l_60, c_61, l_61, c_62, c_63, l_63, c_64, l_64, c_65, l_65, c_66, l_66, c_67, l_67, c_68, l_68, c_69, l_69, c_70, l_70, c_71, l_71, c_72, l_72, c_73, l_73, c_74, l_74, c_75, l_75, c_76, l_76, t_M_byteAt, q2, g20 M1 hg, hby]
      exact ⟨by omega, by omega, fun z => by omega, fun _ => ⟨by omega, by omega, fun _ => this, fun z => by omega⟩⟩
    | succ k ih =>
      intro a M1 hk ha hr hg q2
      have hby := mby_in (M1 := M1) hd (g20 M1 hg) (g63 M1 hg) ht ha (by omega)
      simp only [rnF] at hr
      have h26 : blB (N 2 a) = true → J 26 [some (vr 62), none] [] M1 := by
        intro c
        rw [if_pos c] at hr
        refine hJ 26 _ _ _ (show mm_wp _ _ _ mo_M_go_26 _ _ _ from ?_)
        simp only [mo_M_go_26, mm_wp, mm_ldi, mm_lda, mm_ldl, mm_sti, mm_sta, mm_stl, mm_inc, mm_2i, mm_mm, mm_2l, mm_lcmp, mm_i2l, mm_l2i, mm_cast8, mm_if1, mm_if2, mm_cmp, mm_swi, mm_sw, mm_pop1, mm_dup, mm_dup2, mm_geti, mm_geta, mm_puti, mm_iald, mm_bald, mm_aald, mm_iast, mm_bast, mm_alen, mm_acpy, mm_call, mm_callv, mm_recv, mm_pop, mm_find, mm_push, mm_cats, mm_cat, mm_reti, mm_retz, mm_retl, mm_reta, mm_retv, mm_set1, mm_set2, mm_kill, List.getElem?_cons_zero, List.getElem?_cons_succ, Int.reduceToNat, ↓reduceIte, Nat.reduceEqDiff, Nat.reduceDiv, Nat.reduceAdd, Nat.reduceLeDiff, Nat.zero_le, true_and, and_true, true_or, or_true, mm_b0, mm_b1, mm_lc_lt, mm_lc_le, mm_lc_gt, mm_lc_ge, mm_lc_eq, Int.not_lt, Int.not_le, Decidable.not_not, Int.sub_neg, c_0, c_1, c_2, l_2, c_3, c_4, l_4, c_5, l_5, c_6, l_6, c_7, l_7, c_8, c_9, l_9, c_10, l_10, c_11, l_11, c_12, l_12, c_13, c_14, l_14, c_15, l_15, c_16, l_16, c_17, l_17, c_18, c_19, l_19, c_20, l_20, c_21, l_21, c_22, l_22, c_23, c_24, l_24, c_25, l_25, c_26, c_27, c_28, l_28, c_29, c_30, l_30, c_31, c_32, l_32, c_33, l_33, c_34, l_34, c_35, l_35, c_36, l_36, c_37, l_37, c_38, l_38, c_39, l_39, c_40, c_41, l_41, c_42, c_43, c_44, l_44, c_45, c_46, l_46, c_47, c_48, l_48, c_49, l_49, c_50, l_50, c_51, l_51, c_52, l_52, c_53, l_53, c_54, l_54, c_55, l_55, c_56, l_56, c_57, l_57, c_58, l_58, c_59, l_59, c_60, l_60, c_61, l_61, c_62, c_63, l_63, c_64, l_64, c_65, l_65, c_66, l_66, c_67, l_67, c_68, l_68, c_69, l_69, c_70, l_70, c_71, l_71, c_72, l_72, c_73, l_73, c_74, l_74, c_75, l_75, c_76, l_76, q2]
        exact ⟨by omega, ih (a + 1) _ (by omega) (by omega) hr (goF_up hg (by decide) (by decide)) (by rw [mm_up_s])⟩
      have hno : ¬ blB (N 2 a) = true → J 39 [some (vr 62), none] [] M1 := by
        intro c
        rw [if_neg c] at hr
        exact h39 M1 hg (by omega)
      rw [blB_t] at h26 hno
      refine hJ 0 _ _ _ (show mm_wp _ _ _ mo_M_go_0 _ _ _ from ?_)
      simp only [mo_M_go_0, mm_wp, mm_ldi, mm_lda, mm_ldl, mm_sti, mm_sta, mm_stl, mm_inc, mm_2i, mm_mm, mm_2l, mm_lcmp, mm_i2l, mm_l2i, mm_cast8, mm_if1, mm_if2, mm_cmp, mm_swi, mm_sw, mm_pop1, mm_dup, mm_dup2, mm_geti, mm_geta, mm_puti, mm_iald, mm_bald, mm_aald, mm_iast, mm_bast, mm_alen, mm_acpy, mm_call, mm_callv, mm_recv, mm_pop, mm_find, mm_push, mm_cats, mm_cat, mm_reti, mm_retz, mm_retl, mm_reta, mm_retv, mm_set1, mm_set2, mm_kill, List.getElem?_cons_zero, List.getElem?_cons_succ, Int.reduceToNat, ↓reduceIte, Nat.reduceEqDiff, Nat.reduceDiv, Nat.reduceAdd, Nat.reduceLeDiff, Nat.zero_le, true_and, and_true, true_or, or_true, mm_b0, mm_b1, mm_lc_lt, mm_lc_le, mm_lc_gt, mm_lc_ge, mm_lc_eq, Int.not_lt, Int.not_le, Decidable.not_not, Int.sub_neg, c_0, c_1, c_2, l_2, c_3, c_4, l_4, c_5, l_5, c_6, l_6, c_7, l_7, c_8, c_9, l_9, c_10, l_10, c_11, l_11, c_12, l_12, c_13, c_14, l_14, c_15, l_15, c_16, l_16, c_17, l_17, c_18, c_19, l_19, c_20, l_20, c_21, l_21, c_22, l_22, c_23, c_24, l_24, c_25, l_25, c_26, c_27, c_28, l_28, c_29, c_30, l_30, c_31, c_32, l_32, c_33, l_33, c_34, l_34, c_35, l_35, c_36, l_36, c_37, l_37, c_38, l_38, c_39, l_39, c_40, c_41, l_41, c_42, c_43, c_44, l_44, c_45, c_46, l_46, c_47, c_48, l_48, c_49, l_49, c_50, l_50, c_51, l_51, c_52, l_52, c_53, l_53, c_54, l_54, c_55, l_55, c_56, l_56, c_57, l_57, c_58, l_58, c_59, l_59, c_60, l_60, c_61, l_61, c_62, c_63, l_63, c_64, l_64, c_65, l_65, c_66, l_66, c_67, l_67, c_68, l_68, c_69, l_69, c_70, l_70, c_71, l_71, c_72, l_72, c_73, l_73, c_74, l_74, c_75, l_75, c_76, l_76, t_M_byteAt, q2, g20 M1 hg]
      exact ⟨by omega, by omega, fun z => h26 (by omega), fun z => ⟨by omega, by omega, fun z2 => hno (by omega), fun z2 => h26 (by omega)⟩⟩
  exact hl (N 1 4 - N 1 7).toNat (N 1 7) M (by omega) (by omega) rfl ⟨fun _ _ => rfl, fun _ _ => rfl⟩ h22
