/-! the reference: what rests on costs -/
noncomputable def cstR (M : mmM) (ord b wo : Int) : Int := coV (mS M wo) (mwt M ord b) (mf M) (ml M) (mt M) (M 62 10)
theorem cstR_c {M M' : mmM} (h : plG M M') : cstR M' = cstR M := by
  funext ord b wo
  obtain ⟨a, bb, c, d, e⟩ := plG_v h
  unfold cstR
  rw [plG_S h, plG_w h, c, d, e, h.2 10 (by decide) (by decide) (by decide) (by decide) (by decide)]
def t_M_moves : mmT := fun as M Q => match as with
  | [.inr (.inr o), .inl ord, .inl b, .inl w] => o = 62 ∧ 2 ≤ M 62 3 ∧ M 62 3 ≤ 60 ∧ mqB M ∧ 0 ≤ M 62 10 ∧ M 62 10 ≤ 9 ∧ (¬ (0 ≤ ord ∧ ord < 3 ∧ 1 ≤ b ∧ b ≤ 60) → Q (some (vi (-1))) (tz M)) ∧ ((0 ≤ ord ∧ ord < 3 ∧ 1 ≤ b ∧ b ≤ 60) → ∀ M' P n, plG M M' → isOrd (mS M (M 62 34)) (mwt M ord b) P n → (w = 0 → Q (some (vi (sN (stE (mf M) (ml M) P) n.toNat))) M') ∧ (w = 1 → Q (some (vi (sN (stU (mt M) P) n.toNat))) M') ∧ (w = 2 → Q (some (vi (coF (mf M) (ml M) (mt M) P n (M 62 10)))) M') ∧ (w = 3 → Q (some (vi (mxN (fun i => stE (mf M) (ml M) P i + stU (mt M) P i) n.toNat))) M') ∧ (w = 4 → Q (some (vi (if ord = 1 then bnF (M 62 3) b n else -1))) M') ∧ ((w < 0 ∨ 4 < w) → Q (some (vi (-1))) M'))
  | _ => False
set_option maxHeartbeats 4000000 in
set_option maxRecDepth 100000 in
theorem p_M_moves : ∀ as M Q, (∀ v ∈ as, mm_vin v) → mm_mem M → t_M_moves as M Q → (mm_ent as).length ≤ 5 ∧ mm_ok mb_M_moves [(1135, t_M_isPlan), (1158, t_M_costOf)] (mm_entry 5 as) M Q := by
  intro as M Q hin hM h
  unfold t_M_moves at h
  split at h
  rotate_left
  · exact h.elim
  rename_i o ord b w
  have hR_ord : mm_R ord := hin (vi ord) (by simp)
  have hR_b : mm_R b := hin (vi b) (by simp)
  have hR_w : mm_R w := hin (vi w) (by simp)
  refine ⟨by simp [mm_ent], (show mm_ok mb_M_moves [(1135, t_M_isPlan), (1158, t_M_costOf)] [some (vr o), some (vi ord), some (vi b), some (vi w), none] M Q from ?_)⟩
  intro J hJ
  obtain ⟨rfl, c1, c2, hB, w0, w1, hN, hY⟩ := h
  have hG := plG_tz M
  obtain ⟨g8, gk, gf, gl, gt⟩ := plG_v hG
  have e34 : tz M 62 34 = M 62 34 := mm_up_i _ (by decide)
  have e10 : tz M 62 10 = M 62 10 := mm_up_i _ (by decide)
  have h15 : (0 ≤ ord ∧ ord < 3 ∧ 1 ≤ b ∧ b ≤ 60) → J 15 [some (vr 62), some (vi ord), some (vi b), some (vi w), none] [] (tz M) := by
    intro hc
    have hY := hY hc
    refine hJ 15 _ _ _ (show mm_wp _ _ _ mo_M_moves_15 _ _ _ from ?_)
    simp only [mo_M_moves_15, mm_wp, mm_ldi, mm_lda, mm_ldl, mm_sti, mm_sta, mm_stl, mm_inc, mm_2i, mm_mm, mm_2l, mm_lcmp, mm_i2l, mm_l2i, mm_cast8, mm_if1, mm_if2, mm_cmp, mm_swi, mm_sw, mm_pop1, mm_dup, mm_dup2, mm_geti, mm_geta, mm_puti, mm_iald, mm_bald, mm_aald, mm_iast, mm_bast, mm_alen, mm_acpy, mm_call, mm_callv, mm_recv, mm_pop, mm_find, mm_push, mm_cats, mm_cat, mm_reti, mm_retz, mm_retl, mm_reta, mm_retv, mm_set1, mm_set2, mm_kill, List.getElem?_cons_zero, List.getElem?_cons_succ, Int.reduceToNat, ↓reduceIte, Nat.reduceEqDiff, Nat.reduceDiv, Nat.reduceAdd, Nat.reduceLeDiff, Nat.zero_le, true_and, and_true, true_or, or_true, mm_b0, mm_b1, mm_lc_lt, mm_lc_le, mm_lc_gt, mm_lc_ge, mm_lc_eq, Int.not_lt, Int.not_le, Decidable.not_not, Int.sub_neg, c_0, c_1, c_2, l_2, c_3, c_4, l_4, c_5, l_5, c_6, l_6, c_7, l_7, c_8, c_9, l_9, c_10, l_10, c_11, l_11, c_12, l_12, c_13, c_14, l_14, c_15, l_15, c_16, l_16, c_17, l_17, c_18, c_19, l_19, c_20, l_20, c_21, l_21, c_22, l_22, c_23, c_24, l_24, c_25, l_25, c_26, c_27, c_28, l_28, c_29, c_30, l_30, c_31, c_32, l_32, c_33, l_33, c_34, l_34, c_35, l_35, c_36, l_36, c_37, l_37, c_38, l_38, c_39, l_39, c_40, c_41, l_41, c_42, c_43, c_44, l_44, c_45, c_46, l_46, c_47, c_48, l_48, c_49, l_49, c_50, l_50, c_51, l_51, c_52, l_52, c_53, l_53, c_54, l_54, c_55, l_55, c_56, l_56, c_57, l_57, c_58, l_58, c_59, l_59, c_60, l_60, c_61, l_61, c_62, c_63, l_63, c_64, l_64, c_65, l_65, c_66, l_66, c_67, l_67, c_68, l_68, c_69, l_69, c_70, l_70, c_71, l_71, c_72, l_72, c_73, l_73, c_74, l_74, c_75, l_75, c_76, l_76, t_M_costOf]
    rw [e10, e34, plG_w hG, plG_S hG, gf, gl, gt]
    refine ⟨plG_B hG hB, w0, w1, by omega, by omega, by omega, by omega, fun M1 P n hp hor hn p1 p2 p3 p4 p5 p6 q1 q2 => ?_⟩
    have hp2 := plG_tr hG hp
    have e3 : M1 62 3 = M 62 3 := hp2.2 3 (by decide) (by decide) (by decide) (by decide) (by decide)
    obtain ⟨y0, y1, y2, y3, y4, y5⟩ := hY M1 P n hp2 hor
    have n0 := hor.1
    have h78 : w = 4 → ∀ x4 : Option mmV, J 78 [some (vr 62), some (vi ord), some (vi b), some (vi w), x4] [] M1 := by
      intro hw x4
      have y4 := y4 hw
      have h117 : ∀ z, Q (some (vi z)) M1 → J 117 [some (vr 62), some (vi ord), some (vi b), some (vi w), x4] [vi z] M1 := by
        intro z hz
        refine hJ 117 _ _ _ (show mm_wp _ _ _ mo_M_moves_117 _ _ _ from ?_)
        simp only [mo_M_moves_117, mm_wp, mm_ldi, mm_lda, mm_ldl, mm_sti, mm_sta, mm_stl, mm_inc, mm_2i, mm_mm, mm_2l, mm_lcmp, mm_i2l, mm_l2i, mm_cast8, mm_if1, mm_if2, mm_cmp, mm_swi, mm_sw, mm_pop1, mm_dup, mm_dup2, mm_geti, mm_geta, mm_puti, mm_iald, mm_bald, mm_aald, mm_iast, mm_bast, mm_alen, mm_acpy, mm_call, mm_callv, mm_recv, mm_pop, mm_find, mm_push, mm_cats, mm_cat, mm_reti, mm_retz, mm_retl, mm_reta, mm_retv, mm_set1, mm_set2, mm_kill, List.getElem?_cons_zero, List.getElem?_cons_succ, Int.reduceToNat, ↓reduceIte, Nat.reduceEqDiff, Nat.reduceDiv, Nat.reduceAdd, Nat.reduceLeDiff, Nat.zero_le, true_and, and_true, true_or, or_true, mm_b0, mm_b1, mm_lc_lt, mm_lc_le, mm_lc_gt, mm_lc_ge, mm_lc_eq, Int.not_lt, Int.not_le, Decidable.not_not, Int.sub_neg]
        exact hz
      have h116 : ¬ ord = 1 → J 116 [some (vr 62), some (vi ord), some (vi b), some (vi w), x4] [] M1 := by
        intro hz
        rw [if_neg hz] at y4
        refine hJ 116 _ _ _ (show mm_wp _ _ _ mo_M_moves_116 _ _ _ from ?_)
        simp only [mo_M_moves_116, mm_wp, mm_ldi, mm_lda, mm_ldl, mm_sti, mm_sta, mm_stl, mm_inc, mm_2i, mm_mm, mm_2l, mm_lcmp, mm_i2l, mm_l2i, mm_cast8, mm_if1, mm_if2, mm_cmp, mm_swi, mm_sw, mm_pop1, mm_dup, mm_dup2, mm_geti, mm_geta, mm_puti, mm_iald, mm_bald, mm_aald, mm_iast, mm_bast, mm_alen, mm_acpy, mm_call, mm_callv, mm_recv, mm_pop, mm_find, mm_push, mm_cats, mm_cat, mm_reti, mm_retz, mm_retl, mm_reta, mm_retv, mm_set1, mm_set2, mm_kill, List.getElem?_cons_zero, List.getElem?_cons_succ, Int.reduceToNat, ↓reduceIte, Nat.reduceEqDiff, Nat.reduceDiv, Nat.reduceAdd, Nat.reduceLeDiff, Nat.zero_le, true_and, and_true, true_or, or_true, mm_b0, mm_b1, mm_lc_lt, mm_lc_le, mm_lc_gt, mm_lc_ge, mm_lc_eq, Int.not_lt, Int.not_le, Decidable.not_not, Int.sub_neg]
        exact h117 _ y4
      have d1 : (M 62 3 + b - 1).tdiv b = (M 62 3 + b - 1) / b := Int.tdiv_eq_ediv_of_nonneg (by omega)
      have d2 : 0 ≤ (M 62 3 + b - 1) / b := Int.ediv_nonneg (by omega) (by omega)
      have d3 : (M 62 3 + b - 1) / b ≤ M 62 3 + b - 1 := Int.ediv_le_self b (by omega)
      unfold bnF at y4
      generalize (M 62 3 + b - 1) / b = z at d1 d2 d3 y4
      have m1 := mul_b (a := 3 * b) (b := n) (A := 180) (B := 25) (by omega) (by omega) (by omega) (by omega)
      have m2 := mul_b (a := 2 * (z + 1)) (b := M 62 3 + b) (A := 240) (B := 120) (by omega) (by omega) (by omega) (by omega)
      refine hJ 78 _ _ _ (show mm_wp _ _ _ mo_M_moves_78 _ _ _ from ?_)
      simp only [mo_M_moves_78, mm_wp, mm_ldi, mm_lda, mm_ldl, mm_sti, mm_sta, mm_stl, mm_inc, mm_2i, mm_mm, mm_2l, mm_lcmp, mm_i2l, mm_l2i, mm_cast8, mm_if1, mm_if2, mm_cmp, mm_swi, mm_sw, mm_pop1, mm_dup, mm_dup2, mm_geti, mm_geta, mm_puti, mm_iald, mm_bald, mm_aald, mm_iast, mm_bast, mm_alen, mm_acpy, mm_call, mm_callv, mm_recv, mm_pop, mm_find, mm_push, mm_cats, mm_cat, mm_reti, mm_retz, mm_retl, mm_reta, mm_retv, mm_set1, mm_set2, mm_kill, List.getElem?_cons_zero, List.getElem?_cons_succ, Int.reduceToNat, ↓reduceIte, Nat.reduceEqDiff, Nat.reduceDiv, Nat.reduceAdd, Nat.reduceLeDiff, Nat.zero_le, true_and, and_true, true_or, or_true, mm_b0, mm_b1, mm_lc_lt, mm_lc_le, mm_lc_gt, mm_lc_ge, mm_lc_eq, Int.not_lt, Int.not_le, Decidable.not_not, Int.sub_neg, c_0, c_1, c_2, l_2, c_3, c_4, l_4, c_5, l_5, c_6, l_6, c_7, l_7, c_8, c_9, l_9, c_10, l_10, c_11, l_11, c_12, l_12, c_13, c_14, l_14, c_15, l_15, c_16, l_16, c_17, l_17, c_18, c_19, l_19, c_20, l_20, c_21, l_21, c_22, l_22, c_23, c_24, l_24, c_25, l_25, c_26, c_27, c_28, l_28, c_29, c_30, l_30, c_31, c_32, l_32, c_33, l_33, c_34, l_34, c_35, l_35, c_36, l_36, c_37, l_37, c_38, l_38, c_39, l_39, c_40, c_41, l_41, c_42, c_43, c_44, l_44, c_45, c_46, l_46, c_47, c_48, l_48, c_49, l_49, c_50, l_50, c_51, l_51, c_52, l_52, c_53, l_53, c_54, l_54, c_55, l_55, c_56, l_56, c_57, l_57, c_58, l_58, c_59, l_59, c_60, l_60, c_61, l_61, c_62, c_63, l_63, c_64, l_64, c_65, l_65, c_66, l_66, c_67, l_67, c_68, l_68, c_69, l_69, c_70, l_70, c_71, l_71, c_72, l_72, c_73, l_73, c_74, l_74, c_75, l_75, c_76, l_76, p2, e3, d1]
      refine ⟨fun z => h116 z, fun z => ?_⟩
      rw [if_pos z] at y4
      repeat (refine And.intro (by omega) ?_)
      exact h117 _ y4
    rw [← p4] at y0
    rw [← p5] at y1
    rw [← p6] at y3
    generalize coF (mf M) (ml M) (mt M) P n (M 62 10) = c at *
    repeat' first | (refine And.intro ?_ ?_) | (intro _) | (refine hJ 60 _ _ _ ?_; show mm_wp _ _ _ mo_M_moves_60 _ _ _; simp only [mo_M_moves_60, mm_wp, mm_ldi, mm_lda, mm_ldl, mm_sti, mm_sta, mm_stl, mm_inc, mm_2i, mm_mm, mm_2l, mm_lcmp, mm_i2l, mm_l2i, mm_cast8, mm_if1, mm_if2, mm_cmp, mm_swi, mm_sw, mm_pop1, mm_dup, mm_dup2, mm_geti, mm_geta, mm_puti, mm_iald, mm_bald, mm_aald, mm_iast, mm_bast, mm_alen, mm_acpy, mm_call, mm_callv, mm_recv, mm_pop, mm_find, mm_push, mm_cats, mm_cat, mm_reti, mm_retz, mm_retl, mm_reta, mm_retv, mm_set1, mm_set2, mm_kill, List.getElem?_cons_zero, List.getElem?_cons_succ, Int.reduceToNat, ↓reduceIte, Nat.reduceEqDiff, Nat.reduceDiv, Nat.reduceAdd, Nat.reduceLeDiff, Nat.zero_le, true_and, and_true, true_or, or_true, mm_b0, mm_b1, mm_lc_lt, mm_lc_le, mm_lc_gt, mm_lc_ge, mm_lc_eq, Int.not_lt, Int.not_le, Decidable.not_not, Int.sub_neg, c_0, c_1, c_2, l_2, c_3, c_4, l_4, c_5, l_5, c_6, l_6, c_7, l_7, c_8, c_9, l_9, c_10, l_10, c_11, l_11, c_12, l_12, c_13, c_14, l_14, c_15, l_15, c_16, l_16, c_17, l_17, c_18, c_19, l_19, c_20, l_20, c_21, l_21, c_22, l_22, c_23, c_24, l_24, c_25, l_25, c_26, c_27, c_28, l_28, c_29, c_30, l_30, c_31, c_32, l_32, c_33, l_33, c_34, l_34, c_35, l_35, c_36, l_36, c_37, l_37, c_38, l_38, c_39, l_39, c_40, c_41, l_41, c_42, c_43, c_44, l_44, c_45, c_46, l_46, c_47, c_48, l_48, c_49, l_49, c_50, l_50, c_51, l_51, c_52, l_52, c_53, l_53, c_54, l_54, c_55, l_55, c_56, l_56, c_57, l_57, c_58, l_58, c_59, l_59, c_60, l_60, c_61, l_61, c_62, c_63, l_63, c_64, l_64, c_65, l_65, c_66, l_66, c_67, l_67, c_68, l_68, c_69, l_69, c_70, l_70, c_71, l_71, c_72, l_72, c_73, l_73, c_74, l_74, c_75, l_75, c_76, l_76]) | (refine hJ 65 _ _ _ ?_; show mm_wp _ _ _ mo_M_moves_65 _ _ _; simp only [mo_M_moves_65, mm_wp, mm_ldi, mm_lda, mm_ldl, mm_sti, mm_sta, mm_stl, mm_inc, mm_2i, mm_mm, mm_2l, mm_lcmp, mm_i2l, mm_l2i, mm_cast8, mm_if1, mm_if2, mm_cmp, mm_swi, mm_sw, mm_pop1, mm_dup, mm_dup2, mm_geti, mm_geta, mm_puti, mm_iald, mm_bald, mm_aald, mm_iast, mm_bast, mm_alen, mm_acpy, mm_call, mm_callv, mm_recv, mm_pop, mm_find, mm_push, mm_cats, mm_cat, mm_reti, mm_retz, mm_retl, mm_reta, mm_retv, mm_set1, mm_set2, mm_kill, List.getElem?_cons_zero, List.getElem?_cons_succ, Int.reduceToNat, ↓reduceIte, Nat.reduceEqDiff, Nat.reduceDiv, Nat.reduceAdd, Nat.reduceLeDiff, Nat.zero_le, true_and, and_true, true_or, or_true, mm_b0, mm_b1, mm_lc_lt, mm_lc_le, mm_lc_gt, mm_lc_ge, mm_lc_eq, Int.not_lt, Int.not_le, Decidable.not_not, Int.sub_neg, c_0, c_1, c_2, l_2, c_3, c_4, l_4, c_5, l_5, c_6, l_6, c_7, l_7, c_8, c_9, l_9, c_10, l_10, c_11, l_11, c_12, l_12, c_13, c_14, l_14, c_15, l_15, c_16, l_16, c_17, l_17, c_18, c_19, l_19, c_20, l_20, c_21, l_21, c_22, l_22, c_23, c_24, l_24, c_25, l_25, c_26, c_27, c_28, l_28, c_29, c_30, l_30, c_31, c_32, l_32, c_33, l_33, c_34, l_34, c_35, l_35, c_36, l_36, c_37, l_37, c_38, l_38, c_39, l_39, c_40, c_41, l_41, c_42, c_43, c_44, l_44, c_45, c_46, l_46, c_47, c_48, l_48, c_49, l_49, c_50, l_50, c_51, l_51, c_52, l_52, c_53, l_53, c_54, l_54, c_55, l_55, c_56, l_56, c_57, l_57, c_58, l_58, c_59, l_59, c_60, l_60, c_61, l_61, c_62, c_63, l_63, c_64, l_64, c_65, l_65, c_66, l_66, c_67, l_67, c_68, l_68, c_69, l_69, c_70, l_70, c_71, l_71, c_72, l_72, c_73, l_73, c_74, l_74, c_75, l_75, c_76, l_76]) | (refine hJ 70 _ _ _ ?_; show mm_wp _ _ _ mo_M_moves_70 _ _ _; simp only [mo_M_moves_70, mm_wp, mm_ldi, mm_lda, mm_ldl, mm_sti, mm_sta, mm_stl, mm_inc, mm_2i, mm_mm, mm_2l, mm_lcmp, mm_i2l, mm_l2i, mm_cast8, mm_if1, mm_if2, mm_cmp, mm_swi, mm_sw, mm_pop1, mm_dup, mm_dup2, mm_geti, mm_geta, mm_puti, mm_iald, mm_bald, mm_aald, mm_iast, mm_bast, mm_alen, mm_acpy, mm_call, mm_callv, mm_recv, mm_pop, mm_find, mm_push, mm_cats, mm_cat, mm_reti, mm_retz, mm_retl, mm_reta, mm_retv, mm_set1, mm_set2, mm_kill, List.getElem?_cons_zero, List.getElem?_cons_succ, Int.reduceToNat, ↓reduceIte, Nat.reduceEqDiff, Nat.reduceDiv, Nat.reduceAdd, Nat.reduceLeDiff, Nat.zero_le, true_and, and_true, true_or, or_true, mm_b0, mm_b1, mm_lc_lt, mm_lc_le, mm_lc_gt, mm_lc_ge, mm_lc_eq, Int.not_lt, Int.not_le, Decidable.not_not, Int.sub_neg, c_0, c_1, c_2, l_2, c_3, c_4, l_4, c_5, l_5, c_6, l_6, c_7, l_7, c_8, c_9, l_9, c_10, l_10, c_11, l_11, c_12, l_12, c_13, c_14, l_14, c_15, l_15, c_16, l_16, c_17, l_17, c_18, c_19, l_19, c_20, l_20, c_21, l_21, c_22, l_22, c_23, c_24, l_24, c_25, l_25, c_26, c_27, c_28, l_28, c_29, c_30, l_30, c_31, c_32, l_32, c_33, l_33, c_34, l_34, c_35, l_35, c_36, l_36, c_37, l_37, c_38, l_38, c_39, l_39, c_40, c_41, l_41, c_42, c_43, c_44, l_44, c_45, c_46, l_46, c_47, c_48, l_48, c_49, l_49, c_50, l_50, c_51, l_51, c_52, l_52, c_53, l_53, c_54, l_54, c_55, l_55, c_56, l_56, c_57, l_57, c_58, l_58, c_59, l_59, c_60, l_60, c_61, l_61, c_62, c_63, l_63, c_64, l_64, c_65, l_65, c_66, l_66, c_67, l_67, c_68, l_68, c_69, l_69, c_70, l_70, c_71, l_71, c_72, l_72, c_73, l_73, c_74, l_74, c_75, l_75, c_76, l_76]) | (refine hJ 73 _ _ _ ?_; show mm_wp _ _ _ mo_M_moves_73 _ _ _; simp only [mo_M_moves_73, mm_wp, mm_ldi, mm_lda, mm_ldl, mm_sti, mm_sta, mm_stl, mm_inc, mm_2i, mm_mm, mm_2l, mm_lcmp, mm_i2l, mm_l2i, mm_cast8, mm_if1, mm_if2, mm_cmp, mm_swi, mm_sw, mm_pop1, mm_dup, mm_dup2, mm_geti, mm_geta, mm_puti, mm_iald, mm_bald, mm_aald, mm_iast, mm_bast, mm_alen, mm_acpy, mm_call, mm_callv, mm_recv, mm_pop, mm_find, mm_push, mm_cats, mm_cat, mm_reti, mm_retz, mm_retl, mm_reta, mm_retv, mm_set1, mm_set2, mm_kill, List.getElem?_cons_zero, List.getElem?_cons_succ, Int.reduceToNat, ↓reduceIte, Nat.reduceEqDiff, Nat.reduceDiv, Nat.reduceAdd, Nat.reduceLeDiff, Nat.zero_le, true_and, and_true, true_or, or_true, mm_b0, mm_b1, mm_lc_lt, mm_lc_le, mm_lc_gt, mm_lc_ge, mm_lc_eq, Int.not_lt, Int.not_le, Decidable.not_not, Int.sub_neg, c_0, c_1, c_2, l_2, c_3, c_4, l_4, c_5, l_5, c_6, l_6, c_7, l_7, c_8, c_9, l_9, c_10, l_10, c_11, l_11, c_12, l_12, c_13, c_14, l_14, c_15, l_15, c_16, l_16, c_17, l_17, c_18, c_19, l_19, c_20, l_20, c_21, l_21, c_22, l_22, c_23, c_24, l_24, c_25, l_25, c_26, c_27, c_28, l_28, c_29, c_30, l_30, c_31, c_32, l_32, c_33, l_33, c_34, l_34, c_35, l_35, c_36, l_36, c_37, l_37, c_38, l_38, c_39, l_39, c_40, c_41, l_41, c_42, c_43, c_44, l_44, c_45, c_46, l_46, c_47, c_48, l_48, c_49, l_49, c_50, l_50, c_51, l_51, c_52, l_52, c_53, l_53, c_54, l_54, c_55, l_55, c_56, l_56, c_57, l_57, c_58, l_58, c_59, l_59, c_60, l_60, c_61, l_61, c_62, c_63, l_63, c_64, l_64, c_65, l_65, c_66, l_66, c_67, l_67, c_68, l_68, c_69, l_69, c_70, l_70, c_71, l_71, c_72, l_72, c_73, l_73, c_74, l_74, c_75, l_75, c_76, l_76]) | (refine hJ 118 _ _ _ ?_; show mm_wp _ _ _ mo_M_moves_118 _ _ _; simp only [mo_M_moves_118, mm_wp, mm_ldi, mm_lda, mm_ldl, mm_sti, mm_sta, mm_stl, mm_inc, mm_2i, mm_mm, mm_2l, mm_lcmp, mm_i2l, mm_l2i, mm_cast8, mm_if1, mm_if2, mm_cmp, mm_swi, mm_sw, mm_pop1, mm_dup, mm_dup2, mm_geti, mm_geta, mm_puti, mm_iald, mm_bald, mm_aald, mm_iast, mm_bast, mm_alen, mm_acpy, mm_call, mm_callv, mm_recv, mm_pop, mm_find, mm_push, mm_cats, mm_cat, mm_reti, mm_retz, mm_retl, mm_reta, mm_retv, mm_set1, mm_set2, mm_kill, List.getElem?_cons_zero, List.getElem?_cons_succ, Int.reduceToNat, ↓reduceIte, Nat.reduceEqDiff, Nat.reduceDiv, Nat.reduceAdd, Nat.reduceLeDiff, Nat.zero_le, true_and, and_true, true_or, or_true, mm_b0, mm_b1, mm_lc_lt, mm_lc_le, mm_lc_gt, mm_lc_ge, mm_lc_eq, Int.not_lt, Int.not_le, Decidable.not_not, Int.sub_neg, c_0, c_1, c_2, l_2, c_3, c_4, l_4, c_5, l_5, c_6, l_6, c_7, l_7, c_8, c_9, l_9, c_10, l_10, c_11, l_11, c_12, l_12, c_13, c_14, l_14, c_15, l_15, c_16, l_16, c_17, l_17, c_18, c_19, l_19, c_20, l_20, c_21, l_21, c_22, l_22, c_23, c_24, l_24, c_25, l_25, c_26, c_27, c_28, l_28, c_29, c_30, l_30, c_31, c_32, l_32, c_33, l_33, c_34, l_34, c_35, l_35, c_36, l_36, c_37, l_37, c_38, l_38, c_39, l_39, c_40, c_41, l_41, c_42, c_43, c_44, l_44, c_45, c_46, l_46, c_47, c_48, l_48, c_49, l_49, c_50, l_50, c_51, l_51, c_52, l_52, c_53, l_53, c_54, l_54, c_55, l_55, c_56, l_56, c_57, l_57, c_58, l_58, c_59, l_59, c_60, l_60, c_61, l_61, c_62, c_63, l_63, c_64, l_64, c_65, l_65, c_66, l_66, c_67, l_67, c_68, l_68, c_69, l_69, c_70, l_70, c_71, l_71, c_72, l_72, c_73, l_73, c_74, l_74, c_75, l_75, c_76, l_76])
    all_goals first | assumption | (exact Or.inl rfl) | (exact Or.inr rfl) | (exact rfl) | trivial | omega | (exact y0 (by omega)) | (exact y1 (by omega)) | (exact y2 (by omega)) | (exact y3 (by omega)) | (exact y5 (by omega)) | (exact h78 (by omega) _)
  refine hJ 0 _ _ _ (show mm_wp _ _ _ mo_M_moves_0 _ _ _ from ?_)
  simp only [mo_M_moves_0, mm_wp, mm_ldi, mm_lda, mm_ldl, mm_sti, mm_sta, mm_stl, mm_inc, mm_2i, mm_mm, mm_2l, mm_lcmp, mm_i2l, mm_l2i, mm_cast8, mm_if1, mm_if2, mm_cmp, mm_swi, mm_sw, mm_pop1, mm_dup, mm_dup2, mm_geti, mm_geta, mm_puti, mm_iald, mm_bald, mm_aald, mm_iast, mm_bast, mm_alen, mm_acpy, mm_call, mm_callv, mm_recv, mm_pop, mm_find, mm_push, mm_cats, mm_cat, mm_reti, mm_retz, mm_retl, mm_reta, mm_retv, mm_set1, mm_set2, mm_kill, List.getElem?_cons_zero, List.getElem?_cons_succ, Int.reduceToNat, ↓reduceIte, Nat.reduceEqDiff, Nat.reduceDiv, Nat.reduceAdd, Nat.reduceLeDiff, Nat.zero_le, true_and, and_true, true_or, or_true, mm_b0, mm_b1, mm_lc_lt, mm_lc_le, mm_lc_gt, mm_lc_ge, mm_lc_eq, Int.not_lt, Int.not_le, Decidable.not_not, Int.sub_neg, c_0, c_1, c_2, l_2, c_3, c_4, l_4, c_5, l_5, c_6, l_6, c_7, l_7, c_8, c_9, l_9, c_10, l_10, c_11, l_11, c_12, l_12, c_13, c_14, l_14, c_15, l_15, c_16, l_16, c_17, l_17, c_18, c_19, l_19, c_20, l_20, c_21, l_21, c_22, l_22, c_23, c_24, l_24, c_25, l_25, c_26, c_27, c_28, l_28, c_29, c_30, l_30, c_31, c_32, l_32, c_33, l_33, c_34, l_34, c_35, l_35, c_36, l_36, c_37, l_37, c_38, l_38, c_39, l_39, c_40, c_41, l_41, c_42, c_43, c_44, l_44, c_45, c_46, l_46, c_47, c_48, l_48, c_49, l_49, c_50, l_50, c_51, l_51, c_52, l_52, c_53, l_53, c_54, l_54, c_55, l_55, c_56, l_56, c_57, l_57, c_58, l_58, c_59, l_59, c_60, l_60, c_61, l_61, c_62, c_63, l_63, c_64, l_64, c_65, l_65, c_66, l_66, c_67, l_67, c_68, l_68, c_69, l_69, c_70, l_70, c_71, l_71, c_72, l_72, c_73, l_73, c_74, l_74, c_75, l_75, c_76, l_76, t_M_isPlan]
  exact ⟨fun z => h15 z, fun z => hN z⟩
def t_M_best : mmT := fun as M Q => match as with
  | [.inr (.inr o), .inl ord, .inl w] => o = 62 ∧ 2 ≤ M 62 3 ∧ M 62 3 ≤ 60 ∧ mqB M ∧ 0 ≤ M 62 10 ∧ M 62 10 ≤ 9 ∧ (¬ ((0 ≤ ord ∧ ord < 3) ∧ 0 ≤ w ∧ w ≤ 1) → Q (some (vi (-1))) (tz M)) ∧ (((0 ≤ ord ∧ ord < 3) ∧ 0 ≤ w ∧ w ≤ 1) → ∀ M', plG M M' → Q (some (vi (if w = 0 then (bsF (fun b => cstR M ord b (M 62 34)) (M 62 3 - 1).toNat).1 else (bsF (fun b => cstR M ord b (M 62 34)) (M 62 3 - 1).toNat).2))) M')
  | _ => False
set_option maxHeartbeats 4000000 in
set_option maxRecDepth 100000 in
theorem p_M_best : ∀ as M Q, (∀ v ∈ as, mm_vin v) → mm_mem M → t_M_best as M Q → (mm_ent as).length ≤ 7 ∧ mm_ok mb_M_best [(1102, t_M_within), (1158, t_M_costOf)] (mm_entry 7 as) M Q := by
  intro as M Q hin hM h
  unfold t_M_best at h
  split at h
  rotate_left
  · exact h.elim
  rename_i o ord w
  have hR_ord : mm_R ord := hin (vi ord) (by simp)
  have hR_w : mm_R w := hin (vi w) (by simp)
  refine ⟨by simp [mm_ent], (show mm_ok mb_M_best [(1102, t_M_within), (1158, t_M_costOf)] [some (vr o), some (vi ord), some (vi w), none, none, none, none] M Q from ?_)⟩
  intro J hJ
  obtain ⟨rfl, hr1, hr2, hB, w0, w1, hN, hY⟩ := h
  have hG := plG_tz M
  have h27 : ¬ ((0 ≤ ord ∧ ord < 3) ∧ 0 ≤ w ∧ w ≤ 1) → J 27 [some (vr 62), some (vi ord), some (vi w), none, none, none, none] [] (tz M) := by
    intro hz
    refine hJ 27 _ _ _ (show mm_wp _ _ _ mo_M_best_27 _ _ _ from ?_)
    simp only [mo_M_best_27, mm_wp, mm_ldi, mm_lda, mm_ldl, mm_sti, mm_sta, mm_stl, mm_inc, mm_2i, mm_mm, mm_2l, mm_lcmp, mm_i2l, mm_l2i, mm_cast8, mm_if1, mm_if2, mm_cmp, mm_swi, mm_sw, mm_pop1, mm_dup, mm_dup2, mm_geti, mm_geta, mm_puti, mm_iald, mm_bald, mm_aald, mm_iast, mm_bast, mm_alen, mm_acpy, mm_call, mm_callv, mm_recv, mm_pop, mm_find, mm_push, mm_cats, mm_cat, mm_reti, mm_retz, mm_retl, mm_reta, mm_retv, mm_set1, mm_set2, mm_kill, List.getElem?_cons_zero, List.getElem?_cons_succ, Int.reduceToNat, ↓reduceIte, Nat.reduceEqDiff, Nat.reduceDiv, Nat.reduceAdd, Nat.reduceLeDiff, Nat.zero_le, true_and, and_true, true_or, or_true, mm_b0, mm_b1, mm_lc_lt, mm_lc_le, mm_lc_gt, mm_lc_ge, mm_lc_eq, Int.not_lt, Int.not_le, Decidable.not_not, Int.sub_neg]
    exact hN hz
  have h29 : ((0 ≤ ord ∧ ord < 3) ∧ 0 ≤ w ∧ w ≤ 1) → J 29 [some (vr 62), some (vi ord), some (vi w), none, none, none, none] [] (tz M) := by
    intro hz
    have hY := hY hz
    generalize hc : (fun b => cstR M ord b (M 62 34)) = c at hY
    have hcv : ∀ b, c b = cstR M ord b (M 62 34) := fun b => by rw [← hc]
    have hco : ∀ (M1 : mmM) (b : Int) (P : Int → Int) (n : Int), plG M M1 → isOrd (mS M1 (M1 62 34)) (mwt M1 ord b) P n → coF (mf M1) (ml M1) (mt M1) P n (M1 62 10) = c b := by
      intro M1 b P n hp ho
      rw [coV_self ho, hcv, ← cstR_c hp, ← hp.2 34 (by decide) (by decide) (by decide) (by decide) (by decide)]
      rfl
    have hl : ∀ (d k : Nat) (x6 : Option mmV) (M1 : mmM), (k : Int) + d = M 62 3 - 1 → plG M M1 → J 42 [some (vr 62), some (vi ord), some (vi w), some (vi (bsF c k).1), some (vi (bsF c k).2), some (vi ((k : Int) + 2)), x6] [] M1 := by
      intro d
      induction d with
      | zero =>
        intro k x6 M1 hk f1
        have e3 : M1 62 3 = M 62 3 := f1.2 3 (by decide) (by decide) (by decide) (by decide) (by decide)
        have hq := hY M1 f1
        rw [show (M 62 3 - 1).toNat = k by omega] at hq
        have h106 : ∀ z, Q (some (vi z)) M1 → J 106 [some (vr 62), some (vi ord), some (vi w), some (vi (bsF c k).1), some (vi (bsF c k).2), some (vi ((k : Int) + 2)), x6] [vi z] M1 := by
          intro z hz
          refine hJ 106 _ _ _ (show mm_wp _ _ _ mo_M_best_106 _ _ _ from ?_)
          simp only [mo_M_best_106, mm_wp, mm_ldi, mm_lda, mm_ldl, mm_sti, mm_sta, mm_stl, mm_inc, mm_2i, mm_mm, mm_2l, mm_lcmp, mm_i2l, mm_l2i, mm_cast8, mm_if1, mm_if2, mm_cmp, mm_swi, mm_sw, mm_pop1, mm_dup, mm_dup2, mm_geti, mm_geta, mm_puti, mm_iald, mm_bald, mm_aald, mm_iast, mm_bast, mm_alen, mm_acpy, mm_call, mm_callv, mm_recv, mm_pop, mm_find, mm_push, mm_cats, mm_cat, mm_reti, mm_retz, mm_retl, mm_reta, mm_retv, mm_set1, mm_set2, mm_kill, List.getElem?_cons_zero, List.getElem?_cons_succ, Int.reduceToNat, ↓reduceIte, Nat.reduceEqDiff, Nat.reduceDiv, Nat.reduceAdd, Nat.reduceLeDiff, Nat.zero_le, true_and, and_true, true_or, or_true, mm_b0, mm_b1, mm_lc_lt, mm_lc_le, mm_lc_gt, mm_lc_ge, mm_lc_eq, Int.not_lt, Int.not_le, Decidable.not_not, Int.sub_neg]
          exact hz
        have h104 : ¬ w = 0 → J 104 [some (vr 62), some (vi ord), some (vi w), some (vi (bsF c k).1), some (vi (bsF c k).2), some (vi ((k : Int) + 2)), x6] [] M1 := by
          intro hw
          rw [if_neg hw] at hq
          refine hJ 104 _ _ _ (show mm_wp _ _ _ mo_M_best_104 _ _ _ from ?_)
          simp only [mo_M_best_104, mm_wp, mm_ldi, mm_lda, mm_ldl, mm_sti, mm_sta, mm_stl, mm_inc, mm_2i, mm_mm, mm_2l, mm_lcmp, mm_i2l, mm_l2i, mm_cast8, mm_if1, mm_if2, mm_cmp, mm_swi, mm_sw, mm_pop1, mm_dup, mm_dup2, mm_geti, mm_geta, mm_puti, mm_iald, mm_bald, mm_aald, mm_iast, mm_bast, mm_alen, mm_acpy, mm_call, mm_callv, mm_recv, mm_pop, mm_find, mm_push, mm_cats, mm_cat, mm_reti, mm_retz, mm_retl, mm_reta, mm_retv, mm_set1, mm_set2, mm_kill, List.getElem?_cons_zero, List.getElem?_cons_succ, Int.reduceToNat, ↓reduceIte, Nat.reduceEqDiff, Nat.reduceDiv, Nat.reduceAdd, Nat.reduceLeDiff, Nat.zero_le, true_and, and_true, true_or, or_true, mm_b0, mm_b1, mm_lc_lt, mm_lc_le, mm_lc_gt, mm_lc_ge, mm_lc_eq, Int.not_lt, Int.not_le, Decidable.not_not, Int.sub_neg]
          exact h106 _ hq
        have h96 : J 96 [some (vr 62), some (vi ord), some (vi w), some (vi (bsF c k).1), some (vi (bsF c k).2), some (vi ((k : Int) + 2)), x6] [] M1 := by
          refine hJ 96 _ _ _ (show mm_wp _ _ _ mo_M_best_96 _ _ _ from ?_)
          simp only [mo_M_best_96, mm_wp, mm_ldi, mm_lda, mm_ldl, mm_sti, mm_sta, mm_stl, mm_inc, mm_2i, mm_mm, mm_2l, mm_lcmp, mm_i2l, mm_l2i, mm_cast8, mm_if1, mm_if2, mm_cmp, mm_swi, mm_sw, mm_pop1, mm_dup, mm_dup2, mm_geti, mm_geta, mm_puti, mm_iald, mm_bald, mm_aald, mm_iast, mm_bast, mm_alen, mm_acpy, mm_call, mm_callv, mm_recv, mm_pop, mm_find, mm_push, mm_cats, mm_cat, mm_reti, mm_retz, mm_retl, mm_reta, mm_retv, mm_set1, mm_set2, mm_kill, List.getElem?_cons_zero, List.getElem?_cons_succ, Int.reduceToNat, ↓reduceIte, Nat.reduceEqDiff, Nat.reduceDiv, Nat.reduceAdd, Nat.reduceLeDiff, Nat.zero_le, true_and, and_true, true_or, or_true, mm_b0, mm_b1, mm_lc_lt, mm_lc_le, mm_lc_gt, mm_lc_ge, mm_lc_eq, Int.not_lt, Int.not_le, Decidable.not_not, Int.sub_neg]
          exact ⟨fun z => h104 z, fun z => h106 _ (by rw [if_pos z] at hq; exact hq)⟩
        refine hJ 42 _ _ _ (show mm_wp _ _ _ mo_M_best_42 _ _ _ from ?_)
        simp only [mo_M_best_42, mm_wp, mm_ldi, mm_lda, mm_ldl, mm_sti, mm_sta, mm_stl, mm_inc, mm_2i, mm_mm, mm_2l, mm_lcmp, mm_i2l, mm_l2i, mm_cast8, mm_if1, mm_if2, mm_cmp, mm_swi, mm_sw, mm_pop1, mm_dup, mm_dup2, mm_geti, mm_geta, mm_puti, mm_iald, mm_bald, mm_aald, mm_iast, mm_bast, mm_alen, mm_acpy, mm_call, mm_callv, mm_recv, mm_pop, mm_find, mm_push, mm_cats, mm_cat, mm_reti, mm_retz, mm_retl, mm_reta, mm_retv, mm_set1, mm_set2, mm_kill, List.getElem?_cons_zero, List.getElem?_cons_succ, Int.reduceToNat, ↓reduceIte, Nat.reduceEqDiff, Nat.reduceDiv, Nat.reduceAdd, Nat.reduceLeDiff, Nat.zero_le, true_and, and_true, true_or, or_true, mm_b0, mm_b1, mm_lc_lt, mm_lc_le, mm_lc_gt, mm_lc_ge, mm_lc_eq, Int.not_lt, Int.not_le, Decidable.not_not, Int.sub_neg, c_0, c_1, c_2, l_2, c_3, c_4, l_4, c_5, l_5, c_6, l_6, c_7, l_7, c_8, c_9, l_9, c_10, l_10, c_11, l_11, c_12, l_12, c_13, c_14, l_14, c_15, l_15, c_16, l_16, c_17, l_17, c_18, c_19, l_19, c_20, l_20, c_21, l_21, c_22, l_22, c_23, c_24, l_24, c_25, l_25, c_26, c_27, c_28, l_28, c_29, c_30, l_30, c_31, c_32, l_32, c_33, l_33, c_34, l_34, c_35, l_35, c_36, l_36, c_37, l_37, c_38, l_38, c_39, l_39, c_40, c_41, l_41, c_42, c_43, c_44, l_44, c_45, c_46, l_46, c_47, c_48, l_48, c_49, l_49, c_50, l_50, c_51, l_51, c_52, l_52, c_53, l_53, c_54, l_54, c_55, l_55, c_56, l_56, c_57, l_57, c_58, l_58, c_59, l_59, c_60, l_60, c_61, l_61, c_62, c_63, l_63, c_64, l_64, c_65, l_65, c_66, l_66, c_67, l_67, c_68, l_68, c_69, l_69, c_70, l_70, c_71, l_71, c_72, l_72, c_73, l_73, c_74, l_74, c_75, l_75, c_76, l_76, e3]
        exact ⟨fun _ => h96, fun z => by omega⟩
      | succ d ih =>
        intro k x6 M1 hk f1
        have e3 : M1 62 3 = M 62 3 := f1.2 3 (by decide) (by decide) (by decide) (by decide) (by decide)
        have e10 : M1 62 10 = M 62 10 := f1.2 10 (by decide) (by decide) (by decide) (by decide) (by decide)
        refine hJ 42 _ _ _ (show mm_wp _ _ _ mo_M_best_42 _ _ _ from ?_)
        simp only [mo_M_best_42, mm_wp, mm_ldi, mm_lda, mm_ldl, mm_sti, mm_sta, mm_stl, mm_inc, mm_2i, mm_mm, mm_2l, mm_lcmp, mm_i2l, mm_l2i, mm_cast8, mm_if1, mm_if2, mm_cmp, mm_swi, mm_sw, mm_pop1, mm_dup, mm_dup2, mm_geti, mm_geta, mm_puti, mm_iald, mm_bald, mm_aald, mm_iast, mm_bast, mm_alen, mm_acpy, mm_call, mm_callv, mm_recv, mm_pop, mm_find, mm_push, mm_cats, mm_cat, mm_reti, mm_retz, mm_retl, mm_reta, mm_retv, mm_set1, mm_set2, mm_kill, List.getElem?_cons_zero, List.getElem?_cons_succ, Int.reduceToNat, ↓reduceIte, Nat.reduceEqDiff, Nat.reduceDiv, Nat.reduceAdd, Nat.reduceLeDiff, Nat.zero_le, true_and, and_true, true_or, or_true, mm_b0, mm_b1, mm_lc_lt, mm_lc_le, mm_lc_gt, mm_lc_ge, mm_lc_eq, Int.not_lt, Int.not_le, Decidable.not_not, Int.sub_neg, c_0, c_1, c_2, l_2, c_3, c_4, l_4, c_5, l_5, c_6, l_6, c_7, l_7, c_8, c_9, l_9, c_10, l_10, c_11, l_11, c_12, l_12, c_13, c_14, l_14, c_15, l_15, c_16, l_16, c_17, l_17, c_18, c_19, l_19, c_20, l_20, c_21, l_21, c_22, l_22, c_23, c_24, l_24, c_25, l_25, c_26, c_27, c_28, l_28, c_29, c_30, l_30, c_31, c_32, l_32, c_33, l_33, c_34, l_34, c_35, l_35, c_36, l_36, c_37, l_37, c_38, l_38, c_39, l_39, c_40, c_41, l_41, c_42, c_43, c_44, l_44, c_45, c_46, l_46, c_47, c_48, l_48, c_49, l_49, c_50, l_50, c_51, l_51, c_52, l_52, c_53, l_53, c_54, l_54, c_55, l_55, c_56, l_56, c_57, l_57, c_58, l_58, c_59, l_59, c_60, l_60, c_61, l_61, c_62, c_63, l_63, c_64, l_64, c_65, l_65, c_66, l_66, c_67, l_67, c_68, l_68, c_69, l_69, c_70, l_70, c_71, l_71, c_72, l_72, c_73, l_73, c_74, l_74, c_75, l_75, c_76, l_76, e3, t_M_costOf]
        refine ⟨fun z => by omega, fun _ => ⟨plG_B f1 hB, by omega, by omega, by omega, by omega, by omega, by omega, fun M2 P n hp hor hn p1 p2 p3 p4 p5 p6 q1 q2 => ?_⟩⟩
        rw [hco M1 _ P n f1 hor]
        have f2 := plG_tr f1 hp
        have h88 : ∀ (z1 z2 : Int) (x4 : Option mmV), (z1, z2) = bsF c (k + 1) → J 88 [some (vr 62), some (vi ord), some (vi w), some (vi z1), x4, some (vi ((k : Int) + 2)), some (vi (c ((k : Int) + 2)))] [vi z2] M2 := by
          intro z1 z2 x4 he
          refine hJ 88 _ _ _ (show mm_wp _ _ _ mo_M_best_88 _ _ _ from ?_)
          simp only [mo_M_best_88, mm_wp, mm_ldi, mm_lda, mm_ldl, mm_sti, mm_sta, mm_stl, mm_inc, mm_2i, mm_mm, mm_2l, mm_lcmp, mm_i2l, mm_l2i, mm_cast8, mm_if1, mm_if2, mm_cmp, mm_swi, mm_sw, mm_pop1, mm_dup, mm_dup2, mm_geti, mm_geta, mm_puti, mm_iald, mm_bald, mm_aald, mm_iast, mm_bast, mm_alen, mm_acpy, mm_call, mm_callv, mm_recv, mm_pop, mm_find, mm_push, mm_cats, mm_cat, mm_reti, mm_retz, mm_retl, mm_reta, mm_retv, mm_set1, mm_set2, mm_kill, List.getElem?_cons_zero, List.getElem?_cons_succ, Int.reduceToNat, ↓reduceIte, Nat.reduceEqDiff, Nat.reduceDiv, Nat.reduceAdd, Nat.reduceLeDiff, Nat.zero_le, true_and, and_true, true_or, or_true, mm_b0, mm_b1, mm_lc_lt, mm_lc_le, mm_lc_gt, mm_lc_ge, mm_lc_eq, Int.not_lt, Int.not_le, Decidable.not_not, Int.sub_neg]
          refine ⟨by omega, ?_⟩
          have := ih (k + 1) (some (vi (c ((k : Int) + 2)))) M2 (by omega) f2
          rw [← he, show (((k + 1 : Nat) : Int) + 2) = (k : Int) + 2 + 1 by omega] at this
          exact this
        by_cases hlt : c ((k : Int) + 2) < (bsF c k).2
        · have hb : bsF c (k + 1) = ((k : Int) + 2, c ((k : Int) + 2)) := by simp only [bsF]; rw [if_pos hlt]
          have h73 : J 73 [some (vr 62), some (vi ord), some (vi w), some (vi (bsF c k).1), some (vi (bsF c k).2), some (vi ((k : Int) + 2)), some (vi (c ((k : Int) + 2)))] [vi ((k : Int) + 2)] M2 := by
            refine hJ 73 _ _ _ (show mm_wp _ _ _ mo_M_best_73 _ _ _ from ?_)
            simp only [mo_M_best_73, mm_wp, mm_ldi, mm_lda, mm_ldl, mm_sti, mm_sta, mm_stl, mm_inc, mm_2i, mm_mm, mm_2l, mm_lcmp, mm_i2l, mm_l2i, mm_cast8, mm_if1, mm_if2, mm_cmp, mm_swi, mm_sw, mm_pop1, mm_dup, mm_dup2, mm_geti, mm_geta, mm_puti, mm_iald, mm_bald, mm_aald, mm_iast, mm_bast, mm_alen, mm_acpy, mm_call, mm_callv, mm_recv, mm_pop, mm_find, mm_push, mm_cats, mm_cat, mm_reti, mm_retz, mm_retl, mm_reta, mm_retv, mm_set1, mm_set2, mm_kill, List.getElem?_cons_zero, List.getElem?_cons_succ, Int.reduceToNat, ↓reduceIte, Nat.reduceEqDiff, Nat.reduceDiv, Nat.reduceAdd, Nat.reduceLeDiff, Nat.zero_le, true_and, and_true, true_or, or_true, mm_b0, mm_b1, mm_lc_lt, mm_lc_le, mm_lc_gt, mm_lc_ge, mm_lc_eq, Int.not_lt, Int.not_le, Decidable.not_not, Int.sub_neg]
            exact ⟨fun z => by omega, fun _ => h88 _ _ _ hb.symm⟩
          exact ⟨fun z => by omega, fun _ => h73⟩
        · have hb : bsF c (k + 1) = bsF c k := by simp only [bsF]; rw [if_neg hlt]
          have h86 : J 86 [some (vr 62), some (vi ord), some (vi w), some (vi (bsF c k).1), some (vi (bsF c k).2), some (vi ((k : Int) + 2)), some (vi (c ((k : Int) + 2)))] [] M2 := by
            refine hJ 86 _ _ _ (show mm_wp _ _ _ mo_M_best_86 _ _ _ from ?_)
            simp only [mo_M_best_86, mm_wp, mm_ldi, mm_lda, mm_ldl, mm_sti, mm_sta, mm_stl, mm_inc, mm_2i, mm_mm, mm_2l, mm_lcmp, mm_i2l, mm_l2i, mm_cast8, mm_if1, mm_if2, mm_cmp, mm_swi, mm_sw, mm_pop1, mm_dup, mm_dup2, mm_geti, mm_geta, mm_puti, mm_iald, mm_bald, mm_aald, mm_iast, mm_bast, mm_alen, mm_acpy, mm_call, mm_callv, mm_recv, mm_pop, mm_find, mm_push, mm_cats, mm_cat, mm_reti, mm_retz, mm_retl, mm_reta, mm_retv, mm_set1, mm_set2, mm_kill, List.getElem?_cons_zero, List.getElem?_cons_succ, Int.reduceToNat, ↓reduceIte, Nat.reduceEqDiff, Nat.reduceDiv, Nat.reduceAdd, Nat.reduceLeDiff, Nat.zero_le, true_and, and_true, true_or, or_true, mm_b0, mm_b1, mm_lc_lt, mm_lc_le, mm_lc_gt, mm_lc_ge, mm_lc_eq, Int.not_lt, Int.not_le, Decidable.not_not, Int.sub_neg]
            exact h88 _ _ _ hb.symm
          have h73 : J 73 [some (vr 62), some (vi ord), some (vi w), some (vi (bsF c k).1), some (vi (bsF c k).2), some (vi ((k : Int) + 2)), some (vi (c ((k : Int) + 2)))] [vi (bsF c k).1] M2 := by
            refine hJ 73 _ _ _ (show mm_wp _ _ _ mo_M_best_73 _ _ _ from ?_)
            simp only [mo_M_best_73, mm_wp, mm_ldi, mm_lda, mm_ldl, mm_sti, mm_sta, mm_stl, mm_inc, mm_2i, mm_mm, mm_2l, mm_lcmp, mm_i2l, mm_l2i, mm_cast8, mm_if1, mm_if2, mm_cmp, mm_swi, mm_sw, mm_pop1, mm_dup, mm_dup2, mm_geti, mm_geta, mm_puti, mm_iald, mm_bald, mm_aald, mm_iast, mm_bast, mm_alen, mm_acpy, mm_call, mm_callv, mm_recv, mm_pop, mm_find, mm_push, mm_cats, mm_cat, mm_reti, mm_retz, mm_retl, mm_reta, mm_retv, mm_set1, mm_set2, mm_kill, List.getElem?_cons_zero, List.getElem?_cons_succ, Int.reduceToNat, ↓reduceIte, Nat.reduceEqDiff, Nat.reduceDiv, Nat.reduceAdd, Nat.reduceLeDiff, Nat.zero_le, true_and, and_true, true_or, or_true, mm_b0, mm_b1, mm_lc_lt, mm_lc_le, mm_lc_gt, mm_lc_ge, mm_lc_eq, Int.not_lt, Int.not_le, Decidable.not_not, Int.sub_neg]
            exact ⟨fun _ => h86, fun z => by omega⟩
          have h72 : J 72 [some (vr 62), some (vi ord), some (vi w), some (vi (bsF c k).1), some (vi (bsF c k).2), some (vi ((k : Int) + 2)), some (vi (c ((k : Int) + 2)))] [] M2 := by
            refine hJ 72 _ _ _ (show mm_wp _ _ _ mo_M_best_72 _ _ _ from ?_)
            simp only [mo_M_best_72, mm_wp, mm_ldi, mm_lda, mm_ldl, mm_sti, mm_sta, mm_stl, mm_inc, mm_2i, mm_mm, mm_2l, mm_lcmp, mm_i2l, mm_l2i, mm_cast8, mm_if1, mm_if2, mm_cmp, mm_swi, mm_sw, mm_pop1, mm_dup, mm_dup2, mm_geti, mm_geta, mm_puti, mm_iald, mm_bald, mm_aald, mm_iast, mm_bast, mm_alen, mm_acpy, mm_call, mm_callv, mm_recv, mm_pop, mm_find, mm_push, mm_cats, mm_cat, mm_reti, mm_retz, mm_retl, mm_reta, mm_retv, mm_set1, mm_set2, mm_kill, List.getElem?_cons_zero, List.getElem?_cons_succ, Int.reduceToNat, ↓reduceIte, Nat.reduceEqDiff, Nat.reduceDiv, Nat.reduceAdd, Nat.reduceLeDiff, Nat.zero_le, true_and, and_true, true_or, or_true, mm_b0, mm_b1, mm_lc_lt, mm_lc_le, mm_lc_gt, mm_lc_ge, mm_lc_eq, Int.not_lt, Int.not_le, Decidable.not_not, Int.sub_neg]
            exact h73
          exact ⟨fun _ => h72, fun z => by omega⟩
    have e10 : tz M 62 10 = M 62 10 := mm_up_i _ (by decide)
    refine hJ 29 _ _ _ (show mm_wp _ _ _ mo_M_best_29 _ _ _ from ?_)
    simp only [mo_M_best_29, mm_wp, mm_ldi, mm_lda, mm_ldl, mm_sti, mm_sta, mm_stl, mm_inc, mm_2i, mm_mm, mm_2l, mm_lcmp, mm_i2l, mm_l2i, mm_cast8, mm_if1, mm_if2, mm_cmp, mm_swi, mm_sw, mm_pop1, mm_dup, mm_dup2, mm_geti, mm_geta, mm_puti, mm_iald, mm_bald, mm_aald, mm_iast, mm_bast, mm_alen, mm_acpy, mm_call, mm_callv, mm_recv, mm_pop, mm_find, mm_push, mm_cats, mm_cat, mm_reti, mm_retz, mm_retl, mm_reta, mm_retv, mm_set1, mm_set2, mm_kill, List.getElem?_cons_zero, List.getElem?_cons_succ, Int.reduceToNat, ↓reduceIte, Nat.reduceEqDiff, Nat.reduceDiv, Nat.reduceAdd, Nat.reduceLeDiff, Nat.zero_le, true_and, and_true, true_or, or_true, mm_b0, mm_b1, mm_lc_lt, mm_lc_le, mm_lc_gt, mm_lc_ge, mm_lc_eq, Int.not_lt, Int.not_le, Decidable.not_not, Int.sub_neg, c_0, c_1, c_2, l_2, c_3, c_4, l_4, c_5, l_5, c_6, l_6, c_7, l_7, c_8, c_9, l_9, c_10, l_10, c_11, l_11, c_12, l_12, c_13, c_14, l_14, c_15, l_15, c_16, l_16, c_17, l_17, c_18, c_19, l_19, c_20, l_20, c_21, l_21, c_22, l_22, c_23, c_24, l_24, c_25, l_25, c_26, c_27, c_28, l_28, c_29, c_30, l_30, c_31, c_32, l_32, c_33, l_33, c_34, l_34, c_35, l_35, c_36, l_36, c_37, l_37, c_38, l_38, c_39, l_39, c_40, c_41, l_41, c_42, c_43, c_44, l_44, c_45, c_46, l_46, c_47, c_48, l_48, c_49, l_49, c_50, l_50, c_51, l_51, c_52, l_52, c_53, l_53, c_54, l_54, c_55, l_55, c_56, l_56, c_57, l_57, c_58, l_58, c_59, l_59, c_60, l_60, c_61, l_61, c_62, c_63, l_63, c_64, l_64, c_65, l_65, c_66, l_66, c_67, l_67, c_68, l_68, c_69, l_69, c_70, l_70, c_71, l_71, c_72, l_72, c_73, l_73, c_74, l_74, c_75, l_75, c_76, l_76, t_M_costOf]
    refine ⟨plG_B hG hB, by omega, by omega, by omega, by omega, by omega, by omega, fun M1 P n hp hor hn p1 p2 p3 p4 p5 p6 q1 q2 => ?_⟩
    rw [hco _ _ P n hG hor]
    exact hl (M 62 3 - 1).toNat 0 none M1 (by omega) (plG_tr hG hp)
  refine hJ 0 _ _ _ (show mm_wp _ _ _ mo_M_best_0 _ _ _ from ?_)
  simp only [mo_M_best_0, mm_wp, mm_ldi, mm_lda, mm_ldl, mm_sti, mm_sta, mm_stl, mm_inc, mm_2i, mm_mm, mm_2l, mm_lcmp, mm_i2l, mm_l2i, mm_cast8, mm_if1, mm_if2, mm_cmp, mm_swi, mm_sw, mm_pop1, mm_dup, mm_dup2, mm_geti, mm_geta, mm_puti, mm_iald, mm_bald, mm_aald, mm_iast, mm_bast, mm_alen, mm_acpy, mm_call, mm_callv, mm_recv, mm_pop, mm_find, mm_push, mm_cats, mm_cat, mm_reti, mm_retz, mm_retl, mm_reta, mm_retv, mm_set1, mm_set2, mm_kill, List.getElem?_cons_zero, List.getElem?_cons_succ, Int.reduceToNat, ↓reduceIte, Nat.reduceEqDiff, Nat.reduceDiv, Nat.reduceAdd, Nat.reduceLeDiff, Nat.zero_le, true_and, and_true, true_or, or_true, mm_b0, mm_b1, mm_lc_lt, mm_lc_le, mm_lc_gt, mm_lc_ge, mm_lc_eq, Int.not_lt, Int.not_le, Decidable.not_not, Int.sub_neg, c_0, c_1, c_2, l_2, c_3, c_4, l_4, c_5, l_5, c_6, l_6, c_7, l_7, c_8, c_9, l_9, c_10, l_10, c_11, l_11, c_12, l_12, c_13, c_14, l_14, c_15, l_15, c_16, l_16, c_17, l_17, c_18, c_19, l_19, c_20, l_20, c_21, l_21, c_22, l_22, c_23, c_24, l_24, c_25, l_25, c_26, c_27, c_28, l_28, c_29, c_30, l_30, c_31, c_32, l_32, c_33, l_33, c_34, l_34, c_35, l_35, c_36, l_36, c_37, l_37, c_38, l_38, c_39, l_39, c_40, c_41, l_41, c_42, c_43, c_44, l_44, c_45, c_46, l_46, c_47, c_48, l_48, c_49, l_49, c_50, l_50, c_51, l_51, c_52, l_52, c_53, l_53, c_54, l_54, c_55, l_55, c_56, l_56, c_57, l_57, c_58, l_58, c_59, l_59, c_60, l_60, c_61, l_61, c_62, c_63, l_63, c_64, l_64, c_65, l_65, c_66, l_66, c_67, l_67, c_68, l_68, c_69, l_69, c_70, l_70, c_71, l_71, c_72, l_72, c_73, l_73, c_74, l_74, c_75, l_75, c_76, l_76, t_M_within]
  exact ⟨fun z => h27 (by omega), fun z => ⟨fun z2 => h29 (by omega), fun z2 => h27 (by omega)⟩⟩
def t_M_saves : mmT := fun as M Q => match as with
  | [.inr (.inr o), .inl q] => o = 62 ∧ mqB M ∧ 0 ≤ M 62 10 ∧ M 62 10 ≤ 9 ∧ 0 ≤ M 62 11 ∧ M 62 11 ≤ 2 ∧ 1 ≤ M 62 12 ∧ M 62 12 ≤ 60 ∧ M 62 34 = -1 ∧ (¬ (0 ≤ q ∧ q < M 62 8) → Q (some (vi (-100000))) (tz M)) ∧ ((0 ≤ q ∧ q < M 62 8) → ∀ M', plG M M' → Q (some (vi (cstR M (M 62 11) (M 62 12) (-1) - cstR M (M 62 11) (M 62 12) q))) M')
  | _ => False
set_option maxHeartbeats 4000000 in
set_option maxRecDepth 100000 in
theorem p_M_saves : ∀ as M Q, (∀ v ∈ as, mm_vin v) → mm_mem M → t_M_saves as M Q → (mm_ent as).length ≤ 4 ∧ mm_ok mb_M_saves [(1127, t_M_isQuestion), (1158, t_M_costOf)] (mm_entry 4 as) M Q := by
  intro as M Q hin hM h
  unfold t_M_saves at h
  split at h
  rotate_left
  · exact h.elim
  rename_i o q
  have hR_q : mm_R q := hin (vi q) (by simp)
  refine ⟨by simp [mm_ent], (show mm_ok mb_M_saves [(1127, t_M_isQuestion), (1158, t_M_costOf)] [some (vr o), some (vi q), none, none] M Q from ?_)⟩
  intro J hJ
  obtain ⟨rfl, hB, w0, w1, o1, o2, b1, b2, h34, hN, hY⟩ := h
  have hG := plG_tz M
  have e8 : tz M 62 8 = M 62 8 := mm_up_i _ (by decide)
  have gg : ∀ (M1 : mmM) (j : Int), plG M M1 → j ≠ 0 → j ≠ 33 → j ≠ 35 → j ≠ 36 → j ≠ 37 → M1 62 j = M 62 j := fun M1 j hp a b c d e => hp.2 j a b c d e
  have h17 : (0 ≤ q ∧ q < M 62 8) → J 17 [some (vr 62), some (vi q), none, none] [] (tz M) := by
    intro hz
    have hY := hY hz
    have g10 := hG.2 10 (by decide) (by decide) (by decide) (by decide) (by decide)
    have g11 := hG.2 11 (by decide) (by decide) (by decide) (by decide) (by decide)
    have g12 := hG.2 12 (by decide) (by decide) (by decide) (by decide) (by decide)
    have g34 := hG.2 34 (by decide) (by decide) (by decide) (by decide) (by decide)
    refine hJ 17 _ _ _ (show mm_wp _ _ _ mo_M_saves_17 _ _ _ from ?_)
    simp only [mo_M_saves_17, mm_wp, mm_ldi, mm_lda, mm_ldl, mm_sti, mm_sta, mm_stl, mm_inc, mm_2i, mm_mm, mm_2l, mm_lcmp, mm_i2l, mm_l2i, mm_cast8, mm_if1, mm_if2, mm_cmp, mm_swi, mm_sw, mm_pop1, mm_dup, mm_dup2, mm_geti, mm_geta, mm_puti, mm_iald, mm_bald, mm_aald, mm_iast, mm_bast, mm_alen, mm_acpy, mm_call, mm_callv, mm_recv, mm_pop, mm_find, mm_push, mm_cats, mm_cat, mm_reti, mm_retz, mm_retl, mm_reta, mm_retv, mm_set1, mm_set2, mm_kill, List.getElem?_cons_zero, List.getElem?_cons_succ, Int.reduceToNat, ↓reduceIte, Nat.reduceEqDiff, Nat.reduceDiv, Nat.reduceAdd, Nat.reduceLeDiff, Nat.zero_le, true_and, and_true, true_or, or_true, mm_b0, mm_b1, mm_lc_lt, mm_lc_le, mm_lc_gt, mm_lc_ge, mm_lc_eq, Int.not_lt, Int.not_le, Decidable.not_not, Int.sub_neg, c_0, c_1, c_2, l_2, c_3, c_4, l_4, c_5, l_5, c_6, l_6, c_7, l_7, c_8, c_9, l_9, c_10, l_10, c_11, l_11, c_12, l_12, c_13, c_14, l_14, c_15, l_15, c_16, l_16, c_17, l_17, c_18, c_19, l_19, c_20, l_20, c_21, l_21, c_22, l_22, c_23, c_24, l_24, c_25, l_25, c_26, c_27, c_28, l_28, c_29, c_30, l_30, c_31, c_32, l_32, c_33, l_33, c_34, l_34, c_35, l_35, c_36, l_36, c_37, l_37, c_38, l_38, c_39, l_39, c_40, c_41, l_41, c_42, c_43, c_44, l_44, c_45, c_46, l_46, c_47, c_48, l_48, c_49, l_49, c_50, l_50, c_51, l_51, c_52, l_52, c_53, l_53, c_54, l_54, c_55, l_55, c_56, l_56, c_57, l_57, c_58, l_58, c_59, l_59, c_60, l_60, c_61, l_61, c_62, c_63, l_63, c_64, l_64, c_65, l_65, c_66, l_66, c_67, l_67, c_68, l_68, c_69, l_69, c_70, l_70, c_71, l_71, c_72, l_72, c_73, l_73, c_74, l_74, c_75, l_75, c_76, l_76, t_M_costOf]
    rw [g10, g11, g12, g34]
    refine ⟨plG_B hG hB, w0, w1, o1, o2, b1, b2, fun M1 P n hp hor hn p1 p2 p3 p4 p5 p6 q1 q2 => ?_⟩
    have f1 := plG_tr hG hp
    have k10 := f1.2 10 (by decide) (by decide) (by decide) (by decide) (by decide)
    have k11 := f1.2 11 (by decide) (by decide) (by decide) (by decide) (by decide)
    have k12 := f1.2 12 (by decide) (by decide) (by decide) (by decide) (by decide)
    have u : ∀ j, j ≠ 34 → mm_up M1 62 34 q 62 j = M1 62 j := fun j hj => mm_up_i _ hj
    have u67 : mm_up M1 62 34 q 67 = M1 67 := mm_up_o _ _ (by decide)
    have hB2 : mqB (mm_up M1 62 34 q) := by
      have := plG_B f1 hB
      unfold mqB mf ml mt at this ⊢
      rw [u 8 (by decide), u67]
      exact this
    rw [u 10 (by decide), u 11 (by decide), u 12 (by decide), mm_up_s, k10, k11, k12]
    refine ⟨hB2, w0, w1, o1, o2, b1, b2, fun M2 P2 n2 hp2 hor2 hn2 _ _ _ _ _ _ r1 r2 => ⟨by omega, ?_⟩⟩
    have e1 : coF (mf (tz M)) (ml (tz M)) (mt (tz M)) P n (M 62 10) = cstR M (M 62 11) (M 62 12) (-1) := by
      rw [← cstR_c hG]
      unfold cstR
      rw [g10, ← h34]
      exact coV_self hor
    have ef : mf (mm_up M1 62 34 q) = mf M1 := by unfold mf; rw [u67]
    have el : ml (mm_up M1 62 34 q) = ml M1 := by unfold ml; rw [u67]
    have et : mt (mm_up M1 62 34 q) = mt M1 := by unfold mt; rw [u67]
    have ek : mk (mm_up M1 62 34 q) = mk M1 := by unfold mk; rw [u67]
    have eS : mS (mm_up M1 62 34 q) q = mS M1 q := by funext z; unfold mS; rw [u 8 (by decide), ek]
    have eW : mwt (mm_up M1 62 34 q) (M 62 11) (M 62 12) = mwt M1 (M 62 11) (M 62 12) := by funext z; unfold mwt; rw [ef, el, et]
    have e2 : coF (mf (mm_up M1 62 34 q)) (ml (mm_up M1 62 34 q)) (mt (mm_up M1 62 34 q)) P2 n2 (M 62 10) = cstR M (M 62 11) (M 62 12) q := by
      rw [← cstR_c f1]
      unfold cstR
      rw [k10]
      rw [eS, eW] at hor2
      rw [ef, el, et]
      exact coV_self hor2
    rw [e1, e2]
    refine hY _ ⟨fun o' a b => by rw [mm_up_o _ _ a, hp2.1 o' a b, mm_up_o _ _ a, f1.1 o' a b], fun j a b c d e => ?_⟩
    rw [mm_up_if]
    split
    · rename_i hj; rw [hj, h34]
    · rename_i hj; rw [hp2.2 j a b c d e, mm_up_i _ hj, f1.2 j a b c d e]
  refine hJ 0 _ _ _ (show mm_wp _ _ _ mo_M_saves_0 _ _ _ from ?_)
  simp only [mo_M_saves_0, mm_wp, mm_ldi, mm_lda, mm_ldl, mm_sti, mm_sta, mm_stl, mm_inc, mm_2i, mm_mm, mm_2l, mm_lcmp, mm_i2l, mm_l2i, mm_cast8, mm_if1, mm_if2, mm_cmp, mm_swi, mm_sw, mm_pop1, mm_dup, mm_dup2, mm_geti, mm_geta, mm_puti, mm_iald, mm_bald, mm_aald, mm_iast, mm_bast, mm_alen, mm_acpy, mm_call, mm_callv, mm_recv, mm_pop, mm_find, mm_push, mm_cats, mm_cat, mm_reti, mm_retz, mm_retl, mm_reta, mm_retv, mm_set1, mm_set2, mm_kill, List.getElem?_cons_zero, List.getElem?_cons_succ, Int.reduceToNat, ↓reduceIte, Nat.reduceEqDiff, Nat.reduceDiv, Nat.reduceAdd, Nat.reduceLeDiff, Nat.zero_le, true_and, and_true, true_or, or_true, mm_b0, mm_b1, mm_lc_lt, mm_lc_le, mm_lc_gt, mm_lc_ge, mm_lc_eq, Int.not_lt, Int.not_le, Decidable.not_not, Int.sub_neg, c_0, c_1, c_2, l_2, c_3, c_4, l_4, c_5, l_5, c_6, l_6, c_7, l_7, c_8, c_9, l_9, c_10, l_10, c_11, l_11, c_12, l_12, c_13, c_14, l_14, c_15, l_15, c_16, l_16, c_17, l_17, c_18, c_19, l_19, c_20, l_20, c_21, l_21, c_22, l_22, c_23, c_24, l_24, c_25, l_25, c_26, c_27, c_28, l_28, c_29, c_30, l_30, c_31, c_32, l_32, c_33, l_33, c_34, l_34, c_35, l_35, c_36, l_36, c_37, l_37, c_38, l_38, c_39, l_39, c_40, c_41, l_41, c_42, c_43, c_44, l_44, c_45, c_46, l_46, c_47, c_48, l_48, c_49, l_49, c_50, l_50, c_51, l_51, c_52, l_52, c_53, l_53, c_54, l_54, c_55, l_55, c_56, l_56, c_57, l_57, c_58, l_58, c_59, l_59, c_60, l_60, c_61, l_61, c_62, c_63, l_63, c_64, l_64, c_65, l_65, c_66, l_66, c_67, l_67, c_68, l_68, c_69, l_69, c_70, l_70, c_71, l_71, c_72, l_72, c_73, l_73, c_74, l_74, c_75, l_75, c_76, l_76, t_M_isQuestion]
  exact ⟨fun z => h17 (by rw [show mm_up M 62 0 0 62 8 = M 62 8 from e8] at z; exact z), fun z => hN (by rw [show mm_up M 62 0 0 62 8 = M 62 8 from e8] at z; exact z)⟩
theorem asM_o {M : mmM} {k f l t : Int} {o : Nat} (h1 : o ≠ 62) (h2 : o ≠ 67) : asM M k f l t o = M o := by
  unfold asM
  rw [mm_up_o _ _ h1, mm_up_o _ _ h2, mm_up_o _ _ h2, mm_up_o _ _ h2, mm_up_o _ _ h2]
theorem asM_62 {M : mmM} {k f l t j : Int} (h : j ≠ 8) : asM M k f l t 62 j = M 62 j := by
  unfold asM
  rw [mm_up_i _ h, mm_up_o _ _ (by decide), mm_up_o _ _ (by decide), mm_up_o _ _ (by decide), mm_up_o _ _ (by decide)]
theorem asM_8 {M : mmM} {k f l t : Int} : asM M k f l t 62 8 = M 62 8 + 1 := by
  unfold asM
  rw [mm_up_s]
theorem asM_67 {M : mmM} {k f l t i : Int} : asM M k f l t 67 i = if i = 4 * M 62 8 + 3 then (if t = -1 then M 62 5 else t) else if i = 4 * M 62 8 + 2 then l else if i = 4 * M 62 8 + 1 then f else if i = 4 * M 62 8 then k else M 67 i := by
  unfold asM
  rw [mm_up_o _ _ (by decide), mm_up_if, mm_up_if, mm_up_if, mm_up_if]
theorem asM_v {M : mmM} {k f l t q : Int} (h : q ≠ M 62 8) : mk (asM M k f l t) q = mk M q ∧ mf (asM M k f l t) q = mf M q ∧ ml (asM M k f l t) q = ml M q ∧ mt (asM M k f l t) q = mt M q := by
  unfold mk mf ml mt
  refine ⟨?_, ?_, ?_, ?_⟩ <;> rw [asM_67, if_neg (by omega), if_neg (by omega), if_neg (by omega), if_neg (by omega)]
theorem asM_n {M : mmM} {k f l t : Int} : mk (asM M k f l t) (M 62 8) = k ∧ mf (asM M k f l t) (M 62 8) = f ∧ ml (asM M k f l t) (M 62 8) = l ∧ mt (asM M k f l t) (M 62 8) = (if t = -1 then M 62 5 else t) := by
  unfold mk mf ml mt
  refine ⟨?_, ?_, ?_, ?_⟩
  · rw [asM_67, if_neg (by omega), if_neg (by omega), if_neg (by omega), if_pos rfl]
  · rw [asM_67, if_neg (by omega), if_neg (by omega), if_pos rfl]
  · rw [asM_67, if_neg (by omega), if_pos rfl]
  · rw [asM_67, if_pos rfl]
theorem asM_B {M : mmM} {k f l t : Int} (hB : mqB M) (hn : M 62 8 ≤ 24) (h : 0 ≤ f ∧ f < 60 ∧ 0 ≤ l ∧ l < 60) (ht : 0 ≤ (if t = -1 then M 62 5 else t) ∧ (if t = -1 then M 62 5 else t) ≤ 32) : mqB (asM M k f l t) := by
  unfold mqB
  rw [asM_8]
  refine ⟨by have := hB.1; omega, by omega, fun q q0 q1 => ?_⟩
  by_cases c : q = M 62 8
  · obtain ⟨a1, a2, a3, a4⟩ := asM_n (M := M) (k := k) (f := f) (l := l) (t := t)
    rw [c, a2, a3, a4]
    omega
  · obtain ⟨a1, a2, a3, a4⟩ := asM_v (M := M) (k := k) (f := f) (l := l) (t := t) c
    rw [a2, a3, a4]
    exact hB.2.2 q q0 (by omega)
theorem asM_G {M M1 : mmM} {k f l t : Int} (h : plG M M1) : plG (asM M k f l t) (asM M1 k f l t) := by
  have e8 := h.2 8 (by decide) (by decide) (by decide) (by decide) (by decide)
  have e5 := h.2 5 (by decide) (by decide) (by decide) (by decide) (by decide)
  have e67 := h.1 67 (by decide) (by decide)
  refine ⟨fun o' a b => ?_, fun j a b c d e => ?_⟩
  · by_cases c : o' = 67
    · subst c
      funext i
      rw [asM_67, asM_67, e8, e5, e67]
    · rw [asM_o a c, asM_o a c, h.1 o' a b]
  · by_cases c9 : j = 8
    · subst c9; rw [asM_8, asM_8, e8]
    · rw [asM_62 c9, asM_62 c9, h.2 j a b c d e]
def t_M_would : mmT := fun as M Q => match as with
  | [.inr (.inr o), .inl k, .inl f, .inl l, .inl t] => o = 62 ∧ mqB M ∧ M 62 8 ≤ 24 ∧ M 62 3 ≤ 60 ∧ 0 ≤ M 62 5 ∧ M 62 5 ≤ 32 ∧ 0 ≤ M 62 10 ∧ M 62 10 ≤ 9 ∧ 0 ≤ M 62 11 ∧ M 62 11 ≤ 2 ∧ 1 ≤ M 62 12 ∧ M 62 12 ≤ 60 ∧ M 62 34 = -1 ∧ (¬ ((0 ≤ k ∧ k < 8) ∧ (0 ≤ f ∧ f < M 62 3) ∧ (0 ≤ l ∧ l < M 62 3) ∧ f ≤ l ∧ (t = -1 ∨ 0 ≤ t ∧ t ≤ M 62 5)) → Q (some (vi (-100000))) (tz M)) ∧ (((0 ≤ k ∧ k < 8) ∧ (0 ≤ f ∧ f < M 62 3) ∧ (0 ≤ l ∧ l < M 62 3) ∧ f ≤ l ∧ (t = -1 ∨ 0 ≤ t ∧ t ≤ M 62 5)) → ∀ M', (∀ o', o' ≠ 62 → o' ≠ 67 → o' ≠ 75 → M' o' = M o') → (∀ j, j ≠ 0 → j ≠ 33 → j ≠ 35 → j ≠ 36 → j ≠ 37 → M' 62 j = M 62 j) → (∀ q, q ≠ M 62 8 → mk M' q = mk M q ∧ mf M' q = mf M q ∧ ml M' q = ml M q ∧ mt M' q = mt M q) → Q (some (vi (cstR (asM M k f l t) (M 62 11) (M 62 12) (-1) - cstR M (M 62 11) (M 62 12) (-1)))) M')
  | _ => False
set_option maxHeartbeats 4000000 in
set_option maxRecDepth 100000 in
theorem p_M_would : ∀ as M Q, (∀ v ∈ as, mm_vin v) → mm_mem M → t_M_would as M Q → (mm_ent as).length ≤ 7 ∧ mm_ok mb_M_would [(1130, t_M_canAsk), (1158, t_M_costOf), (1131, t_M_asks)] (mm_entry 7 as) M Q := by
  intro as M Q hin hM h
  unfold t_M_would at h
  split at h
  rotate_left
  · exact h.elim
  rename_i o k f l t
  have hR_k : mm_R k := hin (vi k) (by simp)
  have hR_f : mm_R f := hin (vi f) (by simp)
  have hR_l : mm_R l := hin (vi l) (by simp)
  have hR_t : mm_R t := hin (vi t) (by simp)
  refine ⟨by simp [mm_ent], (show mm_ok mb_M_would [(1130, t_M_canAsk), (1158, t_M_costOf), (1131, t_M_asks)] [some (vr o), some (vi k), some (vi f), some (vi l), some (vi t), none, none] M Q from ?_)⟩
  intro J hJ
  obtain ⟨rfl, hB, hn24, c60, m5, m6, w0, w1, o1, o2, b1, b2, h34, hN, hY⟩ := h
  have hG := plG_tz M
  have n0 := hB.1
  have g3 := hG.2 3 (by decide) (by decide) (by decide) (by decide) (by decide)
  have g5 := hG.2 5 (by decide) (by decide) (by decide) (by decide) (by decide)
  have g10 := hG.2 10 (by decide) (by decide) (by decide) (by decide) (by decide)
  have g11 := hG.2 11 (by decide) (by decide) (by decide) (by decide) (by decide)
  have g12 := hG.2 12 (by decide) (by decide) (by decide) (by decide) (by decide)
  have g34 := hG.2 34 (by decide) (by decide) (by decide) (by decide) (by decide)
  generalize hC : ((0 ≤ k ∧ k < 8) ∧ (0 ≤ f ∧ f < M 62 3) ∧ (0 ≤ l ∧ l < M 62 3) ∧ f ≤ l ∧ (t = -1 ∨ 0 ≤ t ∧ t ≤ M 62 5)) = C at hN hY
  have h21 : C → J 21 [some (vr 62), some (vi k), some (vi f), some (vi l), some (vi t), none, none] [] (tz M) := by
    intro hz
    have hY := hY hz
    rw [← hC] at hz
    have hT : 0 ≤ (if t = -1 then M 62 5 else t) ∧ (if t = -1 then M 62 5 else t) ≤ 32 := by split <;> omega
    refine hJ 21 _ _ _ (show mm_wp _ _ _ mo_M_would_21 _ _ _ from ?_)
    simp only [mo_M_would_21, mm_wp, mm_ldi, mm_lda, mm_ldl, mm_sti, mm_sta, mm_stl, mm_inc, mm_2i, mm_mm, mm_2l, mm_lcmp, mm_i2l, mm_l2i, mm_cast8, mm_if1, mm_if2, mm_cmp, mm_swi, mm_sw, mm_pop1, mm_dup, mm_dup2, mm_geti, mm_geta, mm_puti, mm_iald, mm_bald, mm_aald, mm_iast, mm_bast, mm_alen, mm_acpy, mm_call, mm_callv, mm_recv, mm_pop, mm_find, mm_push, mm_cats, mm_cat, mm_reti, mm_retz, mm_retl, mm_reta, mm_retv, mm_set1, mm_set2, mm_kill, List.getElem?_cons_zero, List.getElem?_cons_succ, Int.reduceToNat, ↓reduceIte, Nat.reduceEqDiff, Nat.reduceDiv, Nat.reduceAdd, Nat.reduceLeDiff, Nat.zero_le, true_and, and_true, true_or, or_true, mm_b0, mm_b1, mm_lc_lt, mm_lc_le, mm_lc_gt, mm_lc_ge, mm_lc_eq, Int.not_lt, Int.not_le, Decidable.not_not, Int.sub_neg, c_0, c_1, c_2, l_2, c_3, c_4, l_4, c_5, l_5, c_6, l_6, c_7, l_7, c_8, c_9, l_9, c_10, l_10, c_11, l_11, c_12, l_12, c_13, c_14, l_14, c_15, l_15, c_16, l_16, c_17, l_17, c_18, c_19, l_19, c_20, l_20, c_21, l_21, c_22, l_22, c_23, c_24, l_24, c_25, l_25, c_26, c_27, c_28, l_28, c_29, c_30, l_30, c_31, c_32, l_32, c_33, l_33, c_34, l_34, c_35, l_35, c_36, l_36, c_37, l_37, c_38, l_38, c_39, l_39, c_40, c_41, l_41, c_42, c_43, c_44, l_44, c_45, c_46, l_46, c_47, c_48, l_48, c_49, l_49, c_50, l_50, c_51, l_51, c_52, l_52, c_53, l_53, c_54, l_54, c_55, l_55, c_56, l_56, c_57, l_57, c_58, l_58, c_59, l_59, c_60, l_60, c_61, l_61, c_62, c_63, l_63, c_64, l_64, c_65, l_65, c_66, l_66, c_67, l_67, c_68, l_68, c_69, l_69, c_70, l_70, c_71, l_71, c_72, l_72, c_73, l_73, c_74, l_74, c_75, l_75, c_76, l_76, t_M_costOf, t_M_asks]
    rw [g10, g11, g12, g34]
    refine ⟨plG_B hG hB, w0, w1, o1, o2, b1, b2, fun M1 P n hp hor hn p1 p2 p3 p4 p5 p6 q1 q2 => ?_⟩
    have f1 := plG_tr hG hp
    have k5 := f1.2 5 (by decide) (by decide) (by decide) (by decide) (by decide)
    have k8 := f1.2 8 (by decide) (by decide) (by decide) (by decide) (by decide)
    have k10 := f1.2 10 (by decide) (by decide) (by decide) (by decide) (by decide)
    have k11 := f1.2 11 (by decide) (by decide) (by decide) (by decide) (by decide)
    have k12 := f1.2 12 (by decide) (by decide) (by decide) (by decide) (by decide)
    have k34 := f1.2 34 (by decide) (by decide) (by decide) (by decide) (by decide)
    have hA := asM_G (k := k) (f := f) (l := l) (t := t) f1
    rw [asM_62 (by decide), asM_62 (by decide), asM_62 (by decide), asM_62 (by decide), k8, k10, k11, k12, k34]
    refine ⟨by omega, by omega, plG_B hA (asM_B hB hn24 (by omega) hT), w0, w1, o1, o2, b1, b2, fun M2 P2 n2 hp2 hor2 hn2 _ _ _ _ _ _ r1 r2 => ?_⟩
    have f2 := plG_tr hA hp2
    have j8 := f2.2 8 (by decide) (by decide) (by decide) (by decide) (by decide)
    rw [asM_8] at j8
    rw [j8]
    refine ⟨by omega, by omega, ?_⟩
    have e1 : coF (mf (tz M)) (ml (tz M)) (mt (tz M)) P n (M 62 10) = cstR M (M 62 11) (M 62 12) (-1) := by
      rw [← cstR_c hG]
      unfold cstR
      rw [g10, ← h34]
      exact coV_self hor
    have e2 : coF (mf (asM M1 k f l t)) (ml (asM M1 k f l t)) (mt (asM M1 k f l t)) P2 n2 (M 62 10) = cstR (asM M k f l t) (M 62 11) (M 62 12) (-1) := by
      rw [← cstR_c hA]
      unfold cstR
      rw [asM_62 (by decide), k10, ← h34]
      exact coV_self hor2
    rw [e1, e2]
    refine hY _ (fun o' a b c => ?_) (fun j a b c d e => ?_) (fun q hq => ?_)
    · rw [mm_up_o _ _ a, f2.1 o' a c, asM_o a b]
    · rw [mm_up_if]
      split
      · rename_i hj; rw [hj]; omega
      · rename_i hj; rw [f2.2 j a b c d e, asM_62 hj]
    · have e67 : mm_up M2 62 8 (M 62 8 + 1 - 1) 67 = asM M k f l t 67 := by rw [mm_up_o _ _ (by decide), f2.1 67 (by decide) (by decide)]
      have := asM_v (M := M) (k := k) (f := f) (l := l) (t := t) hq
      unfold mk mf ml mt at this ⊢
      rw [e67]
      exact this
  refine hJ 0 _ _ _ (show mm_wp _ _ _ mo_M_would_0 _ _ _ from ?_)
  simp only [mo_M_would_0, mm_wp, mm_ldi, mm_lda, mm_ldl, mm_sti, mm_sta, mm_stl, mm_inc, mm_2i, mm_mm, mm_2l, mm_lcmp, mm_i2l, mm_l2i, mm_cast8, mm_if1, mm_if2, mm_cmp, mm_swi, mm_sw, mm_pop1, mm_dup, mm_dup2, mm_geti, mm_geta, mm_puti, mm_iald, mm_bald, mm_aald, mm_iast, mm_bast, mm_alen, mm_acpy, mm_call, mm_callv, mm_recv, mm_pop, mm_find, mm_push, mm_cats, mm_cat, mm_reti, mm_retz, mm_retl, mm_reta, mm_retv, mm_set1, mm_set2, mm_kill, List.getElem?_cons_zero, List.getElem?_cons_succ, Int.reduceToNat, ↓reduceIte, Nat.reduceEqDiff, Nat.reduceDiv, Nat.reduceAdd, Nat.reduceLeDiff, Nat.zero_le, true_and, and_true, true_or, or_true, mm_b0, mm_b1, mm_lc_lt, mm_lc_le, mm_lc_gt, mm_lc_ge, mm_lc_eq, Int.not_lt, Int.not_le, Decidable.not_not, Int.sub_neg, c_0, c_1, c_2, l_2, c_3, c_4, l_4, c_5, l_5, c_6, l_6, c_7, l_7, c_8, c_9, l_9, c_10, l_10, c_11, l_11, c_12, l_12, c_13, c_14, l_14, c_15, l_15, c_16, l_16, c_17, l_17, c_18, c_19, l_19, c_20, l_20, c_21, l_21, c_22, l_22, c_23, c_24, l_24, c_25, l_25, c_26, c_27, c_28, l_28, c_29, c_30, l_30, c_31, c_32, l_32, c_33, l_33, c_34, l_34, c_35, l_35, c_36, l_36, c_37, l_37, c_38, l_38, c_39, l_39, c_40, c_41, l_41, c_42, c_43, c_44, l_44, c_45, c_46, l_46, c_47, c_48, l_48, c_49, l_49, c_50, l_50, c_51, l_51, c_52, l_52, c_53, l_53, c_54, l_54, c_55, l_55, c_56, l_56, c_57, l_57, c_58, l_58, c_59, l_59, c_60, l_60, c_61, l_61, c_62, c_63, l_63, c_64, l_64, c_65, l_65, c_66, l_66, c_67, l_67, c_68, l_68, c_69, l_69, c_70, l_70, c_71, l_71, c_72, l_72, c_73, l_73, c_74, l_74, c_75, l_75, c_76, l_76, t_M_canAsk]
  rw [show mm_up M 62 0 0 62 3 = M 62 3 from g3, show mm_up M 62 0 0 62 5 = M 62 5 from g5, hC]
  exact ⟨m5, fun z => h21 z, fun z => hN z⟩
def t_M_window : mmT := fun as M Q => match as with
  | [.inr (.inr o), .inl w] => o = 62 ∧ mR M ∧ mqB M ∧ mW M ∧ 0 ≤ M 62 11 ∧ M 62 11 ≤ 2 ∧ 1 ≤ M 62 12 ∧ M 62 12 ≤ 60 ∧ ∀ M' P n, (∀ o', o' ≠ 62 → o' ≠ 75 → o' ≠ 73 → o' ≠ 74 → M' o' = M o') → (∀ j, j ≠ 0 → j ≠ 33 → M' 62 j = M 62 j) → isOrd (mS M (M 62 34)) (mwt M (M 62 11) (M 62 12)) P n → ((w = 0 → Q (some (vi (M 62 39))) M') ∧ (w = 1 → Q (some (vi (M 62 40))) M') ∧ (w = 2 → Q (some (vi (M 62 41))) M') ∧ (w = 3 → Q (some (vi (min (M 62 42) n))) M') ∧ (w = 4 → Q (some (vi (if 0 ≤ M 62 42 ∧ M 62 42 < n then P (M 62 42) else -1))) M') ∧ (w = 5 → Q (some (vi (M 62 43))) M') ∧ (w = 6 → Q (some (vi (M 62 44))) M') ∧ (w = 7 → Q (some (vi (anF (M 64) (M 65) (M 66) (M 62 39) (M 62 40) (M 62 41) 1))) M') ∧ ((w < 0 ∨ 7 < w) → Q (some (vi (-1))) M'))
  | _ => False
set_option maxHeartbeats 4000000 in
set_option maxRecDepth 100000 in
theorem p_M_window : ∀ as M Q, (∀ v ∈ as, mm_vin v) → mm_mem M → t_M_window as M Q → (mm_ent as).length ≤ 3 ∧ mm_ok mb_M_window [(1153, t_M_plans), (1171, t_M_laysWindow), (1143, t_M_tellsOf)] (mm_entry 3 as) M Q := by
  intro as M Q hin hM h
  unfold t_M_window at h
  split at h
  rotate_left
  · exact h.elim
  rename_i o w
  have hR_w : mm_R w := hin (vi w) (by simp)
  refine ⟨by simp [mm_ent], (show mm_ok mb_M_window [(1153, t_M_plans), (1171, t_M_laysWindow), (1143, t_M_tellsOf)] [some (vr o), some (vi w), none] M Q from ?_)⟩
  intro J hJ
  obtain ⟨rfl, hr, hB, hw, o1, o2, b1, b2, h⟩ := h
  have hG := plG_tz M
  have g11 := hG.2 11 (by decide) (by decide) (by decide) (by decide) (by decide)
  have g12 := hG.2 12 (by decide) (by decide) (by decide) (by decide) (by decide)
  have g34 := hG.2 34 (by decide) (by decide) (by decide) (by decide) (by decide)
  have g8 := hG.2 8 (by decide) (by decide) (by decide) (by decide) (by decide)
  have hn := hB.2.1
  refine hJ 0 _ _ _ (show mm_wp _ _ _ mo_M_window_0 _ _ _ from ?_)
  simp only [mo_M_window_0, mm_wp, mm_ldi, mm_lda, mm_ldl, mm_sti, mm_sta, mm_stl, mm_inc, mm_2i, mm_mm, mm_2l, mm_lcmp, mm_i2l, mm_l2i, mm_cast8, mm_if1, mm_if2, mm_cmp, mm_swi, mm_sw, mm_pop1, mm_dup, mm_dup2, mm_geti, mm_geta, mm_puti, mm_iald, mm_bald, mm_aald, mm_iast, mm_bast, mm_alen, mm_acpy, mm_call, mm_callv, mm_recv, mm_pop, mm_find, mm_push, mm_cats, mm_cat, mm_reti, mm_retz, mm_retl, mm_reta, mm_retv, mm_set1, mm_set2, mm_kill, List.getElem?_cons_zero, List.getElem?_cons_succ, Int.reduceToNat, ↓reduceIte, Nat.reduceEqDiff, Nat.reduceDiv, Nat.reduceAdd, Nat.reduceLeDiff, Nat.zero_le, true_and, and_true, true_or, or_true, mm_b0, mm_b1, mm_lc_lt, mm_lc_le, mm_lc_gt, mm_lc_ge, mm_lc_eq, Int.not_lt, Int.not_le, Decidable.not_not, Int.sub_neg, c_0, c_1, c_2, l_2, c_3, c_4, l_4, c_5, l_5, c_6, l_6, c_7, l_7, c_8, c_9, l_9, c_10, l_10, c_11, l_11, c_12, l_12, c_13, c_14, l_14, c_15, l_15, c_16, l_16, c_17, l_17, c_18, c_19, l_19, c_20, l_20, c_21, l_21, c_22, l_22, c_23, c_24, l_24, c_25, l_25, c_26, c_27, c_28, l_28, c_29, c_30, l_30, c_31, c_32, l_32, c_33, l_33, c_34, l_34, c_35, l_35, c_36, l_36, c_37, l_37, c_38, l_38, c_39, l_39, c_40, c_41, l_41, c_42, c_43, c_44, l_44, c_45, c_46, l_46, c_47, c_48, l_48, c_49, l_49, c_50, l_50, c_51, l_51, c_52, l_52, c_53, l_53, c_54, l_54, c_55, l_55, c_56, l_56, c_57, l_57, c_58, l_58, c_59, l_59, c_60, l_60, c_61, l_61, c_62, c_63, l_63, c_64, l_64, c_65, l_65, c_66, l_66, c_67, l_67, c_68, l_68, c_69, l_69, c_70, l_70, c_71, l_71, c_72, l_72, c_73, l_73, c_74, l_74, c_75, l_75, c_76, l_76, t_M_plans]
  rw [show mm_up M 62 0 0 = tz M from rfl, g11, g12, g34, plG_w hG, plG_S hG, g8]
  refine ⟨plG_B hG hB, o1, o2, b1, b2, fun M1 hp hor hle => ?_⟩
  have n0 := hor.1
  have fj : ∀ j, j ≠ 0 → j ≠ 33 → M1 62 j = M 62 j := fun j a b => by rw [hp.2 j b, tz_i M a]
  have fo : ∀ o', o' ≠ 62 → o' ≠ 75 → M1 o' = M o' := fun o' a b => by rw [hp.1 o' a b, tz_o M a]
  obtain ⟨y0, y1, y2, y3, y4, y5, y6, -, y8⟩ := h M1 (M1 75) (M1 62 33) (fun o' a b _ _ => fo o' a b) fj hor
  have e39 := fj 39 (by decide) (by decide)
  have e40 := fj 40 (by decide) (by decide)
  have e41 := fj 41 (by decide) (by decide)
  have e42 := fj 42 (by decide) (by decide)
  have e43 := fj 43 (by decide) (by decide)
  have e44 := fj 44 (by decide) (by decide)
  have hw2 := hw
  unfold mW at hw2
  have hr1 : mR M1 := by
    unfold mR
    rw [fj 3 (by decide) (by decide), fj 5 (by decide) (by decide), fo 64 (by decide) (by decide), fo 65 (by decide) (by decide), fo 66 (by decide) (by decide)]
    exact hr
  have hw1 : mW M1 := by
    unfold mW
    rw [fj 3 (by decide) (by decide), fj 5 (by decide) (by decide), e39, e40, e41, e42, e43, e44]
    exact hw
  have h134 : w = 7 → ∀ x2, J 134 [some (vr 62), some (vi w), x2] [] M1 := by
    intro hz x2
    refine hJ 134 _ _ _ (show mm_wp _ _ _ mo_M_window_134 _ _ _ from ?_)
    simp only [mo_M_window_134, mm_wp, mm_ldi, mm_lda, mm_ldl, mm_sti, mm_sta, mm_stl, mm_inc, mm_2i, mm_mm, mm_2l, mm_lcmp, mm_i2l, mm_l2i, mm_cast8, mm_if1, mm_if2, mm_cmp, mm_swi, mm_sw, mm_pop1, mm_dup, mm_dup2, mm_geti, mm_geta, mm_puti, mm_iald, mm_bald, mm_aald, mm_iast, mm_bast, mm_alen, mm_acpy, mm_call, mm_callv, mm_recv, mm_pop, mm_find, mm_push, mm_cats, mm_cat, mm_reti, mm_retz, mm_retl, mm_reta, mm_retv, mm_set1, mm_set2, mm_kill, List.getElem?_cons_zero, List.getElem?_cons_succ, Int.reduceToNat, ↓reduceIte, Nat.reduceEqDiff, Nat.reduceDiv, Nat.reduceAdd, Nat.reduceLeDiff, Nat.zero_le, true_and, and_true, true_or, or_true, mm_b0, mm_b1, mm_lc_lt, mm_lc_le, mm_lc_gt, mm_lc_ge, mm_lc_eq, Int.not_lt, Int.not_le, Decidable.not_not, Int.sub_neg, c_0, c_1, c_2, l_2, c_3, c_4, l_4, c_5, l_5, c_6, l_6, c_7, l_7, c_8, c_9, l_9, c_10, l_10, c_11, l_11, c_12, l_12, c_13, c_14, l_14, c_15, l_15, c_16, l_16, c_17, l_17, c_18, c_19, l_19, c_20, l_20, c_21, l_21, c_22, l_22, c_23, c_24, l_24, c_25, l_25, c_26, c_27, c_28, l_28, c_29, c_30, l_30, c_31, c_32, l_32, c_33, l_33, c_34, l_34, c_35, l_35, c_36, l_36, c_37, l_37, c_38, l_38, c_39, l_39, c_40, c_41, l_41, c_42, c_43, c_44, l_44, c_45, c_46, l_46, c_47, c_48, l_48, c_49, l_49, c_50, l_50, c_51, l_51, c_52, l_52, c_53, l_53, c_54, l_54, c_55, l_55, c_56, l_56, c_57, l_57, c_58, l_58, c_59, l_59, c_60, l_60, c_61, l_61, c_62, c_63, l_63, c_64, l_64, c_65, l_65, c_66, l_66, c_67, l_67, c_68, l_68, c_69, l_69, c_70, l_70, c_71, l_71, c_72, l_72, c_73, l_73, c_74, l_74, c_75, l_75, c_76, l_76, t_M_laysWindow, t_M_tellsOf]
    refine ⟨hr1, hw1, fun M2 f2 g2 => ?_⟩
    rw [fo 64 (by decide) (by decide), fo 65 (by decide) (by decide), fo 66 (by decide) (by decide), e39, e40, e41] at g2
    refine ⟨fun v v0 v1 => ?_, by omega, by omega, fun M3 f3 => ?_⟩
    · rw [g2 v v0 v1]
      have := hsN_b (fun i => ca (M 64) (M 65) (M 66) i (M 62 41).toNat) (M 62 39) v (M 62 40 - M 62 39 + 1).toNat
      unfold mR at hr
      omega
    · have ht := tell_cong (k := 1) g2
      have hb9 : 0 ≤ tell (M2 73) 1 ∧ tell (M2 73) 1 ≤ 64 := by
        have := sN_b (f := fun v => mm_b (0 < M2 73 v)) (a := 0) (b := 1) 64 (fun k hk => mm_b_R _)
        simp only [tell, Int.reduceEq, ↓reduceIte]
        omega
      refine ⟨by omega, ?_⟩
      rw [ht]
      exact (h M3 (M1 75) (M1 62 33) (fun o' a b c d => by rw [f3 o' d, f2 o' c, fo o' a b]) (fun j a b => by rw [f3 62 (by decide), f2 62 (by decide), fj j a b]) hor).2.2.2.2.2.2.2.1 hz
  have h39 : J 39 [some (vr 62), some (vi w), none] [vi (min (M 62 42) (M1 62 33))] M1 := by
    have h122 : w = 4 → M1 62 33 ≤ M 62 42 → ∀ x2, J 122 [some (vr 62), some (vi w), x2] [] M1 := by
      intro hz hle x2
      have y4 := y4 hz
      rw [if_neg (by omega)] at y4
      have h123 : J 123 [some (vr 62), some (vi w), x2] [vi (-1)] M1 := by
        refine hJ 123 _ _ _ (show mm_wp _ _ _ mo_M_window_123 _ _ _ from ?_)
        simp only [mo_M_window_123, mm_wp, mm_ldi, mm_lda, mm_ldl, mm_sti, mm_sta, mm_stl, mm_inc, mm_2i, mm_mm, mm_2l, mm_lcmp, mm_i2l, mm_l2i, mm_cast8, mm_if1, mm_if2, mm_cmp, mm_swi, mm_sw, mm_pop1, mm_dup, mm_dup2, mm_geti, mm_geta, mm_puti, mm_iald, mm_bald, mm_aald, mm_iast, mm_bast, mm_alen, mm_acpy, mm_call, mm_callv, mm_recv, mm_pop, mm_find, mm_push, mm_cats, mm_cat, mm_reti, mm_retz, mm_retl, mm_reta, mm_retv, mm_set1, mm_set2, mm_kill, List.getElem?_cons_zero, List.getElem?_cons_succ, Int.reduceToNat, ↓reduceIte, Nat.reduceEqDiff, Nat.reduceDiv, Nat.reduceAdd, Nat.reduceLeDiff, Nat.zero_le, true_and, and_true, true_or, or_true, mm_b0, mm_b1, mm_lc_lt, mm_lc_le, mm_lc_gt, mm_lc_ge, mm_lc_eq, Int.not_lt, Int.not_le, Decidable.not_not, Int.sub_neg]
        exact y4
      refine hJ 122 _ _ _ (show mm_wp _ _ _ mo_M_window_122 _ _ _ from ?_)
      simp only [mo_M_window_122, mm_wp, mm_ldi, mm_lda, mm_ldl, mm_sti, mm_sta, mm_stl, mm_inc, mm_2i, mm_mm, mm_2l, mm_lcmp, mm_i2l, mm_l2i, mm_cast8, mm_if1, mm_if2, mm_cmp, mm_swi, mm_sw, mm_pop1, mm_dup, mm_dup2, mm_geti, mm_geta, mm_puti, mm_iald, mm_bald, mm_aald, mm_iast, mm_bast, mm_alen, mm_acpy, mm_call, mm_callv, mm_recv, mm_pop, mm_find, mm_push, mm_cats, mm_cat, mm_reti, mm_retz, mm_retl, mm_reta, mm_retv, mm_set1, mm_set2, mm_kill, List.getElem?_cons_zero, List.getElem?_cons_succ, Int.reduceToNat, ↓reduceIte, Nat.reduceEqDiff, Nat.reduceDiv, Nat.reduceAdd, Nat.reduceLeDiff, Nat.zero_le, true_and, and_true, true_or, or_true, mm_b0, mm_b1, mm_lc_lt, mm_lc_le, mm_lc_gt, mm_lc_ge, mm_lc_eq, Int.not_lt, Int.not_le, Decidable.not_not, Int.sub_neg]
      exact h123
    have h105 : w = 4 → J 105 [some (vr 62), some (vi w), some (vi (min (M 62 42) (M1 62 33)))] [] M1 := by
      intro hz
      have h123 : ∀ z, Q (some (vi z)) M1 → J 123 [some (vr 62), some (vi w), some (vi (min (M 62 42) (M1 62 33)))] [vi z] M1 := by
        intro z hz
        refine hJ 123 _ _ _ (show mm_wp _ _ _ mo_M_window_123 _ _ _ from ?_)
        simp only [mo_M_window_123, mm_wp, mm_ldi, mm_lda, mm_ldl, mm_sti, mm_sta, mm_stl, mm_inc, mm_2i, mm_mm, mm_2l, mm_lcmp, mm_i2l, mm_l2i, mm_cast8, mm_if1, mm_if2, mm_cmp, mm_swi, mm_sw, mm_pop1, mm_dup, mm_dup2, mm_geti, mm_geta, mm_puti, mm_iald, mm_bald, mm_aald, mm_iast, mm_bast, mm_alen, mm_acpy, mm_call, mm_callv, mm_recv, mm_pop, mm_find, mm_push, mm_cats, mm_cat, mm_reti, mm_retz, mm_retl, mm_reta, mm_retv, mm_set1, mm_set2, mm_kill, List.getElem?_cons_zero, List.getElem?_cons_succ, Int.reduceToNat, ↓reduceIte, Nat.reduceEqDiff, Nat.reduceDiv, Nat.reduceAdd, Nat.reduceLeDiff, Nat.zero_le, true_and, and_true, true_or, or_true, mm_b0, mm_b1, mm_lc_lt, mm_lc_le, mm_lc_gt, mm_lc_ge, mm_lc_eq, Int.not_lt, Int.not_le, Decidable.not_not, Int.sub_neg]
        exact hz
      refine hJ 105 _ _ _ (show mm_wp _ _ _ mo_M_window_105 _ _ _ from ?_)
      simp only [mo_M_window_105, mm_wp, mm_ldi, mm_lda, mm_ldl, mm_sti, mm_sta, mm_stl, mm_inc, mm_2i, mm_mm, mm_2l, mm_lcmp, mm_i2l, mm_l2i, mm_cast8, mm_if1, mm_if2, mm_cmp, mm_swi, mm_sw, mm_pop1, mm_dup, mm_dup2, mm_geti, mm_geta, mm_puti, mm_iald, mm_bald, mm_aald, mm_iast, mm_bast, mm_alen, mm_acpy, mm_call, mm_callv, mm_recv, mm_pop, mm_find, mm_push, mm_cats, mm_cat, mm_reti, mm_retz, mm_retl, mm_reta, mm_retv, mm_set1, mm_set2, mm_kill, List.getElem?_cons_zero, List.getElem?_cons_succ, Int.reduceToNat, ↓reduceIte, Nat.reduceEqDiff, Nat.reduceDiv, Nat.reduceAdd, Nat.reduceLeDiff, Nat.zero_le, true_and, and_true, true_or, or_true, mm_b0, mm_b1, mm_lc_lt, mm_lc_le, mm_lc_gt, mm_lc_ge, mm_lc_eq, Int.not_lt, Int.not_le, Decidable.not_not, Int.sub_neg, c_0, c_1, c_2, l_2, c_3, c_4, l_4, c_5, l_5, c_6, l_6, c_7, l_7, c_8, c_9, l_9, c_10, l_10, c_11, l_11, c_12, l_12, c_13, c_14, l_14, c_15, l_15, c_16, l_16, c_17, l_17, c_18, c_19, l_19, c_20, l_20, c_21, l_21, c_22, l_22, c_23, c_24, l_24, c_25, l_25, c_26, c_27, c_28, l_28, c_29, c_30, l_30, c_31, c_32, l_32, c_33, l_33, c_34, l_34, c_35, l_35, c_36, l_36, c_37, l_37, c_38, l_38, c_39, l_39, c_40, c_41, l_41, c_42, c_43, c_44, l_44, c_45, c_46, l_46, c_47, c_48, l_48, c_49, l_49, c_50, l_50, c_51, l_51, c_52, l_52, c_53, l_53, c_54, l_54, c_55, l_55, c_56, l_56, c_57, l_57, c_58, l_58, c_59, l_59, c_60, l_60, c_61, l_61, c_62, c_63, l_63, c_64, l_64, c_65, l_65, c_66, l_66, c_67, l_67, c_68, l_68, c_69, l_69, c_70, l_70, c_71, l_71, c_72, l_72, c_73, l_73, c_74, l_74, c_75, l_75, c_76, l_76]
      refine ⟨fun z => h122 hz (by omega) _, fun z => ⟨by omega, h123 _ ?_⟩⟩
      have y4 := y4 hz
      rw [if_pos (by omega)] at y4
      rw [show min (M 62 42) (M1 62 33) = M 62 42 by omega]
      exact y4
    generalize min (M 62 42) (M1 62 33) = m at *
    repeat' first | (refine And.intro ?_ ?_) | (intro _) | (refine hJ 39 _ _ _ ?_; show mm_wp _ _ _ mo_M_window_39 _ _ _; simp only [mo_M_window_39, mm_wp, mm_ldi, mm_lda, mm_ldl, mm_sti, mm_sta, mm_stl, mm_inc, mm_2i, mm_mm, mm_2l, mm_lcmp, mm_i2l, mm_l2i, mm_cast8, mm_if1, mm_if2, mm_cmp, mm_swi, mm_sw, mm_pop1, mm_dup, mm_dup2, mm_geti, mm_geta, mm_puti, mm_iald, mm_bald, mm_aald, mm_iast, mm_bast, mm_alen, mm_acpy, mm_call, mm_callv, mm_recv, mm_pop, mm_find, mm_push, mm_cats, mm_cat, mm_reti, mm_retz, mm_retl, mm_reta, mm_retv, mm_set1, mm_set2, mm_kill, List.getElem?_cons_zero, List.getElem?_cons_succ, Int.reduceToNat, ↓reduceIte, Nat.reduceEqDiff, Nat.reduceDiv, Nat.reduceAdd, Nat.reduceLeDiff, Nat.zero_le, true_and, and_true, true_or, or_true, mm_b0, mm_b1, mm_lc_lt, mm_lc_le, mm_lc_gt, mm_lc_ge, mm_lc_eq, Int.not_lt, Int.not_le, Decidable.not_not, Int.sub_neg, c_0, c_1, c_2, l_2, c_3, c_4, l_4, c_5, l_5, c_6, l_6, c_7, l_7, c_8, c_9, l_9, c_10, l_10, c_11, l_11, c_12, l_12, c_13, c_14, l_14, c_15, l_15, c_16, l_16, c_17, l_17, c_18, c_19, l_19, c_20, l_20, c_21, l_21, c_22, l_22, c_23, c_24, l_24, c_25, l_25, c_26, c_27, c_28, l_28, c_29, c_30, l_30, c_31, c_32, l_32, c_33, l_33, c_34, l_34, c_35, l_35, c_36, l_36, c_37, l_37, c_38, l_38, c_39, l_39, c_40, c_41, l_41, c_42, c_43, c_44, l_44, c_45, c_46, l_46, c_47, c_48, l_48, c_49, l_49, c_50, l_50, c_51, l_51, c_52, l_52, c_53, l_53, c_54, l_54, c_55, l_55, c_56, l_56, c_57, l_57, c_58, l_58, c_59, l_59, c_60, l_60, c_61, l_61, c_62, c_63, l_63, c_64, l_64, c_65, l_65, c_66, l_66, c_67, l_67, c_68, l_68, c_69, l_69, c_70, l_70, c_71, l_71, c_72, l_72, c_73, l_73, c_74, l_74, c_75, l_75, c_76, l_76, e39, e40, e41, e43, e44]) | (refine hJ 88 _ _ _ ?_; show mm_wp _ _ _ mo_M_window_88 _ _ _; simp only [mo_M_window_88, mm_wp, mm_ldi, mm_lda, mm_ldl, mm_sti, mm_sta, mm_stl, mm_inc, mm_2i, mm_mm, mm_2l, mm_lcmp, mm_i2l, mm_l2i, mm_cast8, mm_if1, mm_if2, mm_cmp, mm_swi, mm_sw, mm_pop1, mm_dup, mm_dup2, mm_geti, mm_geta, mm_puti, mm_iald, mm_bald, mm_aald, mm_iast, mm_bast, mm_alen, mm_acpy, mm_call, mm_callv, mm_recv, mm_pop, mm_find, mm_push, mm_cats, mm_cat, mm_reti, mm_retz, mm_retl, mm_reta, mm_retv, mm_set1, mm_set2, mm_kill, List.getElem?_cons_zero, List.getElem?_cons_succ, Int.reduceToNat, ↓reduceIte, Nat.reduceEqDiff, Nat.reduceDiv, Nat.reduceAdd, Nat.reduceLeDiff, Nat.zero_le, true_and, and_true, true_or, or_true, mm_b0, mm_b1, mm_lc_lt, mm_lc_le, mm_lc_gt, mm_lc_ge, mm_lc_eq, Int.not_lt, Int.not_le, Decidable.not_not, Int.sub_neg, c_0, c_1, c_2, l_2, c_3, c_4, l_4, c_5, l_5, c_6, l_6, c_7, l_7, c_8, c_9, l_9, c_10, l_10, c_11, l_11, c_12, l_12, c_13, c_14, l_14, c_15, l_15, c_16, l_16, c_17, l_17, c_18, c_19, l_19, c_20, l_20, c_21, l_21, c_22, l_22, c_23, c_24, l_24, c_25, l_25, c_26, c_27, c_28, l_28, c_29, c_30, l_30, c_31, c_32, l_32, c_33, l_33, c_34, l_34, c_35, l_35, c_36, l_36, c_37, l_37, c_38, l_38, c_39, l_39, c_40, c_41, l_41, c_42, c_43, c_44, l_44, c_45, c_46, l_46, c_47, c_48, l_48, c_49, l_49, c_50, l_50, c_51, l_51, c_52, l_52, c_53, l_53, c_54, l_54, c_55, l_55, c_56, l_56, c_57, l_57, c_58, l_58, c_59, l_59, c_60, l_60, c_61, l_61, c_62, c_63, l_63, c_64, l_64, c_65, l_65, c_66, l_66, c_67, l_67, c_68, l_68, c_69, l_69, c_70, l_70, c_71, l_71, c_72, l_72, c_73, l_73, c_74, l_74, c_75, l_75, c_76, l_76, e39, e40, e41, e43, e44]) | (refine hJ 93 _ _ _ ?_; show mm_wp _ _ _ mo_M_window_93 _ _ _; simp only [mo_M_window_93, mm_wp, mm_ldi, mm_lda, mm_ldl, mm_sti, mm_sta, mm_stl, mm_inc, mm_2i, mm_mm, mm_2l, mm_lcmp, mm_i2l, mm_l2i, mm_cast8, mm_if1, mm_if2, mm_cmp, mm_swi, mm_sw, mm_pop1, mm_dup, mm_dup2, mm_geti, mm_geta, mm_puti, mm_iald, mm_bald, mm_aald, mm_iast, mm_bast, mm_alen, mm_acpy, mm_call, mm_callv, mm_recv, mm_pop, mm_find, mm_push, mm_cats, mm_cat, mm_reti, mm_retz, mm_retl, mm_reta, mm_retv, mm_set1, mm_set2, mm_kill, List.getElem?_cons_zero, List.getElem?_cons_succ, Int.reduceToNat, ↓reduceIte, Nat.reduceEqDiff, Nat.reduceDiv, Nat.reduceAdd, Nat.reduceLeDiff, Nat.zero_le, true_and, and_true, true_or, or_true, mm_b0, mm_b1, mm_lc_lt, mm_lc_le, mm_lc_gt, mm_lc_ge, mm_lc_eq, Int.not_lt, Int.not_le, Decidable.not_not, Int.sub_neg, c_0, c_1, c_2, l_2, c_3, c_4, l_4, c_5, l_5, c_6, l_6, c_7, l_7, c_8, c_9, l_9, c_10, l_10, c_11, l_11, c_12, l_12, c_13, c_14, l_14, c_15, l_15, c_16, l_16, c_17, l_17, c_18, c_19, l_19, c_20, l_20, c_21, l_21, c_22, l_22, c_23, c_24, l_24, c_25, l_25, c_26, c_27, c_28, l_28, c_29, c_30, l_30, c_31, c_32, l_32, c_33, l_33, c_34, l_34, c_35, l_35, c_36, l_36, c_37, l_37, c_38, l_38, c_39, l_39, c_40, c_41, l_41, c_42, c_43, c_44, l_44, c_45, c_46, l_46, c_47, c_48, l_48, c_49, l_49, c_50, l_50, c_51, l_51, c_52, l_52, c_53, l_53, c_54, l_54, c_55, l_55, c_56, l_56, c_57, l_57, c_58, l_58, c_59, l_59, c_60, l_60, c_61, l_61, c_62, c_63, l_63, c_64, l_64, c_65, l_65, c_66, l_66, c_67, l_67, c_68, l_68, c_69, l_69, c_70, l_70, c_71, l_71, c_72, l_72, c_73, l_73, c_74, l_74, c_75, l_75, c_76, l_76, e39, e40, e41, e43, e44]) | (refine hJ 98 _ _ _ ?_; show mm_wp _ _ _ mo_M_window_98 _ _ _; simp only [mo_M_window_98, mm_wp, mm_ldi, mm_lda, mm_ldl, mm_sti, mm_sta, mm_stl, mm_inc, mm_2i, mm_mm, mm_2l, mm_lcmp, mm_i2l, mm_l2i, mm_cast8, mm_if1, mm_if2, mm_cmp, mm_swi, mm_sw, mm_pop1, mm_dup, mm_dup2, mm_geti, mm_geta, mm_puti, mm_iald, mm_bald, mm_aald, mm_iast, mm_bast, mm_alen, mm_acpy, mm_call, mm_callv, mm_recv, mm_pop, mm_find, mm_push, mm_cats, mm_cat, mm_reti, mm_retz, mm_retl, mm_reta, mm_retv, mm_set1, mm_set2, mm_kill, List.getElem?_cons_zero, List.getElem?_cons_succ, Int.reduceToNat, ↓reduceIte, Nat.reduceEqDiff, Nat.reduceDiv, Nat.reduceAdd, Nat.reduceLeDiff, Nat.zero_le, true_and, and_true, true_or, or_true, mm_b0, mm_b1, mm_lc_lt, mm_lc_le, mm_lc_gt, mm_lc_ge, mm_lc_eq, Int.not_lt, Int.not_le, Decidable.not_not, Int.sub_neg, c_0, c_1, c_2, l_2, c_3, c_4, l_4, c_5, l_5, c_6, l_6, c_7, l_7, c_8, c_9, l_9, c_10, l_10, c_11, l_11, c_12, l_12, c_13, c_14, l_14, c_15, l_15, c_16, l_16, c_17, l_17, c_18, c_19, l_19, c_20, l_20, c_21, l_21, c_22, l_22, c_23, c_24, l_24, c_25, l_25, c_26, c_27, c_28, l_28, c_29, c_30, l_30, c_31, c_32, l_32, c_33, l_33, c_34, l_34, c_35, l_35, c_36, l_36, c_37, l_37, c_38, l_38, c_39, l_39, c_40, c_41, l_41, c_42, c_43, c_44, l_44, c_45, c_46, l_46, c_47, c_48, l_48, c_49, l_49, c_50, l_50, c_51, l_51, c_52, l_52, c_53, l_53, c_54, l_54, c_55, l_55, c_56, l_56, c_57, l_57, c_58, l_58, c_59, l_59, c_60, l_60, c_61, l_61, c_62, c_63, l_63, c_64, l_64, c_65, l_65, c_66, l_66, c_67, l_67, c_68, l_68, c_69, l_69, c_70, l_70, c_71, l_71, c_72, l_72, c_73, l_73, c_74, l_74, c_75, l_75, c_76, l_76, e39, e40, e41, e43, e44]) | (refine hJ 103 _ _ _ ?_; show mm_wp _ _ _ mo_M_window_103 _ _ _; simp only [mo_M_window_103, mm_wp, mm_ldi, mm_lda, mm_ldl, mm_sti, mm_sta, mm_stl, mm_inc, mm_2i, mm_mm, mm_2l, mm_lcmp, mm_i2l, mm_l2i, mm_cast8, mm_if1, mm_if2, mm_cmp, mm_swi, mm_sw, mm_pop1, mm_dup, mm_dup2, mm_geti, mm_geta, mm_puti, mm_iald, mm_bald, mm_aald, mm_iast, mm_bast, mm_alen, mm_acpy, mm_call, mm_callv, mm_recv, mm_pop, mm_find, mm_push, mm_cats, mm_cat, mm_reti, mm_retz, mm_retl, mm_reta, mm_retv, mm_set1, mm_set2, mm_kill, List.getElem?_cons_zero, List.getElem?_cons_succ, Int.reduceToNat, ↓reduceIte, Nat.reduceEqDiff, Nat.reduceDiv, Nat.reduceAdd, Nat.reduceLeDiff, Nat.zero_le, true_and, and_true, true_or, or_true, mm_b0, mm_b1, mm_lc_lt, mm_lc_le, mm_lc_gt, mm_lc_ge, mm_lc_eq, Int.not_lt, Int.not_le, Decidable.not_not, Int.sub_neg, c_0, c_1, c_2, l_2, c_3, c_4, l_4, c_5, l_5, c_6, l_6, c_7, l_7, c_8, c_9, l_9, c_10, l_10, c_11, l_11, c_12, l_12, c_13, c_14, l_14, c_15, l_15, c_16, l_16, c_17, l_17, c_18, c_19, l_19, c_20, l_20, c_21, l_21, c_22, l_22, c_23, c_24, l_24, c_25, l_25, c_26, c_27, c_28, l_28, c_29, c_30, l_30, c_31, c_32, l_32, c_33, l_33, c_34, l_34, c_35, l_35, c_36, l_36, c_37, l_37, c_38, l_38, c_39, l_39, c_40, c_41, l_41, c_42, c_43, c_44, l_44, c_45, c_46, l_46, c_47, c_48, l_48, c_49, l_49, c_50, l_50, c_51, l_51, c_52, l_52, c_53, l_53, c_54, l_54, c_55, l_55, c_56, l_56, c_57, l_57, c_58, l_58, c_59, l_59, c_60, l_60, c_61, l_61, c_62, c_63, l_63, c_64, l_64, c_65, l_65, c_66, l_66, c_67, l_67, c_68, l_68, c_69, l_69, c_70, l_70, c_71, l_71, c_72, l_72, c_73, l_73, c_74, l_74, c_75, l_75, c_76, l_76, e39, e40, e41, e43, e44]) | (refine hJ 124 _ _ _ ?_; show mm_wp _ _ _ mo_M_window_124 _ _ _; simp only [mo_M_window_124, mm_wp, mm_ldi, mm_lda, mm_ldl, mm_sti, mm_sta, mm_stl, mm_inc, mm_2i, mm_mm, mm_2l, mm_lcmp, mm_i2l, mm_l2i, mm_cast8, mm_if1, mm_if2, mm_cmp, mm_swi, mm_sw, mm_pop1, mm_dup, mm_dup2, mm_geti, mm_geta, mm_puti, mm_iald, mm_bald, mm_aald, mm_iast, mm_bast, mm_alen, mm_acpy, mm_call, mm_callv, mm_recv, mm_pop, mm_find, mm_push, mm_cats, mm_cat, mm_reti, mm_retz, mm_retl, mm_reta, mm_retv, mm_set1, mm_set2, mm_kill, List.getElem?_cons_zero, List.getElem?_cons_succ, Int.reduceToNat, ↓reduceIte, Nat.reduceEqDiff, Nat.reduceDiv, Nat.reduceAdd, Nat.reduceLeDiff, Nat.zero_le, true_and, and_true, true_or, or_true, mm_b0, mm_b1, mm_lc_lt, mm_lc_le, mm_lc_gt, mm_lc_ge, mm_lc_eq, Int.not_lt, Int.not_le, Decidable.not_not, Int.sub_neg, c_0, c_1, c_2, l_2, c_3, c_4, l_4, c_5, l_5, c_6, l_6, c_7, l_7, c_8, c_9, l_9, c_10, l_10, c_11, l_11, c_12, l_12, c_13, c_14, l_14, c_15, l_15, c_16, l_16, c_17, l_17, c_18, c_19, l_19, c_20, l_20, c_21, l_21, c_22, l_22, c_23, c_24, l_24, c_25, l_25, c_26, c_27, c_28, l_28, c_29, c_30, l_30, c_31, c_32, l_32, c_33, l_33, c_34, l_34, c_35, l_35, c_36, l_36, c_37, l_37, c_38, l_38, c_39, l_39, c_40, c_41, l_41, c_42, c_43, c_44, l_44, c_45, c_46, l_46, c_47, c_48, l_48, c_49, l_49, c_50, l_50, c_51, l_51, c_52, l_52, c_53, l_53, c_54, l_54, c_55, l_55, c_56, l_56, c_57, l_57, c_58, l_58, c_59, l_59, c_60, l_60, c_61, l_61, c_62, c_63, l_63, c_64, l_64, c_65, l_65, c_66, l_66, c_67, l_67, c_68, l_68, c_69, l_69, c_70, l_70, c_71, l_71, c_72, l_72, c_73, l_73, c_74, l_74, c_75, l_75, c_76, l_76, e39, e40, e41, e43, e44]) | (refine hJ 129 _ _ _ ?_; show mm_wp _ _ _ mo_M_window_129 _ _ _; simp only [mo_M_window_129, mm_wp, mm_ldi, mm_lda, mm_ldl, mm_sti, mm_sta, mm_stl, mm_inc, mm_2i, mm_mm, mm_2l, mm_lcmp, mm_i2l, mm_l2i, mm_cast8, mm_if1, mm_if2, mm_cmp, mm_swi, mm_sw, mm_pop1, mm_dup, mm_dup2, mm_geti, mm_geta, mm_puti, mm_iald, mm_bald, mm_aald, mm_iast, mm_bast, mm_alen, mm_acpy, mm_call, mm_callv, mm_recv, mm_pop, mm_find, mm_push, mm_cats, mm_cat, mm_reti, mm_retz, mm_retl, mm_reta, mm_retv, mm_set1, mm_set2, mm_kill, List.getElem?_cons_zero, List.getElem?_cons_succ, Int.reduceToNat, ↓reduceIte, Nat.reduceEqDiff, Nat.reduceDiv, Nat.reduceAdd, Nat.reduceLeDiff, Nat.zero_le, true_and, and_true, true_or, or_true, mm_b0, mm_b1, mm_lc_lt, mm_lc_le, mm_lc_gt, mm_lc_ge, mm_lc_eq, Int.not_lt, Int.not_le, Decidable.not_not, Int.sub_neg, c_0, c_1, c_2, l_2, c_3, c_4, l_4, c_5, l_5, c_6, l_6, c_7, l_7, c_8, c_9, l_9, c_10, l_10, c_11, l_11, c_12, l_12, c_13, c_14, l_14, c_15, l_15, c_16, l_16, c_17, l_17, c_18, c_19, l_19, c_20, l_20, c_21, l_21, c_22, l_22, c_23, c_24, l_24, c_25, l_25, c_26, c_27, c_28, l_28, c_29, c_30, l_30, c_31, c_32, l_32, c_33, l_33, c_34, l_34, c_35, l_35, c_36, l_36, c_37, l_37, c_38, l_38, c_39, l_39, c_40, c_41, l_41, c_42, c_43, c_44, l_44, c_45, c_46, l_46, c_47, c_48, l_48, c_49, l_49, c_50, l_50, c_51, l_51, c_52, l_52, c_53, l_53, c_54, l_54, c_55, l_55, c_56, l_56, c_57, l_57, c_58, l_58, c_59, l_59, c_60, l_60, c_61, l_61, c_62, c_63, l_63, c_64, l_64, c_65, l_65, c_66, l_66, c_67, l_67, c_68, l_68, c_69, l_69, c_70, l_70, c_71, l_71, c_72, l_72, c_73, l_73, c_74, l_74, c_75, l_75, c_76, l_76, e39, e40, e41, e43, e44]) | (refine hJ 145 _ _ _ ?_; show mm_wp _ _ _ mo_M_window_145 _ _ _; simp only [mo_M_window_145, mm_wp, mm_ldi, mm_lda, mm_ldl, mm_sti, mm_sta, mm_stl, mm_inc, mm_2i, mm_mm, mm_2l, mm_lcmp, mm_i2l, mm_l2i, mm_cast8, mm_if1, mm_if2, mm_cmp, mm_swi, mm_sw, mm_pop1, mm_dup, mm_dup2, mm_geti, mm_geta, mm_puti, mm_iald, mm_bald, mm_aald, mm_iast, mm_bast, mm_alen, mm_acpy, mm_call, mm_callv, mm_recv, mm_pop, mm_find, mm_push, mm_cats, mm_cat, mm_reti, mm_retz, mm_retl, mm_reta, mm_retv, mm_set1, mm_set2, mm_kill, List.getElem?_cons_zero, List.getElem?_cons_succ, Int.reduceToNat, ↓reduceIte, Nat.reduceEqDiff, Nat.reduceDiv, Nat.reduceAdd, Nat.reduceLeDiff, Nat.zero_le, true_and, and_true, true_or, or_true, mm_b0, mm_b1, mm_lc_lt, mm_lc_le, mm_lc_gt, mm_lc_ge, mm_lc_eq, Int.not_lt, Int.not_le, Decidable.not_not, Int.sub_neg, c_0, c_1, c_2, l_2, c_3, c_4, l_4, c_5, l_5, c_6, l_6, c_7, l_7, c_8, c_9, l_9, c_10, l_10, c_11, l_11, c_12, l_12, c_13, c_14, l_14, c_15, l_15, c_16, l_16, c_17, l_17, c_18, c_19, l_19, c_20, l_20, c_21, l_21, c_22, l_22, c_23, c_24, l_24, c_25, l_25, c_26, c_27, c_28, l_28, c_29, c_30, l_30, c_31, c_32, l_32, c_33, l_33, c_34, l_34, c_35, l_35, c_36, l_36, c_37, l_37, c_38, l_38, c_39, l_39, c_40, c_41, l_41, c_42, c_43, c_44, l_44, c_45, c_46, l_46, c_47, c_48, l_48, c_49, l_49, c_50, l_50, c_51, l_51, c_52, l_52, c_53, l_53, c_54, l_54, c_55, l_55, c_56, l_56, c_57, l_57, c_58, l_58, c_59, l_59, c_60, l_60, c_61, l_61, c_62, c_63, l_63, c_64, l_64, c_65, l_65, c_66, l_66, c_67, l_67, c_68, l_68, c_69, l_69, c_70, l_70, c_71, l_71, c_72, l_72, c_73, l_73, c_74, l_74, c_75, l_75, c_76, l_76, e39, e40, e41, e43, e44])
    all_goals first | assumption | (exact Or.inl rfl) | (exact Or.inr rfl) | (exact rfl) | trivial | omega | (exact y0 (by omega)) | (exact y1 (by omega)) | (exact y2 (by omega)) | (exact y3 (by omega)) | (exact h105 (by omega)) | (exact y5 (by omega)) | (exact y6 (by omega)) | (exact h134 (by omega) _) | (exact y8 (by omega))
  have h35 : M1 62 33 ≤ M 62 42 → J 35 [some (vr 62), some (vi w), none] [] M1 := by
    intro hz
    rw [show min (M 62 42) (M1 62 33) = M1 62 33 by omega] at h39
    refine hJ 35 _ _ _ (show mm_wp _ _ _ mo_M_window_35 _ _ _ from ?_)
    simp only [mo_M_window_35, mm_wp, mm_ldi, mm_lda, mm_ldl, mm_sti, mm_sta, mm_stl, mm_inc, mm_2i, mm_mm, mm_2l, mm_lcmp, mm_i2l, mm_l2i, mm_cast8, mm_if1, mm_if2, mm_cmp, mm_swi, mm_sw, mm_pop1, mm_dup, mm_dup2, mm_geti, mm_geta, mm_puti, mm_iald, mm_bald, mm_aald, mm_iast, mm_bast, mm_alen, mm_acpy, mm_call, mm_callv, mm_recv, mm_pop, mm_find, mm_push, mm_cats, mm_cat, mm_reti, mm_retz, mm_retl, mm_reta, mm_retv, mm_set1, mm_set2, mm_kill, List.getElem?_cons_zero, List.getElem?_cons_succ, Int.reduceToNat, ↓reduceIte, Nat.reduceEqDiff, Nat.reduceDiv, Nat.reduceAdd, Nat.reduceLeDiff, Nat.zero_le, true_and, and_true, true_or, or_true, mm_b0, mm_b1, mm_lc_lt, mm_lc_le, mm_lc_gt, mm_lc_ge, mm_lc_eq, Int.not_lt, Int.not_le, Decidable.not_not, Int.sub_neg, c_0, c_1, c_2, l_2, c_3, c_4, l_4, c_5, l_5, c_6, l_6, c_7, l_7, c_8, c_9, l_9, c_10, l_10, c_11, l_11, c_12, l_12, c_13, c_14, l_14, c_15, l_15, c_16, l_16, c_17, l_17, c_18, c_19, l_19, c_20, l_20, c_21, l_21, c_22, l_22, c_23, c_24, l_24, c_25, l_25, c_26, c_27, c_28, l_28, c_29, c_30, l_30, c_31, c_32, l_32, c_33, l_33, c_34, l_34, c_35, l_35, c_36, l_36, c_37, l_37, c_38, l_38, c_39, l_39, c_40, c_41, l_41, c_42, c_43, c_44, l_44, c_45, c_46, l_46, c_47, c_48, l_48, c_49, l_49, c_50, l_50, c_51, l_51, c_52, l_52, c_53, l_53, c_54, l_54, c_55, l_55, c_56, l_56, c_57, l_57, c_58, l_58, c_59, l_59, c_60, l_60, c_61, l_61, c_62, c_63, l_63, c_64, l_64, c_65, l_65, c_66, l_66, c_67, l_67, c_68, l_68, c_69, l_69, c_70, l_70, c_71, l_71, c_72, l_72, c_73, l_73, c_74, l_74, c_75, l_75, c_76, l_76]
    exact h39
  rw [e42]
  refine ⟨fun z => h35 z, fun z => ?_⟩
  rw [show min (M 62 42) (M1 62 33) = M 62 42 by omega] at h39
  exact h39
