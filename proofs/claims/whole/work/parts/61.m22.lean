/-! the reference's text, beside the planner's -/
def txA (M M' : mmM) : Prop := (∀ o', o' ≠ 62 → o' ≠ 68 → o' ≠ 69 → o' ≠ 70 → o' ≠ 71 → M' o' = M o') ∧ (∀ j, j ≠ 0 → j ≠ 2 → (j < 13 ∨ 27 < j) → M' 62 j = M 62 j) ∧ M' 62 2 = 0
def txB (A M M' : mmM) : Prop := (∀ o', o' < 62 ∨ o' = 63 ∨ 71 < o' → M' o' = M o') ∧ M' 62 34 = M 62 34 ∧ M' 62 2 = 0 ∧ M' 62 3 = A 3 4 ∧ M' 62 5 = A 3 5 ∧ M' 62 8 = A 8 4 ∧ (∀ i, 0 ≤ i → i < A 3 4 → M' 64 i = A 4 i) ∧ (∀ k, 0 ≤ k → k < A 3 5 → M' 65 k = A 5 k ∧ M' 66 k = A 6 k) ∧ (∀ q, 0 ≤ q → q < A 8 4 → M' 67 (4 * q) = A 9 q ∧ M' 67 (4 * q + 1) = A 10 q ∧ M' 67 (4 * q + 2) = A 11 q ∧ M' 67 (4 * q + 3) = A 12 q) ∧ M' 62 10 = 1 ∧ M' 62 11 = 1 ∧ M' 62 12 = 4 ∧ M' 62 39 = 0 ∧ M' 62 40 = -1 ∧ M' 62 41 = 0 ∧ M' 62 42 = 0 ∧ M' 62 43 = 0 ∧ M' 62 44 = 0 ∧ M' 62 29 = 0
def t_M_text : mmT := fun as M Q => match as with
  | [.inr (.inr o), .inl n] => o = 62 ∧ 0 ≤ M 62 2 ∧ M 62 2 ≤ 600 ∧ (¬ (0 ≤ n ∧ n ≤ M 62 2) → Q (some (vi (-1))) (tz M)) ∧ ((0 ≤ n ∧ n ≤ M 62 2) → ∃ N, tpE N M ∧ ((txF N n).1 < 0 → ∀ M', txA M M' → Q (some (vi (txF N n).1)) M') ∧ (0 ≤ (txF N n).1 → ∀ M', txB (txF N n).2 M M' → Q (some (vi (txF N n).1)) M'))
  | _ => False
set_option maxHeartbeats 4000000 in
set_option maxRecDepth 100000 in
theorem p_M_text : ∀ as M Q, (∀ v ∈ as, mm_vin v) → mm_mem M → t_M_text as M Q → (mm_ent as).length ≤ 4 ∧ mm_ok mb_M_text [(1102, t_M_within), (1108, t_M_go), (1122, t_M_line), (1110, t_M_isSign), (1109, t_M_wrong), (1124, t_M_takes)] (mm_entry 4 as) M Q := by
  intro as M Q hin hM h
  unfold t_M_text at h
  split at h
  rotate_left
  · exact h.elim
  rename_i o n
  have hR_n : mm_R n := hin (vi n) (by simp)
  refine ⟨by simp [mm_ent], (show mm_ok mb_M_text [(1102, t_M_within), (1108, t_M_go), (1122, t_M_line), (1110, t_M_isSign), (1109, t_M_wrong), (1124, t_M_takes)] [some (vr o), some (vi n), none, none] M Q from ?_)⟩
  intro J hJ
  obtain ⟨rfl, t0, t1, hN, hY⟩ := h
  have h21 : (0 ≤ n ∧ n ≤ M 62 2) → J 21 [some (vr 62), some (vi n), none, none] [] (tz M) := by
    intro hc
    obtain ⟨N, ht, hneg, hpos⟩ := hY hc
    unfold txF at hneg hpos
    generalize hX : rdF 600 1 (nxM (rdZ N n)) = X at hneg hpos
    generalize hM0 : mm_up (mm_up (mm_up (mm_up (mm_up (mm_up (mm_up (tz M) 62 20 n) 62 2 0) 62 22 0) 62 26 0) 62 13 0) 62 15 0) 62 18 0 = M0
    have zo : ∀ o, o ≠ 62 → M0 o = M o := fun o c => by rw [← hM0]; simp only [mm_up_o _ _ c, tz_o M c]
    have zj : ∀ j, j ≠ 0 → j ≠ 2 → (j < 13 ∨ 27 < j) → M0 62 j = M 62 j := fun j a b c => by
      rw [← hM0, mm_up_i _ (by omega), mm_up_i _ (by omega), mm_up_i _ (by omega), mm_up_i _ (by omega), mm_up_i _ (by omega), mm_up_i _ b, mm_up_i _ (by omega), tz_i M a]
    have z2 : M0 62 2 = 0 := by rw [← hM0]; simp [mm_up]
    have z20 : M0 62 20 = n := by rw [← hM0]; simp [mm_up]
    have z22 : M0 62 22 = 0 := by rw [← hM0]; simp [mm_up]
    have z26 : M0 62 26 = 0 := by rw [← hM0]; simp [mm_up]
    have z13 : M0 62 13 = 0 := by rw [← hM0]; simp [mm_up]
    have z15 : M0 62 15 = 0 := by rw [← hM0]; simp [mm_up]
    have z18 : M0 62 18 = 0 := by rw [← hM0]; simp [mm_up]
    have r14 : rdZ N n 1 4 = n := by unfold rdZ; rw [mm_up_i _ (by decide), mm_up_s]
    have r17 : rdZ N n 1 7 = 0 := by unfold rdZ; rw [mm_up_s]
    have r2 : rdZ N n 2 = N 2 := by unfold rdZ; simp only [mm_up_o _ _ (show (2 : Nat) ≠ 1 by decide), mm_up_o _ _ (show (2 : Nat) ≠ 8 by decide), mm_up_o _ _ (show (2 : Nat) ≠ 3 by decide)]
    have r34 : rdZ N n 3 4 = 0 := by unfold rdZ; rw [mm_up_o _ _ (by decide), mm_up_o _ _ (by decide), mm_up_o _ _ (by decide), mm_up_i _ (by decide), mm_up_s]
    have r35 : rdZ N n 3 5 = 0 := by unfold rdZ; rw [mm_up_o _ _ (by decide), mm_up_o _ _ (by decide), mm_up_o _ _ (by decide), mm_up_s]
    have r84 : rdZ N n 8 4 = 0 := by unfold rdZ; rw [mm_up_o _ _ (by decide), mm_up_o _ _ (by decide), mm_up_s]
    have hdI : rdI (rdZ N n) := rdZ_i hc.1 (by omega)
    have hP0 : rdP (rdZ N n) M0 := ⟨hdI, by rw [z20, r14], by rw [z22, r17], fun i i0 i1 => by rw [zo 63 (by decide), r2]; exact ht i i0 i1⟩
    have hQ0 : rdQ (rdZ N n) M0 := ⟨rdZ_S, by rw [z13, r34], by rw [z15, r35], by rw [z18, r84], fun i i0 i1 => by omega, fun k k0 k1 => by omega, fun q q0 q1 => by omega⟩
    have hA : ∀ M1, rlG M0 M1 → txA M M1 := fun M1 hg => ⟨fun o' a b c d e => by rw [hg.1 o' a b c d e, zo o' a], fun j a b c => by rw [hg.2 j (by omega), zj j a b c], by rw [hg.2 2 (by omega), z2]⟩
    have h112 : ∀ (L : Int) (x : Int × mmM) (M1 : mmM), (x.1 = 0 ∨ x.1 = 1) → rdR x M0 M1 → (x.1 = 0 → X = (x.2 1 9, x.2)) → (x.1 = 1 → X = (L, x.2)) → 0 ≤ L → J 112 [some (vr 62), some (vi n), some (vi L), some (vi x.1)] [] M1 := by
      intro L x M1 hx01 hr hx0 hx1 hL
      rcases hx01 with c0 | c1
      · obtain ⟨e1, e2, e3⟩ := hr.2.2 c0
        rw [hx0 c0] at hneg
        have hq := hneg (by show x.2 1 9 < 0; omega) M1 (hA M1 hr.1)
        rw [c0]
        refine hJ 112 _ _ _ (show mm_wp _ _ _ mo_M_text_112 _ _ _ from ?_)
        simp only [mo_M_text_112, mm_wp, mm_ldi, mm_lda, mm_ldl, mm_sti, mm_sta, mm_stl, mm_inc, mm_2i, mm_mm, mm_2l, mm_lcmp, mm_i2l, mm_l2i, mm_cast8, mm_if1, mm_if2, mm_cmp, mm_swi, mm_sw, mm_pop1, mm_dup, mm_dup2, mm_geti, mm_geta, mm_puti, mm_iald, mm_bald, mm_aald, mm_iast, mm_bast, mm_alen, mm_acpy, mm_call, mm_callv, mm_recv, mm_pop, mm_find, mm_push, mm_cats, mm_cat, mm_reti, mm_retz, mm_retl, mm_reta, mm_retv, mm_set1, mm_set2, mm_kill, List.getElem?_cons_zero, List.getElem?_cons_succ, Int.reduceToNat, ↓reduceIte, Nat.reduceEqDiff, Nat.reduceDiv, Nat.reduceAdd, Nat.reduceLeDiff, Nat.zero_le, true_and, and_true, true_or, or_true, mm_b0, mm_b1, mm_lc_lt, mm_lc_le, mm_lc_gt, mm_lc_ge, mm_lc_eq, Int.not_lt, Int.not_le, Decidable.not_not, Int.sub_neg, c_0, c_1, c_2, l_2, c_3, c_4, l_4, c_5, l_5, c_6, l_6, c_7, l_7, c_8, c_9, l_9, c_10, l_10, c_11, l_11, c_12, l_12, c_13, c_14, l_14, c_15, l_15, c_16, l_16, c_17, l_17, c_18, c_19, l_19, c_20, l_20, c_21, l_21, c_22, l_22, c_23, c_24, l_24, c_25, l_25, c_26, c_27, c_28, l_28, c_29, c_30, l_30, c_31, c_32, l_32, c_33, l_33, c_34, l_34, c_35, l_35, c_36, l_36, c_37, l_37, c_38, l_38, c_39, l_39, c_40, c_41, l_41, c_42, c_43, c_44, l_44, c_45, c_46, l_46, c_47, c_48, l_48, c_49, l_49, c_50, l_50, c_51, l_51, c_52, l_52, c_53, l_53, c_54, l_54, c_55, l_55, c_56, l_56, c_57, l_57, c_58, l_58, c_59, l_59, c_60, l_60, c_61, l_61, c_62, c_63, l_63, c_64, l_64, c_65, l_65, c_66, l_66, c_67, l_67, c_68, l_68, c_69, l_69, c_70, l_70, c_71, l_71, c_72, l_72, c_73, l_73, c_74, l_74, c_75, l_75, c_76, l_76]
        refine ⟨fun c => by first | omega | simp at c, fun _ => ⟨by omega, ?_⟩⟩
        rw [show (x.2 1 9, x.2).1 = -2 - M1 62 26 from e1] at hq
        exact hq
      · obtain ⟨hT1, hQ1, e26⟩ := hr.2.1 c1
        rw [hx1 c1] at hpos
        obtain ⟨hS, q13, q15, q18, qc, qh, qa⟩ := id hQ1
        unfold rdS at hS
        have h124 : J 124 [some (vr 62), some (vi n), some (vi L), some (vi 1)] [] M1 := by
          refine hJ 124 _ _ _ (show mm_wp _ _ _ mo_M_text_124 _ _ _ from ?_)
          simp only [mo_M_text_124, mm_wp, mm_ldi, mm_lda, mm_ldl, mm_sti, mm_sta, mm_stl, mm_inc, mm_2i, mm_mm, mm_2l, mm_lcmp, mm_i2l, mm_l2i, mm_cast8, mm_if1, mm_if2, mm_cmp, mm_swi, mm_sw, mm_pop1, mm_dup, mm_dup2, mm_geti, mm_geta, mm_puti, mm_iald, mm_bald, mm_aald, mm_iast, mm_bast, mm_alen, mm_acpy, mm_call, mm_callv, mm_recv, mm_pop, mm_find, mm_push, mm_cats, mm_cat, mm_reti, mm_retz, mm_retl, mm_reta, mm_retv, mm_set1, mm_set2, mm_kill, List.getElem?_cons_zero, List.getElem?_cons_succ, Int.reduceToNat, ↓reduceIte, Nat.reduceEqDiff, Nat.reduceDiv, Nat.reduceAdd, Nat.reduceLeDiff, Nat.zero_le, true_and, and_true, true_or, or_true, mm_b0, mm_b1, mm_lc_lt, mm_lc_le, mm_lc_gt, mm_lc_ge, mm_lc_eq, Int.not_lt, Int.not_le, Decidable.not_not, Int.sub_neg, c_0, c_1, c_2, l_2, c_3, c_4, l_4, c_5, l_5, c_6, l_6, c_7, l_7, c_8, c_9, l_9, c_10, l_10, c_11, l_11, c_12, l_12, c_13, c_14, l_14, c_15, l_15, c_16, l_16, c_17, l_17, c_18, c_19, l_19, c_20, l_20, c_21, l_21, c_22, l_22, c_23, c_24, l_24, c_25, l_25, c_26, c_27, c_28, l_28, c_29, c_30, l_30, c_31, c_32, l_32, c_33, l_33, c_34, l_34, c_35, l_35, c_36, l_36, c_37, l_37, c_38, l_38, c_39, l_39, c_40, c_41, l_41, c_42, c_43, c_44, l_44, c_45, c_46, l_46, c_47, c_48, l_48, c_49, l_49, c_50, l_50, c_51, l_51, c_52, l_52, c_53, l_53, c_54, l_54, c_55, l_55, c_56, l_56, c_57, l_57, c_58, l_58, c_59, l_59, c_60, l_60, c_61, l_61, c_62, c_63, l_63, c_64, l_64, c_65, l_65, c_66, l_66, c_67, l_67, c_68, l_68, c_69, l_69, c_70, l_70, c_71, l_71, c_72, l_72, c_73, l_73, c_74, l_74, c_75, l_75, c_76, l_76, t_M_takes]
          refine ⟨by omega, by omega, by omega, by omega, by omega, by omega, fun M2 hk => ?_⟩
          refine hpos hL M2 ?_
          obtain ⟨k1, k2, k3, k5, k8, kc, kh, ka, k9⟩ := hk
          rw [q13] at k3 kc
          rw [q15] at k5 kh
          rw [q18] at k8 ka
          have hA1 := hA M1 hr.1
          refine ⟨fun o' c => ?_, ?_, ?_, k3, k5, k8, fun i i0 i1 => by rw [kc i i0 i1, qc i i0 i1], fun k k0 k1 => ?_, fun q q0 q1 => ?_, k9⟩
          · rw [k1 o' (by omega) (by omega) (by omega) (by omega) (by omega), hA1.1 o' (by omega) (by omega) (by omega) (by omega) (by omega)]
          · rw [k2 34 (by decide) (by decide) (by decide) (by decide) (by decide) (by decide) (by decide) (by omega), hA1.2.1 34 (by decide) (by decide) (by omega)]
          · rw [k2 2 (by decide) (by decide) (by decide) (by decide) (by decide) (by decide) (by decide) (by omega), hA1.2.2]
          · have a1 := kh k k0 k1
            have a2 := qh k k0 k1
            exact ⟨by rw [a1.1, a2.1], by rw [a1.2, a2.2]⟩
          · have q1 : q < x.2 8 4 := q1
            have a2 := qa q q0 q1
            rw [ka _ (by omega) (by omega), ka _ (by omega) (by omega), ka _ (by omega) (by omega), ka _ (by omega) (by omega)]
            exact a2
        rw [c1]
        refine hJ 112 _ _ _ (show mm_wp _ _ _ mo_M_text_112 _ _ _ from ?_)
        simp only [mo_M_text_112, mm_wp, mm_ldi, mm_lda, mm_ldl, mm_sti, mm_sta, mm_stl, mm_inc, mm_2i, mm_mm, mm_2l, mm_lcmp, mm_i2l, mm_l2i, mm_cast8, mm_if1, mm_if2, mm_cmp, mm_swi, mm_sw, mm_pop1, mm_dup, mm_dup2, mm_geti, mm_geta, mm_puti, mm_iald, mm_bald, mm_aald, mm_iast, mm_bast, mm_alen, mm_acpy, mm_call, mm_callv, mm_recv, mm_pop, mm_find, mm_push, mm_cats, mm_cat, mm_reti, mm_retz, mm_retl, mm_reta, mm_retv, mm_set1, mm_set2, mm_kill, List.getElem?_cons_zero, List.getElem?_cons_succ, Int.reduceToNat, ↓reduceIte, Nat.reduceEqDiff, Nat.reduceDiv, Nat.reduceAdd, Nat.reduceLeDiff, Nat.zero_le, true_and, and_true, true_or, or_true, mm_b0, mm_b1, mm_lc_lt, mm_lc_le, mm_lc_gt, mm_lc_ge, mm_lc_eq, Int.not_lt, Int.not_le, Decidable.not_not, Int.sub_neg, c_0, c_1, c_2, l_2, c_3, c_4, l_4, c_5, l_5, c_6, l_6, c_7, l_7, c_8, c_9, l_9, c_10, l_10, c_11, l_11, c_12, l_12, c_13, c_14, l_14, c_15, l_15, c_16, l_16, c_17, l_17, c_18, c_19, l_19, c_20, l_20, c_21, l_21, c_22, l_22, c_23, c_24, l_24, c_25, l_25, c_26, c_27, c_28, l_28, c_29, c_30, l_30, c_31, c_32, l_32, c_33, l_33, c_34, l_34, c_35, l_35, c_36, l_36, c_37, l_37, c_38, l_38, c_39, l_39, c_40, c_41, l_41, c_42, c_43, c_44, l_44, c_45, c_46, l_46, c_47, c_48, l_48, c_49, l_49, c_50, l_50, c_51, l_51, c_52, l_52, c_53, l_53, c_54, l_54, c_55, l_55, c_56, l_56, c_57, l_57, c_58, l_58, c_59, l_59, c_60, l_60, c_61, l_61, c_62, c_63, l_63, c_64, l_64, c_65, l_65, c_66, l_66, c_67, l_67, c_68, l_68, c_69, l_69, c_70, l_70, c_71, l_71, c_72, l_72, c_73, l_73, c_74, l_74, c_75, l_75, c_76, l_76]
        exact ⟨fun _ => h124, fun c => by first | omega | simp at c⟩
    have h95 : ∀ (L : Int) (x : Int × mmM) (M1 : mmM), (x.1 = 0 ∨ x.1 = 1) → rdR x M0 M1 → (x.1 = 0 → X = (x.2 1 9, x.2)) → (x.1 = 1 → x.2 1 5 = 0 → X = (L, x.2)) → (x.1 = 1 → ¬ x.2 1 5 = 0 → X = (rfM x.2 1 1 9, rfM x.2 1)) → 0 ≤ L → J 95 [some (vr 62), some (vi n), some (vi L), some (vi x.1)] [] M1 := by
      intro L x M1 hx01 hr hx0 hx1 hx2 hL
      by_cases hg : x.1 = 1 ∧ ¬ x.2 1 5 = 0
      · obtain ⟨c1, c2⟩ := hg
        obtain ⟨hT1, hQ1, e26⟩ := hr.2.1 c1
        have hb := rdT_b hT1
        have htk := (tk_eq hT1).2.2.1
        have := h112 L (0, rfM x.2 1) (mm_up M1 62 26 (8 * M1 62 21 + 1)) (Or.inl rfl) (rdR_w hr.1 hT1 (by omega) (by omega)) (fun _ => hx2 c1 c2) (fun c => by simp at c) hL
        rw [c1]
        refine hJ 95 _ _ _ (show mm_wp _ _ _ mo_M_text_95 _ _ _ from ?_)
        simp only [mo_M_text_95, mm_wp, mm_ldi, mm_lda, mm_ldl, mm_sti, mm_sta, mm_stl, mm_inc, mm_2i, mm_mm, mm_2l, mm_lcmp, mm_i2l, mm_l2i, mm_cast8, mm_if1, mm_if2, mm_cmp, mm_swi, mm_sw, mm_pop1, mm_dup, mm_dup2, mm_geti, mm_geta, mm_puti, mm_iald, mm_bald, mm_aald, mm_iast, mm_bast, mm_alen, mm_acpy, mm_call, mm_callv, mm_recv, mm_pop, mm_find, mm_push, mm_cats, mm_cat, mm_reti, mm_retz, mm_retl, mm_reta, mm_retv, mm_set1, mm_set2, mm_kill, List.getElem?_cons_zero, List.getElem?_cons_succ, Int.reduceToNat, ↓reduceIte, Nat.reduceEqDiff, Nat.reduceDiv, Nat.reduceAdd, Nat.reduceLeDiff, Nat.zero_le, true_and, and_true, true_or, or_true, mm_b0, mm_b1, mm_lc_lt, mm_lc_le, mm_lc_gt, mm_lc_ge, mm_lc_eq, Int.not_lt, Int.not_le, Decidable.not_not, Int.sub_neg, c_0, c_1, c_2, l_2, c_3, c_4, l_4, c_5, l_5, c_6, l_6, c_7, l_7, c_8, c_9, l_9, c_10, l_10, c_11, l_11, c_12, l_12, c_13, c_14, l_14, c_15, l_15, c_16, l_16, c_17, l_17, c_18, c_19, l_19, c_20, l_20, c_21, l_21, c_22, l_22, c_23, c_24, l_24, c_25, l_25, c_26, c_27, c_28, l_28, c_29, c_30, l_30, c_31, c_32, l_32, c_33, l_33, c_34, l_34, c_35, l_35, c_36, l_36, c_37, l_37, c_38, l_38, c_39, l_39, c_40, c_41, l_41, c_42, c_43, c_44, l_44, c_45, c_46, l_46, c_47, c_48, l_48, c_49, l_49, c_50, l_50, c_51, l_51, c_52, l_52, c_53, l_53, c_54, l_54, c_55, l_55, c_56, l_56, c_57, l_57, c_58, l_58, c_59, l_59, c_60, l_60, c_61, l_61, c_62, c_63, l_63, c_64, l_64, c_65, l_65, c_66, l_66, c_67, l_67, c_68, l_68, c_69, l_69, c_70, l_70, c_71, l_71, c_72, l_72, c_73, l_73, c_74, l_74, c_75, l_75, c_76, l_76, t_M_wrong]
        exact ⟨fun c => by first | omega | simp at c, fun _ => ⟨fun c => absurd (htk.mp c) c2, fun _ => ⟨e26, hb.1, hb.2.1, by omega, by omega, this⟩⟩⟩
      · have := h112 L x M1 hx01 hr hx0 (fun c => hx1 c (by
          by_cases c5 : x.2 1 5 = 0
          · exact c5
          · exact absurd ⟨c, c5⟩ hg)) hL
        rcases hx01 with c0 | c1
        · rw [c0] at this ⊢
          refine hJ 95 _ _ _ (show mm_wp _ _ _ mo_M_text_95 _ _ _ from ?_)
          simp only [mo_M_text_95, mm_wp, mm_ldi, mm_lda, mm_ldl, mm_sti, mm_sta, mm_stl, mm_inc, mm_2i, mm_mm, mm_2l, mm_lcmp, mm_i2l, mm_l2i, mm_cast8, mm_if1, mm_if2, mm_cmp, mm_swi, mm_sw, mm_pop1, mm_dup, mm_dup2, mm_geti, mm_geta, mm_puti, mm_iald, mm_bald, mm_aald, mm_iast, mm_bast, mm_alen, mm_acpy, mm_call, mm_callv, mm_recv, mm_pop, mm_find, mm_push, mm_cats, mm_cat, mm_reti, mm_retz, mm_retl, mm_reta, mm_retv, mm_set1, mm_set2, mm_kill, List.getElem?_cons_zero, List.getElem?_cons_succ, Int.reduceToNat, ↓reduceIte, Nat.reduceEqDiff, Nat.reduceDiv, Nat.reduceAdd, Nat.reduceLeDiff, Nat.zero_le, true_and, and_true, true_or, or_true, mm_b0, mm_b1, mm_lc_lt, mm_lc_le, mm_lc_gt, mm_lc_ge, mm_lc_eq, Int.not_lt, Int.not_le, Decidable.not_not, Int.sub_neg]
          exact ⟨fun _ => this, fun c => by first | omega | simp at c⟩
        · obtain ⟨hT1, hQ1, e26⟩ := hr.2.1 c1
          have htk := (tk_eq hT1).2.2.1
          have c5 : x.2 1 5 = 0 := by
            by_cases c5 : x.2 1 5 = 0
            · exact c5
            · exact absurd ⟨c1, c5⟩ hg
          rw [c1] at this ⊢
          refine hJ 95 _ _ _ (show mm_wp _ _ _ mo_M_text_95 _ _ _ from ?_)
          simp only [mo_M_text_95, mm_wp, mm_ldi, mm_lda, mm_ldl, mm_sti, mm_sta, mm_stl, mm_inc, mm_2i, mm_mm, mm_2l, mm_lcmp, mm_i2l, mm_l2i, mm_cast8, mm_if1, mm_if2, mm_cmp, mm_swi, mm_sw, mm_pop1, mm_dup, mm_dup2, mm_geti, mm_geta, mm_puti, mm_iald, mm_bald, mm_aald, mm_iast, mm_bast, mm_alen, mm_acpy, mm_call, mm_callv, mm_recv, mm_pop, mm_find, mm_push, mm_cats, mm_cat, mm_reti, mm_retz, mm_retl, mm_reta, mm_retv, mm_set1, mm_set2, mm_kill, List.getElem?_cons_zero, List.getElem?_cons_succ, Int.reduceToNat, ↓reduceIte, Nat.reduceEqDiff, Nat.reduceDiv, Nat.reduceAdd, Nat.reduceLeDiff, Nat.zero_le, true_and, and_true, true_or, or_true, mm_b0, mm_b1, mm_lc_lt, mm_lc_le, mm_lc_gt, mm_lc_ge, mm_lc_eq, Int.not_lt, Int.not_le, Decidable.not_not, Int.sub_neg, c_0, c_1, c_2, l_2, c_3, c_4, l_4, c_5, l_5, c_6, l_6, c_7, l_7, c_8, c_9, l_9, c_10, l_10, c_11, l_11, c_12, l_12, c_13, c_14, l_14, c_15, l_15, c_16, l_16, c_17, l_17, c_18, c_19, l_19, c_20, l_20, c_21, l_21, c_22, l_22, c_23, c_24, l_24, c_25, l_25, c_26, c_27, c_28, l_28, c_29, c_30, l_30, c_31, c_32, l_32, c_33, l_33, c_34, l_34, c_35, l_35, c_36, l_36, c_37, l_37, c_38, l_38, c_39, l_39, c_40, c_41, l_41, c_42, c_43, c_44, l_44, c_45, c_46, l_46, c_47, c_48, l_48, c_49, l_49, c_50, l_50, c_51, l_51, c_52, l_52, c_53, l_53, c_54, l_54, c_55, l_55, c_56, l_56, c_57, l_57, c_58, l_58, c_59, l_59, c_60, l_60, c_61, l_61, c_62, c_63, l_63, c_64, l_64, c_65, l_65, c_66, l_66, c_67, l_67, c_68, l_68, c_69, l_69, c_70, l_70, c_71, l_71, c_72, l_72, c_73, l_73, c_74, l_74, c_75, l_75, c_76, l_76]
          exact ⟨fun c => by first | omega | simp at c, fun _ => ⟨fun _ => this, fun c => absurd (htk.mpr c5) c⟩⟩
    have hl : ∀ (k : Nat) (L : Int) (A M1 : mmM), rdF (k + 1) L A = X → rdM A → rdS A → (¬ A 1 5 = 0 → A 1 6 < A 1 7) → rdR (lineF A) M0 M1 → 1 ≤ L → L + k = 600 → 2 * (L - 1) ≤ A 1 6 → J 67 [some (vr 62), some (vi n), some (vi L), some (vi (lineF A).1)] [] M1 := by
      intro k
      induction k with
      | zero =>
        intro L A M1 hx hd hs hlt hr hL hLk hpr
        unfold rdM rdI at hd
        omega
      | succ k ih =>
        intro L A M1 hx hd hs hlt hr hL hLk hpr
        have hf := lineF_f hd hs
        have hmn := lineF_m hd hs
        have hx : (if (lineF A).1 = 0 then ((lineF A).2 1 9, (lineF A).2) else if (lineF A).2 1 5 = 0 then (L, (lineF A).2) else if (lineF A).2 1 5 = 3 then rdF (k + 1) (L + 1) (nxM (lineF A).2) else (rfM (lineF A).2 1 1 9, rfM (lineF A).2 1)) = X := hx
        generalize lineF A = x at *
        by_cases hgo : x.1 = 1 ∧ x.2 1 5 = 3
        · obtain ⟨c1, c3⟩ := hgo
          rw [if_neg (by omega), if_neg (by omega), if_pos c3] at hx
          obtain ⟨hT1, hQ1, e26⟩ := hr.2.1 c1
          have htk := (tk_eq hT1).2.2.2.1
          have hm := hmn c1
          have hl1 := hT1.2.2.2.2.2.2.2.2 (by omega)
          have hnm := nx_mono hT1.1.1
          have hlt := hlt (by omega)
          have hni := nx_in hT1.1.1
          rw [c1]
          refine hJ 67 _ _ _ (show mm_wp _ _ _ mo_M_text_67 _ _ _ from ?_)
          simp only [mo_M_text_67, mm_wp, mm_ldi, mm_lda, mm_ldl, mm_sti, mm_sta, mm_stl, mm_inc, mm_2i, mm_mm, mm_2l, mm_lcmp, mm_i2l, mm_l2i, mm_cast8, mm_if1, mm_if2, mm_cmp, mm_swi, mm_sw, mm_pop1, mm_dup, mm_dup2, mm_geti, mm_geta, mm_puti, mm_iald, mm_bald, mm_aald, mm_iast, mm_bast, mm_alen, mm_acpy, mm_call, mm_callv, mm_recv, mm_pop, mm_find, mm_push, mm_cats, mm_cat, mm_reti, mm_retz, mm_retl, mm_reta, mm_retv, mm_set1, mm_set2, mm_kill, List.getElem?_cons_zero, List.getElem?_cons_succ, Int.reduceToNat, ↓reduceIte, Nat.reduceEqDiff, Nat.reduceDiv, Nat.reduceAdd, Nat.reduceLeDiff, Nat.zero_le, true_and, and_true, true_or, or_true, mm_b0, mm_b1, mm_lc_lt, mm_lc_le, mm_lc_gt, mm_lc_ge, mm_lc_eq, Int.not_lt, Int.not_le, Decidable.not_not, Int.sub_neg, c_0, c_1, c_2, l_2, c_3, c_4, l_4, c_5, l_5, c_6, l_6, c_7, l_7, c_8, c_9, l_9, c_10, l_10, c_11, l_11, c_12, l_12, c_13, c_14, l_14, c_15, l_15, c_16, l_16, c_17, l_17, c_18, c_19, l_19, c_20, l_20, c_21, l_21, c_22, l_22, c_23, c_24, l_24, c_25, l_25, c_26, c_27, c_28, l_28, c_29, c_30, l_30, c_31, c_32, l_32, c_33, l_33, c_34, l_34, c_35, l_35, c_36, l_36, c_37, l_37, c_38, l_38, c_39, l_39, c_40, c_41, l_41, c_42, c_43, c_44, l_44, c_45, c_46, l_46, c_47, c_48, l_48, c_49, l_49, c_50, l_50, c_51, l_51, c_52, l_52, c_53, l_53, c_54, l_54, c_55, l_55, c_56, l_56, c_57, l_57, c_58, l_58, c_59, l_59, c_60, l_60, c_61, l_61, c_62, c_63, l_63, c_64, l_64, c_65, l_65, c_66, l_66, c_67, l_67, c_68, l_68, c_69, l_69, c_70, l_70, c_71, l_71, c_72, l_72, c_73, l_73, c_74, l_74, c_75, l_75, c_76, l_76, t_M_isSign, t_M_go, t_M_line]
          refine ⟨fun c => by first | omega | simp at c, fun _ => ⟨fun c => absurd (htk.mpr c3) c, fun _ => ⟨x.2, rdT_P hT1, fun M2 hg2 hT2 => ⟨nxM x.2, hT2, rdQ_go hg2 hQ1, by rw [hg2.2 26 (by omega), e26], fun M3 hr3 => ⟨by omega, ?_⟩⟩⟩⟩⟩
          refine ih (L + 1) (nxM x.2) M3 hx hT2.1 (rdQ_go hg2 hQ1).1 ?_ (rdR_tr hr.1 (rdR_tr (rlG_go hg2) hr3)) (by omega) (by omega) (by omega)
          exact hT2.2.2.2.2.2.2.2.2
        · have := h95 L x M1 hf.2.2 hr (fun c => by rw [if_pos c] at hx; exact hx.symm) (fun c c5 => by rw [if_neg (by omega), if_pos c5] at hx; exact hx.symm) (fun c c5 => by rw [if_neg (by omega), if_neg c5, if_neg (fun w => hgo ⟨c, w⟩)] at hx; exact hx.symm) (by omega)
          rcases hf.2.2 with c0 | c1
          · rw [c0] at this ⊢
            refine hJ 67 _ _ _ (show mm_wp _ _ _ mo_M_text_67 _ _ _ from ?_)
            simp only [mo_M_text_67, mm_wp, mm_ldi, mm_lda, mm_ldl, mm_sti, mm_sta, mm_stl, mm_inc, mm_2i, mm_mm, mm_2l, mm_lcmp, mm_i2l, mm_l2i, mm_cast8, mm_if1, mm_if2, mm_cmp, mm_swi, mm_sw, mm_pop1, mm_dup, mm_dup2, mm_geti, mm_geta, mm_puti, mm_iald, mm_bald, mm_aald, mm_iast, mm_bast, mm_alen, mm_acpy, mm_call, mm_callv, mm_recv, mm_pop, mm_find, mm_push, mm_cats, mm_cat, mm_reti, mm_retz, mm_retl, mm_reta, mm_retv, mm_set1, mm_set2, mm_kill, List.getElem?_cons_zero, List.getElem?_cons_succ, Int.reduceToNat, ↓reduceIte, Nat.reduceEqDiff, Nat.reduceDiv, Nat.reduceAdd, Nat.reduceLeDiff, Nat.zero_le, true_and, and_true, true_or, or_true, mm_b0, mm_b1, mm_lc_lt, mm_lc_le, mm_lc_gt, mm_lc_ge, mm_lc_eq, Int.not_lt, Int.not_le, Decidable.not_not, Int.sub_neg]
            exact ⟨fun _ => this, fun c => by first | omega | simp at c⟩
          · obtain ⟨hT1, hQ1, e26⟩ := hr.2.1 c1
            have htk := (tk_eq hT1).2.2.2.1
            rw [c1] at this ⊢
            refine hJ 67 _ _ _ (show mm_wp _ _ _ mo_M_text_67 _ _ _ from ?_)
            simp only [mo_M_text_67, mm_wp, mm_ldi, mm_lda, mm_ldl, mm_sti, mm_sta, mm_stl, mm_inc, mm_2i, mm_mm, mm_2l, mm_lcmp, mm_i2l, mm_l2i, mm_cast8, mm_if1, mm_if2, mm_cmp, mm_swi, mm_sw, mm_pop1, mm_dup, mm_dup2, mm_geti, mm_geta, mm_puti, mm_iald, mm_bald, mm_aald, mm_iast, mm_bast, mm_alen, mm_acpy, mm_call, mm_callv, mm_recv, mm_pop, mm_find, mm_push, mm_cats, mm_cat, mm_reti, mm_retz, mm_retl, mm_reta, mm_retv, mm_set1, mm_set2, mm_kill, List.getElem?_cons_zero, List.getElem?_cons_succ, Int.reduceToNat, ↓reduceIte, Nat.reduceEqDiff, Nat.reduceDiv, Nat.reduceAdd, Nat.reduceLeDiff, Nat.zero_le, true_and, and_true, true_or, or_true, mm_b0, mm_b1, mm_lc_lt, mm_lc_le, mm_lc_gt, mm_lc_ge, mm_lc_eq, Int.not_lt, Int.not_le, Decidable.not_not, Int.sub_neg, c_0, c_1, c_2, l_2, c_3, c_4, l_4, c_5, l_5, c_6, l_6, c_7, l_7, c_8, c_9, l_9, c_10, l_10, c_11, l_11, c_12, l_12, c_13, c_14, l_14, c_15, l_15, c_16, l_16, c_17, l_17, c_18, c_19, l_19, c_20, l_20, c_21, l_21, c_22, l_22, c_23, c_24, l_24, c_25, l_25, c_26, c_27, c_28, l_28, c_29, c_30, l_30, c_31, c_32, l_32, c_33, l_33, c_34, l_34, c_35, l_35, c_36, l_36, c_37, l_37, c_38, l_38, c_39, l_39, c_40, c_41, l_41, c_42, c_43, c_44, l_44, c_45, c_46, l_46, c_47, c_48, l_48, c_49, l_49, c_50, l_50, c_51, l_51, c_52, l_52, c_53, l_53, c_54, l_54, c_55, l_55, c_56, l_56, c_57, l_57, c_58, l_58, c_59, l_59, c_60, l_60, c_61, l_61, c_62, c_63, l_63, c_64, l_64, c_65, l_65, c_66, l_66, c_67, l_67, c_68, l_68, c_69, l_69, c_70, l_70, c_71, l_71, c_72, l_72, c_73, l_73, c_74, l_74, c_75, l_75, c_76, l_76, t_M_isSign]
            exact ⟨fun c => by first | omega | simp at c, fun _ => ⟨fun _ => this, fun c => absurd ⟨c1, htk.mp c⟩ hgo⟩⟩
    refine hJ 21 _ _ _ (show mm_wp _ _ _ mo_M_text_21 _ _ _ from ?_)
    simp only [mo_M_text_21, mm_wp, mm_ldi, mm_lda, mm_ldl, mm_sti, mm_sta, mm_stl, mm_inc, mm_2i, mm_mm, mm_2l, mm_lcmp, mm_i2l, mm_l2i, mm_cast8, mm_if1, mm_if2, mm_cmp, mm_swi, mm_sw, mm_pop1, mm_dup, mm_dup2, mm_geti, mm_geta, mm_puti, mm_iald, mm_bald, mm_aald, mm_iast, mm_bast, mm_alen, mm_acpy, mm_call, mm_callv, mm_recv, mm_pop, mm_find, mm_push, mm_cats, mm_cat, mm_reti, mm_retz, mm_retl, mm_reta, mm_retv, mm_set1, mm_set2, mm_kill, List.getElem?_cons_zero, List.getElem?_cons_succ, Int.reduceToNat, ↓reduceIte, Nat.reduceEqDiff, Nat.reduceDiv, Nat.reduceAdd, Nat.reduceLeDiff, Nat.zero_le, true_and, and_true, true_or, or_true, mm_b0, mm_b1, mm_lc_lt, mm_lc_le, mm_lc_gt, mm_lc_ge, mm_lc_eq, Int.not_lt, Int.not_le, Decidable.not_not, Int.sub_neg, c_0, c_1, c_2, l_2, c_3, c_4, l_4, c_5, l_5, c_6, l_6, c_7, l_7, c_8, c_9, l_9, c_10, l_10, c_11, l_11, c_12, l_12, c_13, c_14, l_14, c_15, l_15, c_16, l_16, c_17, l_17, c_18, c_19, l_19, c_20, l_20, c_21, l_21, c_22, l_22, c_23, c_24, l_24, c_25, l_25, c_26, c_27, c_28, l_28, c_29, c_30, l_30, c_31, c_32, l_32, c_33, l_33, c_34, l_34, c_35, l_35, c_36, l_36, c_37, l_37, c_38, l_38, c_39, l_39, c_40, c_41, l_41, c_42, c_43, c_44, l_44, c_45, c_46, l_46, c_47, c_48, l_48, c_49, l_49, c_50, l_50, c_51, l_51, c_52, l_52, c_53, l_53, c_54, l_54, c_55, l_55, c_56, l_56, c_57, l_57, c_58, l_58, c_59, l_59, c_60, l_60, c_61, l_61, c_62, c_63, l_63, c_64, l_64, c_65, l_65, c_66, l_66, c_67, l_67, c_68, l_68, c_69, l_69, c_70, l_70, c_71, l_71, c_72, l_72, c_73, l_73, c_74, l_74, c_75, l_75, c_76, l_76, t_M_go, t_M_line, hM0]
    refine ⟨rdZ N n, hP0, fun M2 hg2 hT2 => ⟨nxM (rdZ N n), hT2, rdQ_go hg2 hQ0, by rw [hg2.2 26 (by omega), z26], fun M3 hr3 => ?_⟩⟩
    have hT2p := hT2.1
    unfold rdM at hT2p
    exact hl 599 1 (nxM (rdZ N n)) M3 hX hT2.1 (rdQ_go hg2 hQ0).1 hT2.2.2.2.2.2.2.2.2 (rdR_tr (rlG_go hg2) hr3) (by omega) (by omega) (by omega)
  refine hJ 0 _ _ _ (show mm_wp _ _ _ mo_M_text_0 _ _ _ from ?_)
  simp only [mo_M_text_0, mm_wp, mm_ldi, mm_lda, mm_ldl, mm_sti, mm_sta, mm_stl, mm_inc, mm_2i, mm_mm, mm_2l, mm_lcmp, mm_i2l, mm_l2i, mm_cast8, mm_if1, mm_if2, mm_cmp, mm_swi, mm_sw, mm_pop1, mm_dup, mm_dup2, mm_geti, mm_geta, mm_puti, mm_iald, mm_bald, mm_aald, mm_iast, mm_bast, mm_alen, mm_acpy, mm_call, mm_callv, mm_recv, mm_pop, mm_find, mm_push, mm_cats, mm_cat, mm_reti, mm_retz, mm_retl, mm_reta, mm_retv, mm_set1, mm_set2, mm_kill, List.getElem?_cons_zero, List.getElem?_cons_succ, Int.reduceToNat, ↓reduceIte, Nat.reduceEqDiff, Nat.reduceDiv, Nat.reduceAdd, Nat.reduceLeDiff, Nat.zero_le, true_and, and_true, true_or, or_true, mm_b0, mm_b1, mm_lc_lt, mm_lc_le, mm_lc_gt, mm_lc_ge, mm_lc_eq, Int.not_lt, Int.not_le, Decidable.not_not, Int.sub_neg, c_0, c_1, c_2, l_2, c_3, c_4, l_4, c_5, l_5, c_6, l_6, c_7, l_7, c_8, c_9, l_9, c_10, l_10, c_11, l_11, c_12, l_12, c_13, c_14, l_14, c_15, l_15, c_16, l_16, c_17, l_17, c_18, c_19, l_19, c_20, l_20, c_21, l_21, c_22, l_22, c_23, c_24, l_24, c_25, l_25, c_26, c_27, c_28, l_28, c_29, c_30, l_30, c_31, c_32, l_32, c_33, l_33, c_34, l_34, c_35, l_35, c_36, l_36, c_37, l_37, c_38, l_38, c_39, l_39, c_40, c_41, l_41, c_42, c_43, c_44, l_44, c_45, c_46, l_46, c_47, c_48, l_48, c_49, l_49, c_50, l_50, c_51, l_51, c_52, l_52, c_53, l_53, c_54, l_54, c_55, l_55, c_56, l_56, c_57, l_57, c_58, l_58, c_59, l_59, c_60, l_60, c_61, l_61, c_62, c_63, l_63, c_64, l_64, c_65, l_65, c_66, l_66, c_67, l_67, c_68, l_68, c_69, l_69, c_70, l_70, c_71, l_71, c_72, l_72, c_73, l_73, c_74, l_74, c_75, l_75, c_76, l_76, t_M_within, mm_up_if, Int.reduceEq]
  exact ⟨fun z => h21 z, fun z => hN z⟩
/-! a text that is taken is right -/
theorem rf_n {N : mmM} {k : Int} (hd : rdM N) (hk : 0 ≤ k) : rfM N k 1 9 < 0 := by
  unfold rfM
  rw [mm_up_s]
  unfold rdM at hd
  omega
theorem clF_n {N : mmM} (hd : rdM N) (h : (clF N).1 = 0) : (clF N).2 1 9 < 0 := by
  unfold clF at *
  by_cases c1 : whP N 0 63
  · rw [if_pos c1] at h ⊢
    by_cases c2 : N 3 4 < 60
    · rw [if_pos c2] at h
      simp at h
    · rw [if_neg c2]
      exact rf_n hd (by omega)
  · rw [if_neg c1]
    exact rf_n hd (whK_b N).1
theorem rlF_n : ∀ (k : Nat) (x : Int × mmM), rdM x.2 → rdS x.2 → (x.1 = 0 → x.2 1 9 < 0) → (rlF k x).1 = 0 → (rlF k x).2 1 9 < 0
  | 0, x, _, _, hx, h => hx h
  | k + 1, x, hd, hs, hx, h => by
    simp only [rlF] at h ⊢
    by_cases c : x.1 = 1 ∧ x.2 1 5 = 4
    · rw [if_pos c] at h ⊢
      have hd1 := nx_rd hd.1
      have hs1 := rdS_nx hs
      have hf := clF_f hd1 hs1
      exact rlF_n k _ hf.1 hf.2.1 (fun c => clF_n hd1 c) h
    · rw [if_neg c] at h ⊢
      exact hx h
theorem rowF_n {N : mmM} (hd : rdM N) (hs : rdS N) (h : (rowF N).1 = 0) : (rowF N).2 1 9 < 0 := by
  unfold rowF at *
  by_cases c : 0 < N 3 4
  · rw [if_pos c]
    exact rf_n hd (by omega)
  · rw [if_neg c] at h ⊢
    unfold rowE at *
    have hd1 := nx_rd hd.1
    have hs1 := rdS_nx hs
    have hf := clF_f hd1 hs1
    have hc01 : (clF (nxM N)).1 = 0 ∨ (clF (nxM N)).1 = 1 := by
      rcases hf.2.2 with c | c
      · exact Or.inl c
      · exact Or.inr c.1
    have hr := rlF_n 60 (clF (nxM N)) hf.1 hf.2.1 (fun c => clF_n hd1 c)
    have hg := rlF_01 60 (clF (nxM N)) hf.1 hf.2.1 hc01
    generalize hx : rlF 60 (clF (nxM N)) = x at *
    by_cases c2 : x.1 = 1 ∧ x.2 3 4 < 2 ∧ (x.2 1 5 = 3 ∨ x.2 1 5 = 0)
    · rw [if_pos c2]
      exact rf_n hg.1 (by omega)
    · rw [if_neg c2] at h ⊢
      exact hr h
theorem setF_n {N : mmM} (hd : rdM N) (h : (setF N).1 = 0) : (setF N).2 1 9 < 0 := by
  unfold setF at *
  have d1 := nx_rd hd.1
  have d2 := nx_rd d1.1
  by_cases c1 : N 3 4 = 0
  · rw [if_pos c1]
    exact rf_n hd (by omega)
  · rw [if_neg c1] at h ⊢
    by_cases c2 : 32 ≤ N 3 5
    · rw [if_pos c2]
      exact rf_n hd (by omega)
    · rw [if_neg c2] at h ⊢
      by_cases c3 : whP (nxM N) 0 (N 3 4 - 1)
      · rw [if_pos c3] at h ⊢
        by_cases c4 : whP (nxM (nxM N)) 0 63
        · rw [if_pos c4] at h
          simp at h
        · rw [if_neg c4]
          exact rf_n d2 (whK_b _).1
      · rw [if_neg c3]
        exact rf_n d1 (whK_b _).1
theorem askF_n {N : mmM} (hd : rdM N) (h : (askF N).1 = 0) : (askF N).2 1 9 < 0 := by
  unfold askF at *
  have d1 := nx_rd hd.1
  have d2 := nx_rd d1.1
  have d3 := nx_rd d2.1
  have d4 := nx_rd d3.1
  have d5 := nx_rd d4.1
  by_cases c1 : N 3 4 = 0
  · rw [if_pos c1]
    exact rf_n hd (by omega)
  · rw [if_neg c1] at h ⊢
    by_cases c2 : 24 ≤ N 8 4
    · rw [if_pos c2]
      exact rf_n hd (by omega)
    · rw [if_neg c2] at h ⊢
      by_cases c3 : kdF (nxM N) = -1
      · rw [if_pos c3]
        exact rf_n d1 (by omega)
      · rw [if_neg c3] at h ⊢
        by_cases c4 : whP (nxM (nxM N)) 0 (N 3 4 - 1)
        · rw [if_pos c4] at h ⊢
          by_cases c5 : whP (nxM (nxM (nxM N))) (nxM (nxM N) 1 8) (N 3 4 - 1)
          · rw [if_pos c5] at h ⊢
            unfold tmF at *
            by_cases c6 : wdB (nxM (nxM (nxM (nxM N)))) 3 = true
            · rw [if_pos c6] at h ⊢
              by_cases c7 : whP (nxM (nxM (nxM (nxM (nxM N))))) 0 (nxM (nxM (nxM (nxM N))) 3 5)
              · rw [if_pos c7] at h
                simp at h
              · rw [if_neg c7]
                exact rf_n d5 (whK_b _).1
            · rw [if_neg c6] at h
              simp at h
          · rw [if_neg c5]
            exact rf_n d3 (whK_b _).1
        · rw [if_neg c4]
          exact rf_n d2 (whK_b _).1
theorem lineF_n {N : mmM} (hd : rdM N) (hs : rdS N) (h : (lineF N).1 = 0) : (lineF N).2 1 9 < 0 := by
  unfold lineF at *
  by_cases c0 : wdB N 0 = true
  · rw [if_pos c0] at h ⊢
    exact rowF_n hd hs h
  · rw [if_neg c0] at h ⊢
    by_cases c1 : wdB N 1 = true
    · rw [if_pos c1] at h ⊢
      exact setF_n hd h
    · rw [if_neg c1] at h ⊢
      by_cases c2 : wdB N 2 = true
      · rw [if_pos c2] at h ⊢
        exact askF_n hd h
      · rw [if_neg c2]
        exact rf_n hd (by omega)
theorem wdB_l {N : mmM} {j : Nat} (h : wdB N j = true) : N 1 7 - N 1 6 = (wdL j).length := by
  unfold wdB at h
  simp only [Bool.and_eq_true, decide_eq_true_eq] at h
  exact h.1.2
theorem lineF_3 {N : mmM} (h : (lineF N).1 = 1) : N 1 7 = N 1 6 + 3 := by
  unfold lineF at *
  have l0 : ((wdL 0).length : Int) = 3 := by decide
  have l1 : ((wdL 1).length : Int) = 3 := by decide
  have l2 : ((wdL 2).length : Int) = 3 := by decide
  by_cases c0 : wdB N 0 = true
  · have := wdB_l c0; omega
  · rw [if_neg c0] at h
    by_cases c1 : wdB N 1 = true
    · have := wdB_l c1; omega
    · rw [if_neg c1] at h
      by_cases c2 : wdB N 2 = true
      · have := wdB_l c2; omega
      · rw [if_neg c2] at h
        simp at h
theorem rdF_v : ∀ (k : Nat) (L : Int) (A : mmM), rdM A → rdS A → rdV A → (2 ≤ A 3 4 ∨ A 3 4 = 0) → 1 ≤ L → L + k = 601 → 2 * (L - 1) ≤ A 1 6 → 0 ≤ (rdF k L A).1 → rdV (rdF k L A).2 ∧ 2 ≤ (rdF k L A).2 3 4
  | 0, L, A, hd, hs, hv, h2, hL, hLk, hpr, h => by
    unfold rdM rdI at hd
    omega
  | k + 1, L, A, hd, hs, hv, h2, hL, hLk, hpr, h => by
    have hf := lineF_f hd hs
    have hm := lineF_m hd hs
    have hlv := lineF_v hd hs hv h2
    have hng := lineF_n hd hs
    have hl3 := lineF_3 (N := A)
    simp only [rdF] at h ⊢
    generalize lineF A = x at *
    by_cases c0 : x.1 = 0
    · rw [if_pos c0] at h
      have := hng c0
      have h : 0 ≤ x.2 1 9 := h
      omega
    · rw [if_neg c0] at h ⊢
      have c1 : x.1 = 1 := by rcases hf.2.2 with c | c <;> omega
      obtain ⟨v1, v2⟩ := hlv c1
      by_cases c5 : x.2 1 5 = 0
      · rw [if_pos c5]
        exact ⟨v1, v2 (Or.inl c5)⟩
      · rw [if_neg c5] at h ⊢
        by_cases c3 : x.2 1 5 = 3
        · rw [if_pos c3] at h ⊢
          have hnm := nx_mono hf.1.1
          have hm := hm c1
          have hl3 := hl3 c1
          have h67 := hf.1
          unfold rdM at h67
          have hrd := nx_rd hf.1.1
          have v34 : 2 ≤ nxM x.2 3 4 := by rw [nx_o _ (by decide)]; exact v2 (Or.inr c3)
          exact rdF_v k (L + 1) (nxM x.2) hrd (rdS_nx hf.2.1) (rdV_nx v1) (Or.inl v34) (by omega) (by omega) (by omega) h
        · rw [if_neg c3] at h
          have h : 0 ≤ rfM x.2 1 1 9 := h
          have := rf_n (k := 1) hf.1 (by omega)
          omega
theorem txF_v {N : mmM} {n : Int} (n0 : 0 ≤ n) (n1 : n ≤ 600) (h : 0 ≤ (txF N n).1) : rdV (txF N n).2 ∧ 2 ≤ (txF N n).2 3 4 ∧ rdS (txF N n).2 := by
  have hdI := rdZ_i (M := N) n0 n1
  have hd := nx_rd hdI
  have hs := rdS_nx (rdZ_S (M := N) (n := n))
  have r34 : rdZ N n 3 4 = 0 := by unfold rdZ; rw [mm_up_o _ _ (by decide), mm_up_o _ _ (by decide), mm_up_o _ _ (by decide), mm_up_i _ (by decide), mm_up_s]
  have r35 : rdZ N n 3 5 = 0 := by unfold rdZ; rw [mm_up_o _ _ (by decide), mm_up_o _ _ (by decide), mm_up_o _ _ (by decide), mm_up_s]
  have r84 : rdZ N n 8 4 = 0 := by unfold rdZ; rw [mm_up_o _ _ (by decide), mm_up_o _ _ (by decide), mm_up_s]
  have hv : rdV (nxM (rdZ N n)) := rdV_nx ⟨fun i i0 i1 => by omega, fun i i0 i1 => by omega, fun i i0 i1 => by omega, fun _ => ⟨r35, r84⟩⟩
  have hp := hd
  unfold rdM at hp
  have := rdF_v 600 1 (nxM (rdZ N n)) hd hs hv (Or.inr (by rw [nx_o _ (by decide), r34])) (by omega) (by omega) (by omega) h
  exact ⟨this.1, this.2, rdF_S 600 1 _ hd hs⟩
