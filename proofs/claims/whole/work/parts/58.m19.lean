/-! the reference's reader beside the planner's: set, ask -/
theorem whK_1 (N : mmM) : 1 ≤ whK N ∧ whK N ≤ 10 := by
  unfold whK
  split <;> omega
def t_M_setLine : mmT := fun as M Q => match as with
  | [.inr (.inr o)] => o = 62 ∧ ∃ N, rdT N M ∧ rdQ N M ∧ M 62 26 = 0 ∧ ∀ M', rdR (setF N) M M' → Q (some (vi (setF N).1)) M'
  | _ => False
set_option maxHeartbeats 4000000 in
set_option maxRecDepth 100000 in
theorem p_M_setLine : ∀ as M Q, (∀ v ∈ as, mm_vin v) → mm_mem M → t_M_setLine as M Q → (mm_ent as).length ≤ 1 ∧ mm_ok mb_M_setLine [(1109, t_M_wrong), (1108, t_M_go), (1117, t_M_number)] (mm_entry 1 as) M Q := by
  intro as M Q hin hM h
  unfold t_M_setLine at h
  split at h
  rotate_left
  · exact h.elim
  rename_i o
  refine ⟨by simp [mm_ent], (show mm_ok mb_M_setLine [(1109, t_M_wrong), (1108, t_M_go), (1117, t_M_number)] [some (vr o)] M Q from ?_)⟩
  intro J hJ
  obtain ⟨rfl, N, hT, hQ, h26, h⟩ := h
  have hb := rdT_b hT
  obtain ⟨hS, q13, q15, q18, qc, qh, qa⟩ := id hQ
  have hS2 := hS
  unfold rdS at hS2
  unfold setF at h
  have h28 : ¬ N 3 4 = 0 → ¬ 32 ≤ N 3 5 → J 28 [some (vr 62)] [] M := by
    intro c1 c2
    rw [if_neg c1, if_neg c2] at h
    refine hJ 28 _ _ _ (show mm_wp _ _ _ mo_M_setLine_28 _ _ _ from ?_)
    simp only [mo_M_setLine_28, mm_wp, mm_ldi, mm_lda, mm_ldl, mm_sti, mm_sta, mm_stl, mm_inc, mm_2i, mm_mm, mm_2l, mm_lcmp, mm_i2l, mm_l2i, mm_cast8, mm_if1, mm_if2, mm_cmp, mm_swi, mm_sw, mm_pop1, mm_dup, mm_dup2, mm_geti, mm_geta, mm_puti, mm_iald, mm_bald, mm_aald, mm_iast, mm_bast, mm_alen, mm_acpy, mm_call, mm_callv, mm_recv, mm_pop, mm_find, mm_push, mm_cats, mm_cat, mm_reti, mm_retz, mm_retl, mm_reta, mm_retv, mm_set1, mm_set2, mm_kill, List.getElem?_cons_zero, List.getElem?_cons_succ, Int.reduceToNat, ↓reduceIte, Nat.reduceEqDiff, Nat.reduceDiv, Nat.reduceAdd, Nat.reduceLeDiff, Nat.zero_le, true_and, and_true, true_or, or_true, mm_b0, mm_b1, mm_lc_lt, mm_lc_le, mm_lc_gt, mm_lc_ge, mm_lc_eq, Int.not_lt, Int.not_le, Decidable.not_not, Int.sub_neg, c_0, c_1, c_2, l_2, c_3, c_4, l_4, c_5, l_5, c_6, l_6, c_7, l_7, c_8, c_9, l_9, c_10, l_10, c_11, l_11, c_12, l_12, c_13, c_14, l_14, c_15, l_15, c_16, l_16, c_17, l_17, c_18, c_19, l_19, c_20, l_20, c_21, l_21, c_22, l_22, c_23, c_24, l_24, c_25, l_25, c_26, c_27, c_28, l_28, c_29, c_30, l_30, c_31, c_32, l_32, c_33, l_33, c_34, l_34, c_35, l_35, c_36, l_36, c_37, l_37, c_38, l_38, c_39, l_39, c_40, c_41, l_41, c_42, c_43, c_44, l_44, c_45, c_46, l_46, c_47, c_48, l_48, c_49, l_49, c_50, l_50, c_51, l_51, c_52, l_52, c_53, l_53, c_54, l_54, c_55, l_55, c_56, l_56, c_57, l_57, c_58, l_58, c_59, l_59, c_60, l_60, c_61, l_61, c_62, c_63, l_63, c_64, l_64, c_65, l_65, c_66, l_66, c_67, l_67, c_68, l_68, c_69, l_69, c_70, l_70, c_71, l_71, c_72, l_72, c_73, l_73, c_74, l_74, c_75, l_75, c_76, l_76, t_M_go]
    refine ⟨N, rdT_P hT, fun M1 hg hT1 => ?_⟩
    have hQ1 := rdQ_go hg hQ
    have e13 : M1 62 13 = N 3 4 := by rw [hg.2 13 (by omega), q13]
    have e26 : M1 62 26 = 0 := by rw [hg.2 26 (by omega), h26]
    rw [e13]
    refine ⟨by omega, rfl, nxM N, hT1, e26, fun hw M2 hn e27 hT2 => ?_, fun hw => ?_⟩
    · rw [if_pos hw] at h
      have hQ2 := rdQ_nu hn hQ1
      obtain ⟨hS', p13, p15, p18, pc, ph, pa⟩ := id hQ2
      have f15 : M2 62 15 = N 3 5 := by rw [hn.2 15 (by omega), hg.2 15 (by omega), q15]
      have f26 : M2 62 26 = 0 := by rw [hn.2 26 (by omega), e26]
      have h48 : J 48 [some (vr 62)] [] M2 := by
        have u69 : ∀ o i v, o ≠ 69 → mm_up M2 69 i v o = M2 o := fun o i v c => mm_up_o _ _ c
        have hT2' : rdT (nxM (nxM N)) (mm_up M2 69 (N 3 5) (nxM N 1 8)) := rdT_M (u69 63 _ _ (by decide)) (by rw [u69 62 _ _ (by decide)]) (fun j a b => by rw [u69 62 _ _ (by decide)]) hT2
        refine hJ 48 _ _ _ (show mm_wp _ _ _ mo_M_setLine_48 _ _ _ from ?_)
        simp only [mo_M_setLine_48, mm_wp, mm_ldi, mm_lda, mm_ldl, mm_sti, mm_sta, mm_stl, mm_inc, mm_2i, mm_mm, mm_2l, mm_lcmp, mm_i2l, mm_l2i, mm_cast8, mm_if1, mm_if2, mm_cmp, mm_swi, mm_sw, mm_pop1, mm_dup, mm_dup2, mm_geti, mm_geta, mm_puti, mm_iald, mm_bald, mm_aald, mm_iast, mm_bast, mm_alen, mm_acpy, mm_call, mm_callv, mm_recv, mm_pop, mm_find, mm_push, mm_cats, mm_cat, mm_reti, mm_retz, mm_retl, mm_reta, mm_retv, mm_set1, mm_set2, mm_kill, List.getElem?_cons_zero, List.getElem?_cons_succ, Int.reduceToNat, ↓reduceIte, Nat.reduceEqDiff, Nat.reduceDiv, Nat.reduceAdd, Nat.reduceLeDiff, Nat.zero_le, true_and, and_true, true_or, or_true, mm_b0, mm_b1, mm_lc_lt, mm_lc_le, mm_lc_gt, mm_lc_ge, mm_lc_eq, Int.not_lt, Int.not_le, Decidable.not_not, Int.sub_neg, c_0, c_1, c_2, l_2, c_3, c_4, l_4, c_5, l_5, c_6, l_6, c_7, l_7, c_8, c_9, l_9, c_10, l_10, c_11, l_11, c_12, l_12, c_13, c_14, l_14, c_15, l_15, c_16, l_16, c_17, l_17, c_18, c_19, l_19, c_20, l_20, c_21, l_21, c_22, l_22, c_23, c_24, l_24, c_25, l_25, c_26, c_27, c_28, l_28, c_29, c_30, l_30, c_31, c_32, l_32, c_33, l_33, c_34, l_34, c_35, l_35, c_36, l_36, c_37, l_37, c_38, l_38, c_39, l_39, c_40, c_41, l_41, c_42, c_43, c_44, l_44, c_45, c_46, l_46, c_47, c_48, l_48, c_49, l_49, c_50, l_50, c_51, l_51, c_52, l_52, c_53, l_53, c_54, l_54, c_55, l_55, c_56, l_56, c_57, l_57, c_58, l_58, c_59, l_59, c_60, l_60, c_61, l_61, c_62, c_63, l_63, c_64, l_64, c_65, l_65, c_66, l_66, c_67, l_67, c_68, l_68, c_69, l_69, c_70, l_70, c_71, l_71, c_72, l_72, c_73, l_73, c_74, l_74, c_75, l_75, c_76, l_76, f15, e27]
        refine ⟨by omega, rfl, nxM (nxM N), hT2', by rw [u69 62 _ _ (by decide)]; exact f26, fun hw2 M3 hn3 e273 hT3 => ?_, fun hw2 => ?_⟩
        · rw [if_pos hw2] at h
          have g15 : M3 62 15 = N 3 5 := by rw [hn3.2 15 (by omega), u69 62 _ _ (by decide), f15]
          have h73 : J 73 [some (vr 62)] [] M3 := by
            have u70 : ∀ i v, mm_up M3 70 i v 62 = M3 62 := fun i v => mm_up_o _ _ (by decide)
            refine hJ 73 _ _ _ (show mm_wp _ _ _ mo_M_setLine_73 _ _ _ from ?_)
            simp only [mo_M_setLine_73, mm_wp, mm_ldi, mm_lda, mm_ldl, mm_sti, mm_sta, mm_stl, mm_inc, mm_2i, mm_mm, mm_2l, mm_lcmp, mm_i2l, mm_l2i, mm_cast8, mm_if1, mm_if2, mm_cmp, mm_swi, mm_sw, mm_pop1, mm_dup, mm_dup2, mm_geti, mm_geta, mm_puti, mm_iald, mm_bald, mm_aald, mm_iast, mm_bast, mm_alen, mm_acpy, mm_call, mm_callv, mm_recv, mm_pop, mm_find, mm_push, mm_cats, mm_cat, mm_reti, mm_retz, mm_retl, mm_reta, mm_retv, mm_set1, mm_set2, mm_kill, List.getElem?_cons_zero, List.getElem?_cons_succ, Int.reduceToNat, ↓reduceIte, Nat.reduceEqDiff, Nat.reduceDiv, Nat.reduceAdd, Nat.reduceLeDiff, Nat.zero_le, true_and, and_true, true_or, or_true, mm_b0, mm_b1, mm_lc_lt, mm_lc_le, mm_lc_gt, mm_lc_ge, mm_lc_eq, Int.not_lt, Int.not_le, Decidable.not_not, Int.sub_neg, c_0, c_1, c_2, l_2, c_3, c_4, l_4, c_5, l_5, c_6, l_6, c_7, l_7, c_8, c_9, l_9, c_10, l_10, c_11, l_11, c_12, l_12, c_13, c_14, l_14, c_15, l_15, c_16, l_16, c_17, l_17, c_18, c_19, l_19, c_20, l_20, c_21, l_21, c_22, l_22, c_23, c_24, l_24, c_25, l_25, c_26, c_27, c_28, l_28, c_29, c_30, l_30, c_31, c_32, l_32, c_33, l_33, c_34, l_34, c_35, l_35, c_36, l_36, c_37, l_37, c_38, l_38, c_39, l_39, c_40, c_41, l_41, c_42, c_43, c_44, l_44, c_45, c_46, l_46, c_47, c_48, l_48, c_49, l_49, c_50, l_50, c_51, l_51, c_52, l_52, c_53, l_53, c_54, l_54, c_55, l_55, c_56, l_56, c_57, l_57, c_58, l_58, c_59, l_59, c_60, l_60, c_61, l_61, c_62, c_63, l_63, c_64, l_64, c_65, l_65, c_66, l_66, c_67, l_67, c_68, l_68, c_69, l_69, c_70, l_70, c_71, l_71, c_72, l_72, c_73, l_73, c_74, l_74, c_75, l_75, c_76, l_76, g15, e273, u70]
            have hG3 : rlG M M3 := rlG_tr (rlG_go hg) (rlG_tr (rlG_nu hn) (rlG_tr (rlG_ar (o := 69) (by decide) (by decide)) (rlG_nu hn3)))
            refine ⟨by omega, by omega, h _ ⟨rlG_tr hG3 (rlG_tr (rlG_ar (o := 70) (by decide) (by decide)) (rlG_up (by decide) (by decide) (by decide))), fun _ => ⟨?_, ?_, ?_⟩, fun c => by simp at c⟩⟩
            · have a1 : chA (nxM (nxM N)) (nxM N 1 8) (nxM (nxM N) 1 8) 1 = nxM (nxM N) 1 := by unfold chA; rw [mm_up_o _ _ (by decide), mm_up_o _ _ (by decide), mm_up_o _ _ (by decide)]
              have a2 : chA (nxM (nxM N)) (nxM N 1 8) (nxM (nxM N) 1 8) 2 = nxM (nxM N) 2 := by unfold chA; rw [mm_up_o _ _ (by decide), mm_up_o _ _ (by decide), mm_up_o _ _ (by decide)]
              have hn2 := nx_c a1 a2
              refine rdT_N hn2.1 hn2.2 (rdT_M ?_ ?_ (fun j a b => ?_) hT3)
              · rw [mm_up_o _ _ (by decide), mm_up_o _ _ (by decide)]
              · rw [mm_up_i _ (by decide), u70]
              · rw [mm_up_i _ (by omega), u70]
            · generalize hi : nxM N 1 8 = ci at *
              generalize hj : nxM (nxM N) 1 8 = cj at *
              have b3 : nxM (nxM N) 3 = N 3 := by rw [nx_o _ (by decide), nx_o _ (by decide)]
              have bo : ∀ o, o ≠ 1 → nxM (nxM N) o = N o := fun o c => by rw [nx_o _ c, nx_o _ c]
              have k3 : ∀ o, o ≠ 1 → o ≠ 3 → o ≠ 5 → o ≠ 6 → nxM (chA (nxM (nxM N)) ci cj) o = N o := fun o a b c d => by rw [nx_o _ a]; unfold chA; rw [mm_up_o _ _ b, mm_up_o _ _ d, mm_up_o _ _ c, bo o a]
              have k35 : nxM (chA (nxM (nxM N)) ci cj) 3 5 = N 3 5 + 1 := by rw [nx_o _ (by decide)]; unfold chA; rw [mm_up_s, b3]
              have k34 : nxM (chA (nxM (nxM N)) ci cj) 3 4 = N 3 4 := by rw [nx_o _ (by decide)]; unfold chA; rw [mm_up_i _ (by decide), mm_up_o _ _ (by decide), mm_up_o _ _ (by decide), b3]
              have k5 : ∀ i, nxM (chA (nxM (nxM N)) ci cj) 5 i = if i = N 3 5 then ci else N 5 i := fun i => by rw [nx_o _ (by decide)]; unfold chA; rw [mm_up_o _ _ (by decide), mm_up_o _ _ (by decide), mm_up_if, b3, bo 5 (by decide)]
              have k6 : ∀ i, nxM (chA (nxM (nxM N)) ci cj) 6 i = if i = N 3 5 then cj else N 6 i := fun i => by rw [nx_o _ (by decide)]; unfold chA; rw [mm_up_o _ _ (by decide), mm_up_if, b3, mm_up_o _ _ (by decide), bo 6 (by decide)]
              have g13 : M3 62 13 = N 3 4 := by rw [hn3.2 13 (by omega), u69 62 _ _ (by decide), hn.2 13 (by omega), e13]
              have g18 : M3 62 18 = N 8 4 := by rw [hn3.2 18 (by omega), u69 62 _ _ (by decide), hn.2 18 (by omega), hg.2 18 (by omega), q18]
              have g68 : M3 68 = M 68 := by rw [hn3.1 68 (by decide), u69 68 _ _ (by decide), hn.1 68 (by decide), hg.1 68 (by decide)]
              have g69 : ∀ i, M3 69 i = if i = N 3 5 then ci else M 69 i := fun i => by rw [hn3.1 69 (by decide), mm_up_if, hn.1 69 (by decide), hg.1 69 (by decide)]
              have g70 : M3 70 = M 70 := by rw [hn3.1 70 (by decide), u69 70 _ _ (by decide), hn.1 70 (by decide), hg.1 70 (by decide)]
              have g71 : M3 71 = M 71 := by rw [hn3.1 71 (by decide), u69 71 _ _ (by decide), hn.1 71 (by decide), hg.1 71 (by decide)]
              show rdQ (nxM (chA (nxM (nxM N)) ci cj)) _
              unfold rdQ rdS
              rw [k34, k35, k3 4 (by decide) (by decide) (by decide) (by decide), k3 8 (by decide) (by decide) (by decide) (by decide), k3 9 (by decide) (by decide) (by decide) (by decide), k3 10 (by decide) (by decide) (by decide) (by decide), k3 11 (by decide) (by decide) (by decide) (by decide), k3 12 (by decide) (by decide) (by decide) (by decide)]
              rw [mm_up_s, mm_up_i _ (by decide), mm_up_i _ (by decide), u70, mm_up_o _ _ (show (68 : Nat) ≠ 62 by decide), mm_up_o _ _ (show (69 : Nat) ≠ 62 by decide), mm_up_o _ _ (show (70 : Nat) ≠ 62 by decide), mm_up_o _ _ (show (71 : Nat) ≠ 62 by decide), mm_up_o _ _ (show (68 : Nat) ≠ 70 by decide), mm_up_o _ _ (show (69 : Nat) ≠ 70 by decide), mm_up_o _ _ (show (71 : Nat) ≠ 70 by decide), g13, g18, g68, g71]
              refine ⟨by omega, rfl, rfl, rfl, qc, fun i i0 i1 => ?_, qa⟩
              rw [mm_up_if, k5, k6, g69, g70]
              split
              · exact ⟨rfl, rfl⟩
              · exact qh i i0 (by omega)
            · rw [mm_up_i _ (by decide), u70, hn3.2 26 (by omega), u69 62 _ _ (by decide), f26]
          show (¬ (1 : Int) = 0 → _) ∧ (_ → _)
          exact ⟨fun _ => h73, fun c => by simp at c⟩
        · rw [if_neg hw2] at h
          have hk := whK_1 (nxM (nxM N))
          show (¬ (0 : Int) = 0 → _) ∧ (_ → _)
          exact ⟨fun c => absurd rfl c, fun _ => ⟨Or.inl rfl, h _ (rdR_w (rlG_tr (rlG_go hg) (rlG_tr (rlG_nu hn) (rlG_ar (o := 69) (by decide) (by decide)))) hT2' hk.1 hk.2)⟩⟩
      show (¬ (1 : Int) = 0 → _) ∧ (_ → _)
      exact ⟨fun _ => h48, fun c => by simp at c⟩
    · rw [if_neg hw] at h
      have hk := whK_1 (nxM N)
      show (¬ (0 : Int) = 0 → _) ∧ (_ → _)
      exact ⟨fun c => absurd rfl c, fun _ => ⟨Or.inl rfl, h _ (rdR_w (rlG_go hg) hT1 hk.1 hk.2)⟩⟩
  have h13 : ¬ N 3 4 = 0 → J 13 [some (vr 62)] [] M := by
    intro c
    refine hJ 13 _ _ _ (show mm_wp _ _ _ mo_M_setLine_13 _ _ _ from ?_)
    simp only [mo_M_setLine_13, mm_wp, mm_ldi, mm_lda, mm_ldl, mm_sti, mm_sta, mm_stl, mm_inc, mm_2i, mm_mm, mm_2l, mm_lcmp, mm_i2l, mm_l2i, mm_cast8, mm_if1, mm_if2, mm_cmp, mm_swi, mm_sw, mm_pop1, mm_dup, mm_dup2, mm_geti, mm_geta, mm_puti, mm_iald, mm_bald, mm_aald, mm_iast, mm_bast, mm_alen, mm_acpy, mm_call, mm_callv, mm_recv, mm_pop, mm_find, mm_push, mm_cats, mm_cat, mm_reti, mm_retz, mm_retl, mm_reta, mm_retv, mm_set1, mm_set2, mm_kill, List.getElem?_cons_zero, List.getElem?_cons_succ, Int.reduceToNat, ↓reduceIte, Nat.reduceEqDiff, Nat.reduceDiv, Nat.reduceAdd, Nat.reduceLeDiff, Nat.zero_le, true_and, and_true, true_or, or_true, mm_b0, mm_b1, mm_lc_lt, mm_lc_le, mm_lc_gt, mm_lc_ge, mm_lc_eq, Int.not_lt, Int.not_le, Decidable.not_not, Int.sub_neg, c_0, c_1, c_2, l_2, c_3, c_4, l_4, c_5, l_5, c_6, l_6, c_7, l_7, c_8, c_9, l_9, c_10, l_10, c_11, l_11, c_12, l_12, c_13, c_14, l_14, c_15, l_15, c_16, l_16, c_17, l_17, c_18, c_19, l_19, c_20, l_20, c_21, l_21, c_22, l_22, c_23, c_24, l_24, c_25, l_25, c_26, c_27, c_28, l_28, c_29, c_30, l_30, c_31, c_32, l_32, c_33, l_33, c_34, l_34, c_35, l_35, c_36, l_36, c_37, l_37, c_38, l_38, c_39, l_39, c_40, c_41, l_41, c_42, c_43, c_44, l_44, c_45, c_46, l_46, c_47, c_48, l_48, c_49, l_49, c_50, l_50, c_51, l_51, c_52, l_52, c_53, l_53, c_54, l_54, c_55, l_55, c_56, l_56, c_57, l_57, c_58, l_58, c_59, l_59, c_60, l_60, c_61, l_61, c_62, c_63, l_63, c_64, l_64, c_65, l_65, c_66, l_66, c_67, l_67, c_68, l_68, c_69, l_69, c_70, l_70, c_71, l_71, c_72, l_72, c_73, l_73, c_74, l_74, c_75, l_75, c_76, l_76, t_M_wrong]
    refine ⟨fun z => h28 c (by omega), fun z => ⟨h26, hb.1, hb.2.1, by omega, by omega, ?_⟩⟩
    rw [if_neg c, if_pos (by omega)] at h
    exact h _ (rdR_w (rlG_rf M) hT (by omega) (by omega))
  refine hJ 0 _ _ _ (show mm_wp _ _ _ mo_M_setLine_0 _ _ _ from ?_)
  simp only [mo_M_setLine_0, mm_wp, mm_ldi, mm_lda, mm_ldl, mm_sti, mm_sta, mm_stl, mm_inc, mm_2i, mm_mm, mm_2l, mm_lcmp, mm_i2l, mm_l2i, mm_cast8, mm_if1, mm_if2, mm_cmp, mm_swi, mm_sw, mm_pop1, mm_dup, mm_dup2, mm_geti, mm_geta, mm_puti, mm_iald, mm_bald, mm_aald, mm_iast, mm_bast, mm_alen, mm_acpy, mm_call, mm_callv, mm_recv, mm_pop, mm_find, mm_push, mm_cats, mm_cat, mm_reti, mm_retz, mm_retl, mm_reta, mm_retv, mm_set1, mm_set2, mm_kill, List.getElem?_cons_zero, List.getElem?_cons_succ, Int.reduceToNat, ↓reduceIte, Nat.reduceEqDiff, Nat.reduceDiv, Nat.reduceAdd, Nat.reduceLeDiff, Nat.zero_le, true_and, and_true, true_or, or_true, mm_b0, mm_b1, mm_lc_lt, mm_lc_le, mm_lc_gt, mm_lc_ge, mm_lc_eq, Int.not_lt, Int.not_le, Decidable.not_not, Int.sub_neg, c_0, c_1, c_2, l_2, c_3, c_4, l_4, c_5, l_5, c_6, l_6, c_7, l_7, c_8, c_9, l_9, c_10, l_10, c_11, l_11, c_12, l_12, c_13, c_14, l_14, c_15, l_15, c_16, l_16, c_17, l_17, c_18, c_19, l_19, c_20, l_20, c_21, l_21, c_22, l_22, c_23, c_24, l_24, c_25, l_25, c_26, c_27, c_28, l_28, c_29, c_30, l_30, c_31, c_32, l_32, c_33, l_33, c_34, l_34, c_35, l_35, c_36, l_36, c_37, l_37, c_38, l_38, c_39, l_39, c_40, c_41, l_41, c_42, c_43, c_44, l_44, c_45, c_46, l_46, c_47, c_48, l_48, c_49, l_49, c_50, l_50, c_51, l_51, c_52, l_52, c_53, l_53, c_54, l_54, c_55, l_55, c_56, l_56, c_57, l_57, c_58, l_58, c_59, l_59, c_60, l_60, c_61, l_61, c_62, c_63, l_63, c_64, l_64, c_65, l_65, c_66, l_66, c_67, l_67, c_68, l_68, c_69, l_69, c_70, l_70, c_71, l_71, c_72, l_72, c_73, l_73, c_74, l_74, c_75, l_75, c_76, l_76, t_M_wrong]
  refine ⟨fun z => h13 (by omega), fun z => ⟨h26, hb.1, hb.2.1, by omega, by omega, ?_⟩⟩
  rw [if_pos (by omega)] at h
  exact h _ (rdR_w (rlG_rf M) hT (by omega) (by omega))
theorem kd_b (N : mmM) : -1 ≤ kdF N ∧ kdF N ≤ 7 := by
  unfold kdF
  repeat' split
  all_goals omega
/-- told all but the question that is being asked -/
theorem rdQ_71 {N M M' : mmM} (h13 : M' 62 13 = M 62 13) (h15 : M' 62 15 = M 62 15) (h18 : M' 62 18 = M 62 18) (hM : ∀ o, 68 ≤ o → o ≤ 70 → M' o = M o) (h71 : ∀ i, i < 4 * N 8 4 → M' 71 i = M 71 i) (h : rdQ N M) : rdQ N M' := by
  unfold rdQ at *
  rw [h13, h15, h18, hM 68 (by decide) (by decide), hM 69 (by decide) (by decide), hM 70 (by decide) (by decide)]
  obtain ⟨a, b, c, d, e, f, g⟩ := h
  refine ⟨a, b, c, d, e, f, fun q q0 q1 => ?_⟩
  rw [h71 _ (by omega), h71 _ (by omega), h71 _ (by omega), h71 _ (by omega)]
  exact g q q0 q1
def t_M_askLine : mmT := fun as M Q => match as with
  | [.inr (.inr o)] => o = 62 ∧ ∃ N, rdT N M ∧ rdQ N M ∧ M 62 26 = 0 ∧ ∀ M', rdR (askF N) M M' → Q (some (vi (askF N).1)) M'
  | _ => False
set_option maxHeartbeats 4000000 in
set_option maxRecDepth 100000 in
theorem p_M_askLine : ∀ as M Q, (∀ v ∈ as, mm_vin v) → mm_mem M → t_M_askLine as M Q → (mm_ent as).length ≤ 3 ∧ mm_ok mb_M_askLine [(1109, t_M_wrong), (1108, t_M_go), (1117, t_M_number), (1116, t_M_kindHere), (1111, t_M_isWord)] (mm_entry 3 as) M Q := by
  intro as M Q hin hM h
  unfold t_M_askLine at h
  split at h
  rotate_left
  · exact h.elim
  rename_i o
  refine ⟨by simp [mm_ent], (show mm_ok mb_M_askLine [(1109, t_M_wrong), (1108, t_M_go), (1117, t_M_number), (1116, t_M_kindHere), (1111, t_M_isWord)] [some (vr o), none, none] M Q from ?_)⟩
  intro J hJ
  obtain ⟨rfl, N, hT, hQ, h26, h⟩ := h
  have hb := rdT_b hT
  obtain ⟨hS, q13, q15, q18, qc, qh, qa⟩ := id hQ
  have hS2 := hS
  unfold rdS at hS2
  unfold askF at h
  have u : ∀ (A : mmM) (i v : Int) (o : Nat), o ≠ 71 → mm_up A 71 i v o = A o := fun A i v o c => mm_up_o _ _ c
  have h28 : ¬ N 3 4 = 0 → ¬ 24 ≤ N 8 4 → J 28 [some (vr 62), none, none] [] M := by
    intro c1 c2
    rw [if_neg c1, if_neg c2] at h
    refine hJ 28 _ _ _ (show mm_wp _ _ _ mo_M_askLine_28 _ _ _ from ?_)
    simp only [mo_M_askLine_28, mm_wp, mm_ldi, mm_lda, mm_ldl, mm_sti, mm_sta, mm_stl, mm_inc, mm_2i, mm_mm, mm_2l, mm_lcmp, mm_i2l, mm_l2i, mm_cast8, mm_if1, mm_if2, mm_cmp, mm_swi, mm_sw, mm_pop1, mm_dup, mm_dup2, mm_geti, mm_geta, mm_puti, mm_iald, mm_bald, mm_aald, mm_iast, mm_bast, mm_alen, mm_acpy, mm_call, mm_callv, mm_recv, mm_pop, mm_find, mm_push, mm_cats, mm_cat, mm_reti, mm_retz, mm_retl, mm_reta, mm_retv, mm_set1, mm_set2, mm_kill, List.getElem?_cons_zero, List.getElem?_cons_succ, Int.reduceToNat, ↓reduceIte, Nat.reduceEqDiff, Nat.reduceDiv, Nat.reduceAdd, Nat.reduceLeDiff, Nat.zero_le, true_and, and_true, true_or, or_true, mm_b0, mm_b1, mm_lc_lt, mm_lc_le, mm_lc_gt, mm_lc_ge, mm_lc_eq, Int.not_lt, Int.not_le, Decidable.not_not, Int.sub_neg, c_0, c_1, c_2, l_2, c_3, c_4, l_4, c_5, l_5, c_6, l_6, c_7, l_7, c_8, c_9, l_9, c_10, l_10, c_11, l_11, c_12, l_12, c_13, c_14, l_14, c_15, l_15, c_16, l_16, c_17, l_17, c_18, c_19, l_19, c_20, l_20, c_21, l_21, c_22, l_22, c_23, c_24, l_24, c_25, l_25, c_26, c_27, c_28, l_28, c_29, c_30, l_30, c_31, c_32, l_32, c_33, l_33, c_34, l_34, c_35, l_35, c_36, l_36, c_37, l_37, c_38, l_38, c_39, l_39, c_40, c_41, l_41, c_42, c_43, c_44, l_44, c_45, c_46, l_46, c_47, c_48, l_48, c_49, l_49, c_50, l_50, c_51, l_51, c_52, l_52, c_53, l_53, c_54, l_54, c_55, l_55, c_56, l_56, c_57, l_57, c_58, l_58, c_59, l_59, c_60, l_60, c_61, l_61, c_62, c_63, l_63, c_64, l_64, c_65, l_65, c_66, l_66, c_67, l_67, c_68, l_68, c_69, l_69, c_70, l_70, c_71, l_71, c_72, l_72, c_73, l_73, c_74, l_74, c_75, l_75, c_76, l_76, t_M_go, t_M_kindHere, t_M_wrong]
    refine ⟨N, rdT_P hT, fun M1 hg hT1 => ?_⟩
    have hQ1 := rdQ_go hg hQ
    have hb1 := rdT_b hT1
    have e18 : M1 62 18 = N 8 4 := by rw [hg.2 18 (by omega), q18]
    have e26 : M1 62 26 = 0 := by rw [hg.2 26 (by omega), h26]
    rw [e18]
    have hkb := kd_b (nxM N)
    refine ⟨by omega, nxM N, hT1, fun z => ?_, fun z => ⟨e26, hb1.1, hb1.2.1, by omega, by omega, ?_⟩⟩
    · rw [if_neg (by omega)] at h
      generalize hK : kdF (nxM N) = K at *
      generalize hq4 : 4 * N 8 4 = q4 at *
      have hG1 := rlG_go hg
      refine hJ 54 _ _ _ (show mm_wp _ _ _ mo_M_askLine_54 _ _ _ from ?_)
      simp only [mo_M_askLine_54, mm_wp, mm_ldi, mm_lda, mm_ldl, mm_sti, mm_sta, mm_stl, mm_inc, mm_2i, mm_mm, mm_2l, mm_lcmp, mm_i2l, mm_l2i, mm_cast8, mm_if1, mm_if2, mm_cmp, mm_swi, mm_sw, mm_pop1, mm_dup, mm_dup2, mm_geti, mm_geta, mm_puti, mm_iald, mm_bald, mm_aald, mm_iast, mm_bast, mm_alen, mm_acpy, mm_call, mm_callv, mm_recv, mm_pop, mm_find, mm_push, mm_cats, mm_cat, mm_reti, mm_retz, mm_retl, mm_reta, mm_retv, mm_set1, mm_set2, mm_kill, List.getElem?_cons_zero, List.getElem?_cons_succ, Int.reduceToNat, ↓reduceIte, Nat.reduceEqDiff, Nat.reduceDiv, Nat.reduceAdd, Nat.reduceLeDiff, Nat.zero_le, true_and, and_true, true_or, or_true, mm_b0, mm_b1, mm_lc_lt, mm_lc_le, mm_lc_gt, mm_lc_ge, mm_lc_eq, Int.not_lt, Int.not_le, Decidable.not_not, Int.sub_neg, c_0, c_1, c_2, l_2, c_3, c_4, l_4, c_5, l_5, c_6, l_6, c_7, l_7, c_8, c_9, l_9, c_10, l_10, c_11, l_11, c_12, l_12, c_13, c_14, l_14, c_15, l_15, c_16, l_16, c_17, l_17, c_18, c_19, l_19, c_20, l_20, c_21, l_21, c_22, l_22, c_23, c_24, l_24, c_25, l_25, c_26, c_27, c_28, l_28, c_29, c_30, l_30, c_31, c_32, l_32, c_33, l_33, c_34, l_34, c_35, l_35, c_36, l_36, c_37, l_37, c_38, l_38, c_39, l_39, c_40, c_41, l_41, c_42, c_43, c_44, l_44, c_45, c_46, l_46, c_47, c_48, l_48, c_49, l_49, c_50, l_50, c_51, l_51, c_52, l_52, c_53, l_53, c_54, l_54, c_55, l_55, c_56, l_56, c_57, l_57, c_58, l_58, c_59, l_59, c_60, l_60, c_61, l_61, c_62, c_63, l_63, c_64, l_64, c_65, l_65, c_66, l_66, c_67, l_67, c_68, l_68, c_69, l_69, c_70, l_70, c_71, l_71, c_72, l_72, c_73, l_73, c_74, l_74, c_75, l_75, c_76, l_76, t_M_go]
      have hT1' : rdT (nxM N) (mm_up M1 71 q4 K) := rdT_M (u _ _ _ _ (by decide)) (by rw [u _ _ _ _ (by decide)]) (fun j a b => by rw [u _ _ _ _ (by decide)]) hT1
      refine ⟨by omega, nxM N, rdT_P hT1', fun M2 hg2 hT2 => ?_⟩
      have f13 : M2 62 13 = N 3 4 := by rw [hg2.2 13 (by omega), u _ _ _ _ (by decide), hg.2 13 (by omega), q13]
      have f26 : M2 62 26 = 0 := by rw [hg2.2 26 (by omega), u _ _ _ _ (by decide), e26]
      have f71 : ∀ i, M2 71 i = if i = q4 then K else M 71 i := fun i => by rw [hg2.1 71 (by decide), mm_up_if, hg.1 71 (by decide)]
      have hG2 : rlG M M2 := rlG_tr hG1 (rlG_tr (rlG_ar (o := 71) (by decide) (by decide)) (rlG_go hg2))
      rw [f13]
      refine ⟨by omega, rfl, nxM (nxM N), hT2, f26, fun hw M3 hn3 e27 hT3 => ?_, fun hw => ?_⟩
      · rw [if_pos hw] at h
        have h81 : J 81 [some (vr 62), some (vi q4), some (vi K)] [] M3 := by
          have v13 : M3 62 13 = N 3 4 := by rw [hn3.2 13 (by omega), f13]
          have v26 : M3 62 26 = 0 := by rw [hn3.2 26 (by omega), f26]
          have v71 : M3 71 = M2 71 := hn3.1 71 (by decide)
          have v15 : M3 62 15 = N 3 5 := by rw [hn3.2 15 (by omega), hg2.2 15 (by omega), u _ _ _ _ (by decide), hg.2 15 (by omega), q15]
          have v18 : M3 62 18 = N 8 4 := by rw [hn3.2 18 (by omega), hg2.2 18 (by omega), u _ _ _ _ (by decide), e18]
          generalize hF : nxM (nxM N) 1 8 = F at *
          have hT3' : rdT (nxM (nxM (nxM N))) (mm_up M3 71 (q4 + 1) F) := rdT_M (u _ _ _ _ (by decide)) (by rw [u _ _ _ _ (by decide)]) (fun j a b => by rw [u _ _ _ _ (by decide)]) hT3
          have hG3 : rlG M (mm_up M3 71 (q4 + 1) F) := rlG_tr hG2 (rlG_tr (rlG_nu hn3) (rlG_ar (o := 71) (by decide) (by decide)))
          have x13 : ∀ v, mm_up M3 71 (q4 + 1) v 62 13 = N 3 4 := fun v => by rw [u _ _ _ _ (by decide), v13]
          refine hJ 81 _ _ _ (show mm_wp _ _ _ mo_M_askLine_81 _ _ _ from ?_)
          simp only [mo_M_askLine_81, mm_wp, mm_ldi, mm_lda, mm_ldl, mm_sti, mm_sta, mm_stl, mm_inc, mm_2i, mm_mm, mm_2l, mm_lcmp, mm_i2l, mm_l2i, mm_cast8, mm_if1, mm_if2, mm_cmp, mm_swi, mm_sw, mm_pop1, mm_dup, mm_dup2, mm_geti, mm_geta, mm_puti, mm_iald, mm_bald, mm_aald, mm_iast, mm_bast, mm_alen, mm_acpy, mm_call, mm_callv, mm_recv, mm_pop, mm_find, mm_push, mm_cats, mm_cat, mm_reti, mm_retz, mm_retl, mm_reta, mm_retv, mm_set1, mm_set2, mm_kill, List.getElem?_cons_zero, List.getElem?_cons_succ, Int.reduceToNat, ↓reduceIte, Nat.reduceEqDiff, Nat.reduceDiv, Nat.reduceAdd, Nat.reduceLeDiff, Nat.zero_le, true_and, and_true, true_or, or_true, mm_b0, mm_b1, mm_lc_lt, mm_lc_le, mm_lc_gt, mm_lc_ge, mm_lc_eq, Int.not_lt, Int.not_le, Decidable.not_not, Int.sub_neg, c_0, c_1, c_2, l_2, c_3, c_4, l_4, c_5, l_5, c_6, l_6, c_7, l_7, c_8, c_9, l_9, c_10, l_10, c_11, l_11, c_12, l_12, c_13, c_14, l_14, c_15, l_15, c_16, l_16, c_17, l_17, c_18, c_19, l_19, c_20, l_20, c_21, l_21, c_22, l_22, c_23, c_24, l_24, c_25, l_25, c_26, c_27, c_28, l_28, c_29, c_30, l_30, c_31, c_32, l_32, c_33, l_33, c_34, l_34, c_35, l_35, c_36, l_36, c_37, l_37, c_38, l_38, c_39, l_39, c_40, c_41, l_41, c_42, c_43, c_44, l_44, c_45, c_46, l_46, c_47, c_48, l_48, c_49, l_49, c_50, l_50, c_51, l_51, c_52, l_52, c_53, l_53, c_54, l_54, c_55, l_55, c_56, l_56, c_57, l_57, c_58, l_58, c_59, l_59, c_60, l_60, c_61, l_61, c_62, c_63, l_63, c_64, l_64, c_65, l_65, c_66, l_66, c_67, l_67, c_68, l_68, c_69, l_69, c_70, l_70, c_71, l_71, c_72, l_72, c_73, l_73, c_74, l_74, c_75, l_75, c_76, l_76, e27, mm_up_s, x13]
          refine ⟨by omega, by omega, by omega, by omega, by omega, rfl, nxM (nxM (nxM N)), hT3', by rw [u _ _ _ _ (by decide), v26], fun hw2 M4 hn4 e274 hT4 => ?_, fun hw2 => ?_⟩
          · rw [if_pos hw2] at h
            have w15 : M4 62 15 = N 3 5 := by rw [hn4.2 15 (by omega), u _ _ _ _ (by decide), v15]
            have w18 : M4 62 18 = N 8 4 := by rw [hn4.2 18 (by omega), u _ _ _ _ (by decide), v18]
            have w13 : M4 62 13 = N 3 4 := by rw [hn4.2 13 (by omega), u _ _ _ _ (by decide), v13]
            have w26 : M4 62 26 = 0 := by rw [hn4.2 26 (by omega), u _ _ _ _ (by decide), v26]
            have w71 : ∀ i, M4 71 i = if i = q4 + 1 then F else if i = q4 then K else M 71 i := fun i => by rw [hn4.1 71 (by decide), mm_up_if, v71, f71]
            have wo : ∀ o, 68 ≤ o → o ≤ 70 → M4 o = M o := fun o a b => by rw [hn4.1 o (by omega), u _ _ _ _ (by omega), hn3.1 o (by omega), hg2.1 o (by omega), u _ _ _ _ (by omega), hg.1 o (by omega)]
            have hG4 : rlG M M4 := rlG_tr hG3 (rlG_nu hn4)
            generalize hN4 : nxM (nxM (nxM (nxM N))) = N4 at *
            generalize hL : nxM (nxM (nxM N)) 1 8 = L at *
            have n4o : ∀ o, o ≠ 1 → N4 o = N o := fun o c => by rw [← hN4, nx_o _ c, nx_o _ c, nx_o _ c, nx_o _ c]
            unfold tmF at h
            have h186 : ∀ (tt : Int) (N9 M5 : mmM), (∀ o, o ≠ 1 → N9 o = N o) → rdT N9 M5 → rlG M M5 → M5 62 13 = N 3 4 → M5 62 15 = N 3 5 → M5 62 18 = N 8 4 → M5 62 26 = 0 → (∀ o, 68 ≤ o → o ≤ 70 → M5 o = M o) → (∀ i, i < q4 → M5 71 i = M 71 i) → M5 71 q4 = K → M5 71 (q4 + 1) = F → M5 71 (q4 + 2) = L → M5 71 (q4 + 3) = tt → (∀ M', rdR (1, qAdd N9 8 K F L tt) M M' → Q (some (vi 1)) M') → J 186 [some (vr 62), some (vi q4), some (vi K)] [] M5 := by
              intro tt N9 M5 n9 hT5 hG5 r13 r15 r18 r26 ro r71 r0 r1 r2 r3 hq
              refine hJ 186 _ _ _ (show mm_wp _ _ _ mo_M_askLine_186 _ _ _ from ?_)
              simp only [mo_M_askLine_186, mm_wp, mm_ldi, mm_lda, mm_ldl, mm_sti, mm_sta, mm_stl, mm_inc, mm_2i, mm_mm, mm_2l, mm_lcmp, mm_i2l, mm_l2i, mm_cast8, mm_if1, mm_if2, mm_cmp, mm_swi, mm_sw, mm_pop1, mm_dup, mm_dup2, mm_geti, mm_geta, mm_puti, mm_iald, mm_bald, mm_aald, mm_iast, mm_bast, mm_alen, mm_acpy, mm_call, mm_callv, mm_recv, mm_pop, mm_find, mm_push, mm_cats, mm_cat, mm_reti, mm_retz, mm_retl, mm_reta, mm_retv, mm_set1, mm_set2, mm_kill, List.getElem?_cons_zero, List.getElem?_cons_succ, Int.reduceToNat, ↓reduceIte, Nat.reduceEqDiff, Nat.reduceDiv, Nat.reduceAdd, Nat.reduceLeDiff, Nat.zero_le, true_and, and_true, true_or, or_true, mm_b0, mm_b1, mm_lc_lt, mm_lc_le, mm_lc_gt, mm_lc_ge, mm_lc_eq, Int.not_lt, Int.not_le, Decidable.not_not, Int.sub_neg, c_0, c_1, c_2, l_2, c_3, c_4, l_4, c_5, l_5, c_6, l_6, c_7, l_7, c_8, c_9, l_9, c_10, l_10, c_11, l_11, c_12, l_12, c_13, c_14, l_14, c_15, l_15, c_16, l_16, c_17, l_17, c_18, c_19, l_19, c_20, l_20, c_21, l_21, c_22, l_22, c_23, c_24, l_24, c_25, l_25, c_26, c_27, c_28, l_28, c_29, c_30, l_30, c_31, c_32, l_32, c_33, l_33, c_34, l_34, c_35, l_35, c_36, l_36, c_37, l_37, c_38, l_38, c_39, l_39, c_40, c_41, l_41, c_42, c_43, c_44, l_44, c_45, c_46, l_46, c_47, c_48, l_48, c_49, l_49, c_50, l_50, c_51, l_51, c_52, l_52, c_53, l_53, c_54, l_54, c_55, l_55, c_56, l_56, c_57, l_57, c_58, l_58, c_59, l_59, c_60, l_60, c_61, l_61, c_62, c_63, l_63, c_64, l_64, c_65, l_65, c_66, l_66, c_67, l_67, c_68, l_68, c_69, l_69, c_70, l_70, c_71, l_71, c_72, l_72, c_73, l_73, c_74, l_74, c_75, l_75, c_76, l_76, r18]
              refine ⟨by omega, hq _ ⟨rlG_tr hG5 (rlG_up (by decide) (by decide) (by decide)), fun _ => ⟨?_, ?_, ?_⟩, fun c => by simp at c⟩⟩
              · exact rdT_N (N := N9) (N' := qAdd N9 8 K F L tt) (qA_o (by omega)) (qA_o (by omega)) (rdT_M (by rw [mm_up_o _ _ (by decide)]) (by rw [mm_up_i _ (by decide)]) (fun j a b => by rw [mm_up_i _ (by omega)]) hT5)
              · have k3 : ∀ o, o ≠ 1 → o < 8 → qAdd N9 8 K F L tt o = N o := fun o a b => by rw [qA_o (by omega), n9 o a]
                have k8 : qAdd N9 8 K F L tt 8 4 = N 8 4 + 1 := by rw [qA_n, n9 8 (by decide)]
                have k9 : ∀ i, qAdd N9 8 K F L tt 9 i = (if i = N 8 4 then K else N 9 i) ∧ qAdd N9 8 K F L tt 10 i = (if i = N 8 4 then F else N 10 i) ∧ qAdd N9 8 K F L tt 11 i = (if i = N 8 4 then L else N 11 i) ∧ qAdd N9 8 K F L tt 12 i = (if i = N 8 4 then tt else N 12 i) := by
                  intro i
                  unfold qAdd
                  rw [n9 8 (by decide)]
                  refine ⟨?_, ?_, ?_, ?_⟩
                  · rw [mm_up_o _ _ (by decide), mm_up_o _ _ (by decide), mm_up_o _ _ (by decide), mm_up_o _ _ (by decide), mm_up_if, n9 9 (by decide)]
                  · rw [mm_up_o _ _ (by decide), mm_up_o _ _ (by decide), mm_up_o _ _ (by decide), mm_up_if, mm_up_o _ _ (by decide), n9 10 (by decide)]
                  · rw [mm_up_o _ _ (by decide), mm_up_o _ _ (by decide), mm_up_if, mm_up_o _ _ (by decide), mm_up_o _ _ (by decide), n9 11 (by decide)]
                  · rw [mm_up_o _ _ (by decide), mm_up_if, mm_up_o _ _ (by decide), mm_up_o _ _ (by decide), mm_up_o _ _ (by decide), n9 12 (by decide)]
                show rdQ (qAdd N9 8 K F L tt) _
                unfold rdQ rdS
                rw [k8, k3 3 (by decide) (by decide), k3 4 (by decide) (by decide), k3 5 (by decide) (by decide), k3 6 (by decide) (by decide)]
                rw [mm_up_s, mm_up_i _ (by decide), mm_up_i _ (by decide), mm_up_o _ _ (show (68 : Nat) ≠ 62 by decide), mm_up_o _ _ (show (69 : Nat) ≠ 62 by decide), mm_up_o _ _ (show (70 : Nat) ≠ 62 by decide), mm_up_o _ _ (show (71 : Nat) ≠ 62 by decide), r13, r15, ro 68 (by decide) (by decide), ro 69 (by decide) (by decide), ro 70 (by decide) (by decide)]
                refine ⟨by omega, rfl, rfl, rfl, qc, qh, fun q q0 q1 => ?_⟩
                obtain ⟨y1, y2, y3, y4⟩ := k9 q
                rw [y1, y2, y3, y4]
                by_cases c : q = N 8 4
                · rw [if_pos c, if_pos c, if_pos c, if_pos c, c, hq4]
                  exact ⟨r0, r1, r2, r3⟩
                · rw [if_neg c, if_neg c, if_neg c, if_neg c, r71 _ (by omega), r71 _ (by omega), r71 _ (by omega), r71 _ (by omega)]
                  exact qa q q0 (by omega)
              · rw [mm_up_i _ (by decide), r26]
            have h116 : J 116 [some (vr 62), some (vi q4), some (vi K)] [] M4 := by
              have y15 : ∀ v, mm_up M4 71 (q4 + 2) v 62 15 = N 3 5 := fun v => by rw [u _ _ _ _ (by decide), w15]
              generalize hM5 : mm_up (mm_up M4 71 (q4 + 2) L) 71 (q4 + 3) (N 3 5) = M5
              have z62 : M5 62 = M4 62 := by rw [← hM5, u _ _ _ _ (by decide), u _ _ _ _ (by decide)]
              have zo : ∀ o, o ≠ 71 → M5 o = M4 o := fun o c => by rw [← hM5, u _ _ _ _ c, u _ _ _ _ c]
              have z71 : ∀ i, M5 71 i = if i = q4 + 3 then N 3 5 else if i = q4 + 2 then L else if i = q4 + 1 then F else if i = q4 then K else M 71 i := fun i => by rw [← hM5, mm_up_if, mm_up_if, w71]
              have hT5 : rdT N4 M5 := rdT_M (zo 63 (by decide)) (by rw [z62]) (fun j a b => by rw [z62]) hT4
              have hG5 : rlG M M5 := by rw [← hM5]; exact rlG_tr hG4 (rlG_tr (rlG_ar (o := 71) (by decide) (by decide)) (rlG_ar (o := 71) (by decide) (by decide)))
              refine hJ 116 _ _ _ (show mm_wp _ _ _ mo_M_askLine_116 _ _ _ from ?_)
              simp only [mo_M_askLine_116, mm_wp, mm_ldi, mm_lda, mm_ldl, mm_sti, mm_sta, mm_stl, mm_inc, mm_2i, mm_mm, mm_2l, mm_lcmp, mm_i2l, mm_l2i, mm_cast8, mm_if1, mm_if2, mm_cmp, mm_swi, mm_sw, mm_pop1, mm_dup, mm_dup2, mm_geti, mm_geta, mm_puti, mm_iald, mm_bald, mm_aald, mm_iast, mm_bast, mm_alen, mm_acpy, mm_call, mm_callv, mm_recv, mm_pop, mm_find, mm_push, mm_cats, mm_cat, mm_reti, mm_retz, mm_retl, mm_reta, mm_retv, mm_set1, mm_set2, mm_kill, List.getElem?_cons_zero, List.getElem?_cons_succ, Int.reduceToNat, ↓reduceIte, Nat.reduceEqDiff, Nat.reduceDiv, Nat.reduceAdd, Nat.reduceLeDiff, Nat.zero_le, true_and, and_true, true_or, or_true, mm_b0, mm_b1, mm_lc_lt, mm_lc_le, mm_lc_gt, mm_lc_ge, mm_lc_eq, Int.not_lt, Int.not_le, Decidable.not_not, Int.sub_neg, c_0, c_1, c_2, l_2, c_3, c_4, l_4, c_5, l_5, c_6, l_6, c_7, l_7, c_8, c_9, l_9, c_10, l_10, c_11, l_11, c_12, l_12, c_13, c_14, l_14, c_15, l_15, c_16, l_16, c_17, l_17, c_18, c_19, l_19, c_20, l_20, c_21, l_21, c_22, l_22, c_23, c_24, l_24, c_25, l_25, c_26, c_27, c_28, l_28, c_29, c_30, l_30, c_31, c_32, l_32, c_33, l_33, c_34, l_34, c_35, l_35, c_36, l_36, c_37, l_37, c_38, l_38, c_39, l_39, c_40, c_41, l_41, c_42, c_43, c_44, l_44, c_45, c_46, l_46, c_47, c_48, l_48, c_49, l_49, c_50, l_50, c_51, l_51, c_52, l_52, c_53, l_53, c_54, l_54, c_55, l_55, c_56, l_56, c_57, l_57, c_58, l_58, c_59, l_59, c_60, l_60, c_61, l_61, c_62, c_63, l_63, c_64, l_64, c_65, l_65, c_66, l_66, c_67, l_67, c_68, l_68, c_69, l_69, c_70, l_70, c_71, l_71, c_72, l_72, c_73, l_73, c_74, l_74, c_75, l_75, c_76, l_76, e274, y15, hM5]
              refine ⟨by omega, by omega, by omega, by omega, wd_call hT5 3 (by decide) (by decide) ?_⟩
              simp only [mm_wp, mm_ldi, mm_lda, mm_ldl, mm_sti, mm_sta, mm_stl, mm_inc, mm_2i, mm_mm, mm_2l, mm_lcmp, mm_i2l, mm_l2i, mm_cast8, mm_if1, mm_if2, mm_cmp, mm_swi, mm_sw, mm_pop1, mm_dup, mm_dup2, mm_geti, mm_geta, mm_puti, mm_iald, mm_bald, mm_aald, mm_iast, mm_bast, mm_alen, mm_acpy, mm_call, mm_callv, mm_recv, mm_pop, mm_find, mm_push, mm_cats, mm_cat, mm_reti, mm_retz, mm_retl, mm_reta, mm_retv, mm_set1, mm_set2, mm_kill, List.getElem?_cons_zero, List.getElem?_cons_succ, Int.reduceToNat, ↓reduceIte, Nat.reduceEqDiff, Nat.reduceDiv, Nat.reduceAdd, Nat.reduceLeDiff, Nat.zero_le, true_and, and_true, true_or, or_true, mm_b0, mm_b1, mm_lc_lt, mm_lc_le, mm_lc_gt, mm_lc_ge, mm_lc_eq, Int.not_lt, Int.not_le, Decidable.not_not, Int.sub_neg, c_0, c_1, c_2, l_2, c_3, c_4, l_4, c_5, l_5, c_6, l_6, c_7, l_7, c_8, c_9, l_9, c_10, l_10, c_11, l_11, c_12, l_12, c_13, c_14, l_14, c_15, l_15, c_16, l_16, c_17, l_17, c_18, c_19, l_19, c_20, l_20, c_21, l_21, c_22, l_22, c_23, c_24, l_24, c_25, l_25, c_26, c_27, c_28, l_28, c_29, c_30, l_30, c_31, c_32, l_32, c_33, l_33, c_34, l_34, c_35, l_35, c_36, l_36, c_37, l_37, c_38, l_38, c_39, l_39, c_40, c_41, l_41, c_42, c_43, c_44, l_44, c_45, c_46, l_46, c_47, c_48, l_48, c_49, l_49, c_50, l_50, c_51, l_51, c_52, l_52, c_53, l_53, c_54, l_54, c_55, l_55, c_56, l_56, c_57, l_57, c_58, l_58, c_59, l_59, c_60, l_60, c_61, l_61, c_62, c_63, l_63, c_64, l_64, c_65, l_65, c_66, l_66, c_67, l_67, c_68, l_68, c_69, l_69, c_70, l_70, c_71, l_71, c_72, l_72, c_73, l_73, c_74, l_74, c_75, l_75, c_76, l_76, t_M_go]
              refine ⟨fun hz => ?_, fun hz => ?_⟩
              · rw [if_neg hz, n4o 3 (by decide)] at h
                refine h186 (N 3 5) N4 M5 n4o hT5 hG5 (by rw [z62, w13]) (by rw [z62, w15]) (by rw [z62, w18]) (by rw [z62, w26]) (fun o a b => by rw [zo o (by omega), wo o a b]) (fun i hi => ?_) ?_ ?_ ?_ ?_ h
                · rw [z71, if_neg (by omega), if_neg (by omega), if_neg (by omega), if_neg (by omega)]
                · rw [z71, if_neg (by omega), if_neg (by omega), if_neg (by omega), if_pos rfl]
                · rw [z71, if_neg (by omega), if_neg (by omega), if_pos rfl]
                · rw [z71, if_neg (by omega), if_pos rfl]
                · rw [z71, if_pos rfl]
              · rw [if_pos hz, n4o 3 (by decide)] at h
                refine ⟨N4, rdT_P hT5, fun M6 hg6 hT6 => ?_⟩
                have p15 : M6 62 15 = N 3 5 := by rw [hg6.2 15 (by omega), z62, w15]
                have p26 : M6 62 26 = 0 := by rw [hg6.2 26 (by omega), z62, w26]
                rw [p15]
                refine ⟨rfl, nxM N4, hT6, p26, fun hw5 M7 hn7 e277 hT7 => ?_, fun hw5 => ?_⟩
                · rw [if_pos hw5] at h
                  have s62 : ∀ j, (j < 21 ∨ j = 26 ∨ 27 < j) → M7 62 j = M4 62 j := fun j c => by rw [hn7.2 j c, hg6.2 j (by omega), z62]
                  have so : ∀ o, o ≠ 62 → M7 o = M5 o := fun o c => by rw [hn7.1 o c, hg6.1 o c]
                  generalize hTT : nxM N4 1 8 = TT at *
                  have h174 : J 174 [some (vr 62), some (vi q4), some (vi K)] [] M7 := by
                    refine hJ 174 _ _ _ (show mm_wp _ _ _ mo_M_askLine_174 _ _ _ from ?_)
                    simp only [mo_M_askLine_174, mm_wp, mm_ldi, mm_lda, mm_ldl, mm_sti, mm_sta, mm_stl, mm_inc, mm_2i, mm_mm, mm_2l, mm_lcmp, mm_i2l, mm_l2i, mm_cast8, mm_if1, mm_if2, mm_cmp, mm_swi, mm_sw, mm_pop1, mm_dup, mm_dup2, mm_geti, mm_geta, mm_puti, mm_iald, mm_bald, mm_aald, mm_iast, mm_bast, mm_alen, mm_acpy, mm_call, mm_callv, mm_recv, mm_pop, mm_find, mm_push, mm_cats, mm_cat, mm_reti, mm_retz, mm_retl, mm_reta, mm_retv, mm_set1, mm_set2, mm_kill, List.getElem?_cons_zero, List.getElem?_cons_succ, Int.reduceToNat, ↓reduceIte, Nat.reduceEqDiff, Nat.reduceDiv, Nat.reduceAdd, Nat.reduceLeDiff, Nat.zero_le, true_and, and_true, true_or, or_true, mm_b0, mm_b1, mm_lc_lt, mm_lc_le, mm_lc_gt, mm_lc_ge, mm_lc_eq, Int.not_lt, Int.not_le, Decidable.not_not, Int.sub_neg, c_0, c_1, c_2, l_2, c_3, c_4, l_4, c_5, l_5, c_6, l_6, c_7, l_7, c_8, c_9, l_9, c_10, l_10, c_11, l_11, c_12, l_12, c_13, c_14, l_14, c_15, l_15, c_16, l_16, c_17, l_17, c_18, c_19, l_19, c_20, l_20, c_21, l_21, c_22, l_22, c_23, c_24, l_24, c_25, l_25, c_26, c_27, c_28, l_28, c_29, c_30, l_30, c_31, c_32, l_32, c_33, l_33, c_34, l_34, c_35, l_35, c_36, l_36, c_37, l_37, c_38, l_38, c_39, l_39, c_40, c_41, l_41, c_42, c_43, c_44, l_44, c_45, c_46, l_46, c_47, c_48, l_48, c_49, l_49, c_50, l_50, c_51, l_51, c_52, l_52, c_53, l_53, c_54, l_54, c_55, l_55, c_56, l_56, c_57, l_57, c_58, l_58, c_59, l_59, c_60, l_60, c_61, l_61, c_62, c_63, l_63, c_64, l_64, c_65, l_65, c_66, l_66, c_67, l_67, c_68, l_68, c_69, l_69, c_70, l_70, c_71, l_71, c_72, l_72, c_73, l_73, c_74, l_74, c_75, l_75, c_76, l_76, e277]
                    refine ⟨by omega, by omega, h186 TT (nxM (nxM N4)) _ (fun o c => by rw [nx_o _ c, nx_o _ c, n4o o c]) (rdT_M (u _ _ _ _ (by decide)) (by rw [u _ _ _ _ (by decide)]) (fun j a b => by rw [u _ _ _ _ (by decide)]) hT7) (rlG_tr hG5 (rlG_tr (rlG_go hg6) (rlG_tr (rlG_nu hn7) (rlG_ar (o := 71) (by decide) (by decide))))) (by rw [u _ _ _ _ (by decide), s62 13 (by omega), w13]) (by rw [u _ _ _ _ (by decide), s62 15 (by omega), w15]) (by rw [u _ _ _ _ (by decide), s62 18 (by omega), w18]) (by rw [u _ _ _ _ (by decide), s62 26 (by omega), w26]) (fun o a b => by rw [u _ _ _ _ (by omega), so o (by omega), zo o (by omega), wo o a b]) (fun i hi => ?_) ?_ ?_ ?_ ?_ h⟩
                    · rw [mm_up_i _ (by omega), so 71 (by decide), z71, if_neg (by omega), if_neg (by omega), if_neg (by omega), if_neg (by omega)]
                    · rw [mm_up_i _ (by omega), so 71 (by decide), z71, if_neg (by omega), if_neg (by omega), if_neg (by omega), if_pos rfl]
                    · rw [mm_up_i _ (by omega), so 71 (by decide), z71, if_neg (by omega), if_neg (by omega), if_pos rfl]
                    · rw [mm_up_i _ (by omega), so 71 (by decide), z71, if_neg (by omega), if_pos rfl]
                    · rw [mm_up_s]
                  show (¬ (1 : Int) = 0 → _) ∧ (_ → _)
                  exact ⟨fun _ => h174, fun c => by simp at c⟩
                · rw [if_neg hw5] at h
                  have hk := whK_1 (nxM N4)
                  show (¬ (0 : Int) = 0 → _) ∧ (_ → _)
                  exact ⟨fun c => absurd rfl c, fun _ => ⟨Or.inl rfl, h _ (rdR_w (rlG_tr hG5 (rlG_go hg6)) hT6 hk.1 hk.2)⟩⟩
            show (¬ (1 : Int) = 0 → _) ∧ (_ → _)
            exact ⟨fun _ => h116, fun c => by simp at c⟩
          · rw [if_neg hw2] at h
            have hk := whK_1 (nxM (nxM (nxM N)))
            show (¬ (0 : Int) = 0 → _) ∧ (_ → _)
            exact ⟨fun c => absurd rfl c, fun _ => ⟨Or.inl rfl, h _ (rdR_w hG3 hT3' hk.1 hk.2)⟩⟩
        show (¬ (1 : Int) = 0 → _) ∧ (_ → _)
        exact ⟨fun _ => h81, fun c => by simp at c⟩
      · rw [if_neg hw] at h
        have hk := whK_1 (nxM (nxM N))
        show (¬ (0 : Int) = 0 → _) ∧ (_ → _)
        exact ⟨fun c => absurd rfl c, fun _ => ⟨Or.inl rfl, h _ (rdR_w hG2 hT2 hk.1 hk.2)⟩⟩
    · rw [if_pos (by omega)] at h
      exact h _ (rdR_w (rlG_go hg) hT1 (by omega) (by omega))
  have h13 : ¬ N 3 4 = 0 → J 13 [some (vr 62), none, none] [] M := by
    intro c
    refine hJ 13 _ _ _ (show mm_wp _ _ _ mo_M_askLine_13 _ _ _ from ?_)
    simp only [mo_M_askLine_13, mm_wp, mm_ldi, mm_lda, mm_ldl, mm_sti, mm_sta, mm_stl, mm_inc, mm_2i, mm_mm, mm_2l, mm_lcmp, mm_i2l, mm_l2i, mm_cast8, mm_if1, mm_if2, mm_cmp, mm_swi, mm_sw, mm_pop1, mm_dup, mm_dup2, mm_geti, mm_geta, mm_puti, mm_iald, mm_bald, mm_aald, mm_iast, mm_bast, mm_alen, mm_acpy, mm_call, mm_callv, mm_recv, mm_pop, mm_find, mm_push, mm_cats, mm_cat, mm_reti, mm_retz, mm_retl, mm_reta, mm_retv, mm_set1, mm_set2, mm_kill, List.getElem?_cons_zero, List.getElem?_cons_succ, Int.reduceToNat, ↓reduceIte, Nat.reduceEqDiff, Nat.reduceDiv, Nat.reduceAdd, Nat.reduceLeDiff, Nat.zero_le, true_and, and_true, true_or, or_true, mm_b0, mm_b1, mm_lc_lt, mm_lc_le, mm_lc_gt, mm_lc_ge, mm_lc_eq, Int.not_lt, Int.not_le, Decidable.not_not, Int.sub_neg, c_0, c_1, c_2, l_2, c_3, c_4, l_4, c_5, l_5, c_6, l_6, c_7, l_7, c_8, c_9, l_9, c_10, l_10, c_11, l_11, c_12, l_12, c_13, c_14, l_14, c_15, l_15, c_16, l_16, c_17, l_17, c_18, c_19, l_19, c_20, l_20, c_21, l_21, c_22, l_22, c_23, c_24, l_24, c_25, l_25, c_26, c_27, c_28, l_28, c_29, c_30, l_30, c_31, c_32, l_32, c_33, l_33, c_34, l_34, c_35, l_35, c_36, l_36, c_37, l_37, c_38, l_38, c_39, l_39, c_40, c_41, l_41, c_42, c_43, c_44, l_44, c_45, c_46, l_46, c_47, c_48, l_48, c_49, l_49, c_50, l_50, c_51, l_51, c_52, l_52, c_53, l_53, c_54, l_54, c_55, l_55, c_56, l_56, c_57, l_57, c_58, l_58, c_59, l_59, c_60, l_60, c_61, l_61, c_62, c_63, l_63, c_64, l_64, c_65, l_65, c_66, l_66, c_67, l_67, c_68, l_68, c_69, l_69, c_70, l_70, c_71, l_71, c_72, l_72, c_73, l_73, c_74, l_74, c_75, l_75, c_76, l_76, t_M_wrong]
    refine ⟨fun z => h28 c (by omega), fun z => ⟨h26, hb.1, hb.2.1, by omega, by omega, ?_⟩⟩
    rw [if_neg c, if_pos (by omega)] at h
    exact h _ (rdR_w (rlG_rf M) hT (by omega) (by omega))
  refine hJ 0 _ _ _ (show mm_wp _ _ _ mo_M_askLine_0 _ _ _ from ?_)
  simp only [mo_M_askLine_0, mm_wp, mm_ldi, mm_lda, mm_ldl, mm_sti, mm_sta, mm_stl, mm_inc, mm_2i, mm_mm, mm_2l, mm_lcmp, mm_i2l, mm_l2i, mm_cast8, mm_if1, mm_if2, mm_cmp, mm_swi, mm_sw, mm_pop1, mm_dup, mm_dup2, mm_geti, mm_geta, mm_puti, mm_iald, mm_bald, mm_aald, mm_iast, mm_bast, mm_alen, mm_acpy, mm_call, mm_callv, mm_recv, mm_pop, mm_find, mm_push, mm_cats, mm_cat, mm_reti, mm_retz, mm_retl, mm_reta, mm_retv, mm_set1, mm_set2, mm_kill, List.getElem?_cons_zero, List.getElem?_cons_succ, Int.reduceToNat, ↓reduceIte, Nat.reduceEqDiff, Nat.reduceDiv, Nat.reduceAdd, Nat.reduceLeDiff, Nat.zero_le, true_and, and_true, true_or, or_true, mm_b0, mm_b1, mm_lc_lt, mm_lc_le, mm_lc_gt, mm_lc_ge, mm_lc_eq, Int.not_lt, Int.not_le, Decidable.not_not, Int.sub_neg, c_0, c_1, c_2, l_2, c_3, c_4, l_4, c_5, l_5, c_6, l_6, c_7, l_7, c_8, c_9, l_9, c_10, l_10, c_11, l_11, c_12, l_12, c_13, c_14, l_14, c_15, l_15, c_16, l_16, c_17, l_17, c_18, c_19, l_19, c_20, l_20, c_21, l_21, c_22, l_22, c_23, c_24, l_24, c_25, l_25, c_26, c_27, c_28, l_28, c_29, c_30, l_30, c_31, c_32, l_32, c_33, l_33, c_34, l_34, c_35, l_35, c_36, l_36, c_37, l_37, c_38, l_38, c_39, l_39, c_40, c_41, l_41, c_42, c_43, c_44, l_44, c_45, c_46, l_46, c_47, c_48, l_48, c_49, l_49, c_50, l_50, c_51, l_51, c_52, l_52, c_53, l_53, c_54, l_54, c_55, l_55, c_56, l_56, c_57, l_57, c_58, l_58, c_59, l_59, c_60, l_60, c_61, l_61, c_62, c_63, l_63, c_64, l_64, c_65, l_65, c_66, l_66, c_67, l_67, c_68, l_68, c_69, l_69, c_70, l_70, c_71, l_71, c_72, l_72, c_73, l_73, c_74, l_74, c_75, l_75, c_76, l_76, t_M_wrong]
  refine ⟨fun z => h13 (by omega), fun z => ⟨h26, hb.1, hb.2.1, by omega, by omega, ?_⟩⟩
  rw [if_pos (by omega)] at h
  exact h _ (rdR_w (rlG_rf M) hT (by omega) (by omega))
