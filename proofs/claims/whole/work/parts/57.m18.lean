/-! the reference's reader beside the planner's: lines -/
/-- what was told so far, at both -/
def rdQ (N M : mmM) : Prop := rdS N ∧ M 62 13 = N 3 4 ∧ M 62 15 = N 3 5 ∧ M 62 18 = N 8 4 ∧ (∀ i, 0 ≤ i → i < N 3 4 → M 68 i = N 4 i) ∧ (∀ k, 0 ≤ k → k < N 3 5 → M 69 k = N 5 k ∧ M 70 k = N 6 k) ∧ ∀ q, 0 ≤ q → q < N 8 4 → M 71 (4 * q) = N 9 q ∧ M 71 (4 * q + 1) = N 10 q ∧ M 71 (4 * q + 2) = N 11 q ∧ M 71 (4 * q + 3) = N 12 q
def rlG (M M' : mmM) : Prop := (∀ o', o' ≠ 62 → o' ≠ 68 → o' ≠ 69 → o' ≠ 70 → o' ≠ 71 → M' o' = M o') ∧ ∀ j, (j < 13 ∨ j = 20 ∨ 27 < j) → M' 62 j = M 62 j
theorem rlG_rf (M : mmM) : rlG M M := ⟨fun _ _ _ _ _ _ => rfl, fun _ _ => rfl⟩
theorem rlG_tr {A B C : mmM} (h1 : rlG A B) (h2 : rlG B C) : rlG A C := ⟨fun o' a b c d e => by rw [h2.1 o' a b c d e, h1.1 o' a b c d e], fun j c => by rw [h2.2 j c, h1.2 j c]⟩
theorem rlG_go {A B : mmM} (h : goF A B) : rlG A B := ⟨fun o' a _ _ _ _ => h.1 o' a, fun j c => h.2 j (by omega)⟩
theorem rlG_nu {A B : mmM} (h : nuF A B) : rlG A B := ⟨fun o' a _ _ _ _ => h.1 o' a, fun j c => h.2 j (by omega)⟩
theorem rlG_up {A : mmM} {j v : Int} (h0 : 13 ≤ j) (h1 : j ≤ 27) (h2 : j ≠ 20) : rlG A (mm_up A 62 j v) := ⟨fun o' a _ _ _ _ => mm_up_o _ _ a, fun i c => mm_up_i _ (by omega)⟩
theorem rlG_ar {A : mmM} {o : Nat} {j v : Int} (h0 : 68 ≤ o) (h1 : o ≤ 71) : rlG A (mm_up A o j v) := ⟨fun o' _ a b c d => mm_up_o _ _ (by omega), fun i c => by rw [mm_up_o _ _ (by omega)]⟩
theorem rdQ_c {N N' M M' : mmM} (hN : ∀ o, 3 ≤ o → o ≤ 12 → N' o = N o) (h13 : M' 62 13 = M 62 13) (h15 : M' 62 15 = M 62 15) (h18 : M' 62 18 = M 62 18) (hM : ∀ o, 68 ≤ o → o ≤ 71 → M' o = M o) (h : rdQ N M) : rdQ N' M' := by
  unfold rdQ rdS at *
  rw [h13, h15, h18, hM 68 (by decide) (by decide), hM 69 (by decide) (by decide), hM 70 (by decide) (by decide), hM 71 (by decide) (by decide), hN 3 (by decide) (by decide), hN 4 (by decide) (by decide), hN 5 (by decide) (by decide), hN 6 (by decide) (by decide), hN 8 (by decide) (by decide), hN 9 (by decide) (by decide), hN 10 (by decide) (by decide), hN 11 (by decide) (by decide), hN 12 (by decide) (by decide)]
  exact h
theorem rdQ_go {N M M' : mmM} (hg : goF M M') (h : rdQ N M) : rdQ (nxM N) M' := rdQ_c (fun o a b => nx_o _ (by omega)) (hg.2 13 (by omega)) (hg.2 15 (by omega)) (hg.2 18 (by omega)) (fun o a b => hg.1 o (by omega)) h
theorem rdQ_nu {N M M' : mmM} (hg : nuF M M') (h : rdQ N M) : rdQ (nxM N) M' := rdQ_c (fun o a b => nx_o _ (by omega)) (hg.2 13 (by omega)) (hg.2 15 (by omega)) (hg.2 18 (by omega)) (fun o a b => hg.1 o (by omega)) h
theorem nx_c {N N' : mmM} (h1 : N' 1 = N 1) (h2 : N' 2 = N 2) : nxM N' 1 = nxM N 1 ∧ nxM N' 2 = nxM N 2 := by
  have eP : tkP N' = tkP N := by unfold tkP; rw [h1, h2]
  have eW : ∀ p, tkW N' p = tkW N p := fun p => by unfold tkW; rw [h1, h2]
  have eN : ∀ p, tkN N' p = tkN N p := fun p => by unfold tkN; rw [h1, h2]
  have eE : tkE N' = tkE N := by unfold tkE; rw [eP, eW, eN, h1, h2]
  have eS : tkS N' = tkS N := by unfold tkS; rw [eP, eE, h1, h2]
  have eV : tkV N' = tkV N := by unfold tkV; rw [eP, eE, h1, h2]
  refine ⟨?_, by rw [nx_o _ (by decide), nx_o _ (by decide), h2]⟩
  funext i
  unfold nxM
  rw [eP, eE, eS, eV, mm_up_if, mm_up_if, mm_up_if, mm_up_if, mm_up_if, mm_up_if, mm_up_if, mm_up_if, h1]
theorem rdT_N {N N' M : mmM} (h1 : N' 1 = N 1) (h2 : N' 2 = N 2) (h : rdT N M) : rdT N' M := by
  unfold rdT rdM rdI tpE at *
  rw [h1, h2]
  exact h
theorem rdT_M {N M M' : mmM} (h63 : M' 63 = M 63) (h20 : M' 62 20 = M 62 20) (h : ∀ j, 21 ≤ j → j ≤ 25 → M' 62 j = M 62 j) (hT : rdT N M) : rdT N M' := by
  unfold rdT tpE at *
  rw [h63, h20, h 21 (by decide) (by decide), h 22 (by decide) (by decide), h 23 (by decide) (by decide), h 24 (by decide) (by decide), h 25 (by decide) (by decide)]
  exact hT
/-- both came to the same end of a piece of reading -/
def rdR (x : Int × mmM) (M M' : mmM) : Prop := rlG M M' ∧ (x.1 = 1 → rdT x.2 M' ∧ rdQ x.2 M' ∧ M' 62 26 = 0) ∧ (x.1 = 0 → x.2 1 9 = -2 - M' 62 26 ∧ 1 ≤ M' 62 26 ∧ M' 62 26 ≤ 5000)
theorem rdR_w {N A M : mmM} {k : Int} (hA : rlG A M) (hT : rdT N M) (k0 : 1 ≤ k) (k1 : k ≤ 10) : rdR (0, rfM N k) A (mm_up M 62 26 (8 * M 62 21 + k)) := by
  have hb := rdT_b hT
  have e := hT.2.2.1
  refine ⟨rlG_tr hA (rlG_up (by decide) (by decide) (by decide)), fun c => by simp at c, fun _ => ?_⟩
  show rfM N k 1 9 = _ ∧ _
  unfold rfM
  rw [mm_up_s, mm_up_s, e]
  omega
theorem rdR_tr {x : Int × mmM} {A B C : mmM} (h1 : rlG A B) (h : rdR x B C) : rdR x A C := ⟨rlG_tr h1 h.1, h.2⟩
def t_M_rowCell : mmT := fun as M Q => match as with
  | [.inr (.inr o)] => o = 62 ∧ ∃ N, rdT N M ∧ rdQ N M ∧ M 62 26 = 0 ∧ ∀ M', rdR (clF N) M M' → Q (some (vi (clF N).1)) M'
  | _ => False
set_option maxHeartbeats 4000000 in
set_option maxRecDepth 100000 in
theorem p_M_rowCell : ∀ as M Q, (∀ v ∈ as, mm_vin v) → mm_mem M → t_M_rowCell as M Q → (mm_ent as).length ≤ 1 ∧ mm_ok mb_M_rowCell [(1109, t_M_wrong), (1117, t_M_number)] (mm_entry 1 as) M Q := by
  intro as M Q hin hM h
  unfold t_M_rowCell at h
  split at h
  rotate_left
  · exact h.elim
  rename_i o
  refine ⟨by simp [mm_ent], (show mm_ok mb_M_rowCell [(1109, t_M_wrong), (1117, t_M_number)] [some (vr o)] M Q from ?_)⟩
  intro J hJ
  obtain ⟨rfl, N, hT, hQ, h26, h⟩ := h
  have hb := rdT_b hT
  have h2 := (tk_eq hT).1
  have hv := hT.2.2.2.2.2.2.1
  obtain ⟨hS, q13, q15, q18, qc, qh, qa⟩ := id hQ
  have hS2 := hS
  unfold rdS at hS2
  have h32 : ¬ (whP N 0 63 ∧ ¬ N 3 4 < 60) → J 32 [some (vr 62)] [] M := by
    intro hc
    have h44 : whP N 0 63 → ∀ M1, nuF M M1 → M1 62 27 = N 1 8 → rdT (nxM N) M1 → J 44 [some (vr 62)] [] M1 := by
      intro hw M1 hn e27 hT1
      have hlt : N 3 4 < 60 := by
        by_cases c : N 3 4 < 60
        · exact c
        · exact absurd ⟨hw, c⟩ hc
      have e13 : M1 62 13 = N 3 4 := by rw [hn.2 13 (by omega), q13]
      have hcl : clF N = (1, nxM (clA N)) := by unfold clF; rw [if_pos hw, if_pos hlt]
      have u13 : ∀ i v, mm_up M1 68 i v 62 = M1 62 := fun i v => mm_up_o _ _ (by decide)
      rw [hcl] at h
      refine hJ 44 _ _ _ (show mm_wp _ _ _ mo_M_rowCell_44 _ _ _ from ?_)
      simp only [mo_M_rowCell_44, mm_wp, mm_ldi, mm_lda, mm_ldl, mm_sti, mm_sta, mm_stl, mm_inc, mm_2i, mm_mm, mm_2l, mm_lcmp, mm_i2l, mm_l2i, mm_cast8, mm_if1, mm_if2, mm_cmp, mm_swi, mm_sw, mm_pop1, mm_dup, mm_dup2, mm_geti, mm_geta, mm_puti, mm_iald, mm_bald, mm_aald, mm_iast, mm_bast, mm_alen, mm_acpy, mm_call, mm_callv, mm_recv, mm_pop, mm_find, mm_push, mm_cats, mm_cat, mm_reti, mm_retz, mm_retl, mm_reta, mm_retv, mm_set1, mm_set2, mm_kill, List.getElem?_cons_zero, List.getElem?_cons_succ, Int.reduceToNat, ↓reduceIte, Nat.reduceEqDiff, Nat.reduceDiv, Nat.reduceAdd, Nat.reduceLeDiff, Nat.zero_le, true_and, and_true, true_or, or_true, mm_b0, mm_b1, mm_lc_lt, mm_lc_le, mm_lc_gt, mm_lc_ge, mm_lc_eq, Int.not_lt, Int.not_le, Decidable.not_not, Int.sub_neg, c_0, c_1, c_2, l_2, c_3, c_4, l_4, c_5, l_5, c_6, l_6, c_7, l_7, c_8, c_9, l_9, c_10, l_10, c_11, l_11, c_12, l_12, c_13, c_14, l_14, c_15, l_15, c_16, l_16, c_17, l_17, c_18, c_19, l_19, c_20, l_20, c_21, l_21, c_22, l_22, c_23, c_24, l_24, c_25, l_25, c_26, c_27, c_28, l_28, c_29, c_30, l_30, c_31, c_32, l_32, c_33, l_33, c_34, l_34, c_35, l_35, c_36, l_36, c_37, l_37, c_38, l_38, c_39, l_39, c_40, c_41, l_41, c_42, c_43, c_44, l_44, c_45, c_46, l_46, c_47, c_48, l_48, c_49, l_49, c_50, l_50, c_51, l_51, c_52, l_52, c_53, l_53, c_54, l_54, c_55, l_55, c_56, l_56, c_57, l_57, c_58, l_58, c_59, l_59, c_60, l_60, c_61, l_61, c_62, c_63, l_63, c_64, l_64, c_65, l_65, c_66, l_66, c_67, l_67, c_68, l_68, c_69, l_69, c_70, l_70, c_71, l_71, c_72, l_72, c_73, l_73, c_74, l_74, c_75, l_75, c_76, l_76, e13, e27, u13]
      refine ⟨by omega, by omega, h _ ⟨rlG_tr (rlG_nu hn) (rlG_tr (rlG_ar (o := 68) (by decide) (by decide)) (rlG_up (by decide) (by decide) (by decide))), fun _ => ⟨?_, ?_, ?_⟩, fun c => by simp at c⟩⟩
      · have hc1 : clA N 1 = N 1 := by unfold clA; rw [mm_up_o _ _ (by decide), mm_up_o _ _ (by decide)]
        have hc2 : clA N 2 = N 2 := by unfold clA; rw [mm_up_o _ _ (by decide), mm_up_o _ _ (by decide)]
        have hn2 := nx_c hc1 hc2
        refine rdT_N hn2.1 hn2.2 (rdT_M ?_ ?_ (fun j a b => ?_) hT1)
        · rw [mm_up_o _ _ (by decide), mm_up_o _ _ (by decide)]
        · rw [mm_up_i _ (by decide), u13]
        · rw [mm_up_i _ (by omega), u13]
      · have k3 : ∀ o, o ≠ 1 → o ≠ 3 → o ≠ 4 → nxM (clA N) o = N o := fun o a b c => by rw [nx_o _ a]; unfold clA; rw [mm_up_o _ _ b, mm_up_o _ _ c]
        have k34 : nxM (clA N) 3 4 = N 3 4 + 1 := by rw [nx_o _ (by decide)]; unfold clA; rw [mm_up_s]
        have k35 : nxM (clA N) 3 5 = N 3 5 := by rw [nx_o _ (by decide)]; unfold clA; rw [mm_up_i _ (by decide), mm_up_o _ _ (by decide)]
        have k4 : ∀ i, nxM (clA N) 4 i = if i = N 3 4 then N 1 8 else N 4 i := fun i => by rw [nx_o _ (by decide)]; unfold clA; rw [mm_up_o _ _ (by decide), mm_up_if]
        have f15 := hn.2 15 (by omega)
        have f18 := hn.2 18 (by omega)
        have f68 := hn.1 68 (by decide)
        have f69 := hn.1 69 (by decide)
        have f70 := hn.1 70 (by decide)
        have f71 := hn.1 71 (by decide)
        show rdQ (nxM (clA N)) _
        unfold rdQ rdS
        rw [k34, k35, k3 5 (by decide) (by decide) (by decide), k3 6 (by decide) (by decide) (by decide), k3 8 (by decide) (by decide) (by decide), k3 9 (by decide) (by decide) (by decide), k3 10 (by decide) (by decide) (by decide), k3 11 (by decide) (by decide) (by decide), k3 12 (by decide) (by decide) (by decide)]
        rw [mm_up_s, mm_up_i _ (by decide), mm_up_i _ (by decide), u13, mm_up_o _ _ (show (68 : Nat) ≠ 62 by decide), mm_up_o _ _ (show (69 : Nat) ≠ 62 by decide), mm_up_o _ _ (show (70 : Nat) ≠ 62 by decide), mm_up_o _ _ (show (71 : Nat) ≠ 62 by decide), mm_up_o _ _ (show (69 : Nat) ≠ 68 by decide), mm_up_o _ _ (show (70 : Nat) ≠ 68 by decide), mm_up_o _ _ (show (71 : Nat) ≠ 68 by decide), f15, f18, f69, f70, f71]
        refine ⟨by omega, rfl, q15, q18, fun i i0 i1 => ?_, qh, qa⟩
        rw [mm_up_if, k4]
        split
        · rfl
        · rw [f68]; exact qc i i0 (by omega)
      · rw [mm_up_i _ (by decide), u13, hn.2 26 (by omega), h26]
    refine hJ 32 _ _ _ (show mm_wp _ _ _ mo_M_rowCell_32 _ _ _ from ?_)
    simp only [mo_M_rowCell_32, mm_wp, mm_ldi, mm_lda, mm_ldl, mm_sti, mm_sta, mm_stl, mm_inc, mm_2i, mm_mm, mm_2l, mm_lcmp, mm_i2l, mm_l2i, mm_cast8, mm_if1, mm_if2, mm_cmp, mm_swi, mm_sw, mm_pop1, mm_dup, mm_dup2, mm_geti, mm_geta, mm_puti, mm_iald, mm_bald, mm_aald, mm_iast, mm_bast, mm_alen, mm_acpy, mm_call, mm_callv, mm_recv, mm_pop, mm_find, mm_push, mm_cats, mm_cat, mm_reti, mm_retz, mm_retl, mm_reta, mm_retv, mm_set1, mm_set2, mm_kill, List.getElem?_cons_zero, List.getElem?_cons_succ, Int.reduceToNat, ↓reduceIte, Nat.reduceEqDiff, Nat.reduceDiv, Nat.reduceAdd, Nat.reduceLeDiff, Nat.zero_le, true_and, and_true, true_or, or_true, mm_b0, mm_b1, mm_lc_lt, mm_lc_le, mm_lc_gt, mm_lc_ge, mm_lc_eq, Int.not_lt, Int.not_le, Decidable.not_not, Int.sub_neg, c_0, c_1, c_2, l_2, c_3, c_4, l_4, c_5, l_5, c_6, l_6, c_7, l_7, c_8, c_9, l_9, c_10, l_10, c_11, l_11, c_12, l_12, c_13, c_14, l_14, c_15, l_15, c_16, l_16, c_17, l_17, c_18, c_19, l_19, c_20, l_20, c_21, l_21, c_22, l_22, c_23, c_24, l_24, c_25, l_25, c_26, c_27, c_28, l_28, c_29, c_30, l_30, c_31, c_32, l_32, c_33, l_33, c_34, l_34, c_35, l_35, c_36, l_36, c_37, l_37, c_38, l_38, c_39, l_39, c_40, c_41, l_41, c_42, c_43, c_44, l_44, c_45, c_46, l_46, c_47, c_48, l_48, c_49, l_49, c_50, l_50, c_51, l_51, c_52, l_52, c_53, l_53, c_54, l_54, c_55, l_55, c_56, l_56, c_57, l_57, c_58, l_58, c_59, l_59, c_60, l_60, c_61, l_61, c_62, c_63, l_63, c_64, l_64, c_65, l_65, c_66, l_66, c_67, l_67, c_68, l_68, c_69, l_69, c_70, l_70, c_71, l_71, c_72, l_72, c_73, l_73, c_74, l_74, c_75, l_75, c_76, l_76]
    refine ⟨rfl, N, hT, h26, fun hw M1 hn e27 hT1 => ?_, fun hw => ?_⟩
    · have := h44 hw M1 hn e27 hT1
      show (¬ (1 : Int) = 0 → _) ∧ (_ → _)
      exact ⟨fun _ => this, fun c => by simp at c⟩
    · have hcl : clF N = (0, rfM N (whK N)) := by unfold clF; rw [if_neg hw]
      rw [hcl] at h
      have hk : 1 ≤ whK N ∧ whK N ≤ 10 := by unfold whK; split <;> omega
      show (¬ (0 : Int) = 0 → _) ∧ (_ → _)
      exact ⟨fun c => absurd rfl c, fun _ => ⟨Or.inl rfl, h _ (rdR_w (rlG_rf M) hT hk.1 hk.2)⟩⟩
  refine hJ 0 _ _ _ (show mm_wp _ _ _ mo_M_rowCell_0 _ _ _ from ?_)
  simp only [mo_M_rowCell_0, mm_wp, mm_ldi, mm_lda, mm_ldl, mm_sti, mm_sta, mm_stl, mm_inc, mm_2i, mm_mm, mm_2l, mm_lcmp, mm_i2l, mm_l2i, mm_cast8, mm_if1, mm_if2, mm_cmp, mm_swi, mm_sw, mm_pop1, mm_dup, mm_dup2, mm_geti, mm_geta, mm_puti, mm_iald, mm_bald, mm_aald, mm_iast, mm_bast, mm_alen, mm_acpy, mm_call, mm_callv, mm_recv, mm_pop, mm_find, mm_push, mm_cats, mm_cat, mm_reti, mm_retz, mm_retl, mm_reta, mm_retv, mm_set1, mm_set2, mm_kill, List.getElem?_cons_zero, List.getElem?_cons_succ, Int.reduceToNat, ↓reduceIte, Nat.reduceEqDiff, Nat.reduceDiv, Nat.reduceAdd, Nat.reduceLeDiff, Nat.zero_le, true_and, and_true, true_or, or_true, mm_b0, mm_b1, mm_lc_lt, mm_lc_le, mm_lc_gt, mm_lc_ge, mm_lc_eq, Int.not_lt, Int.not_le, Decidable.not_not, Int.sub_neg, c_0, c_1, c_2, l_2, c_3, c_4, l_4, c_5, l_5, c_6, l_6, c_7, l_7, c_8, c_9, l_9, c_10, l_10, c_11, l_11, c_12, l_12, c_13, c_14, l_14, c_15, l_15, c_16, l_16, c_17, l_17, c_18, c_19, l_19, c_20, l_20, c_21, l_21, c_22, l_22, c_23, c_24, l_24, c_25, l_25, c_26, c_27, c_28, l_28, c_29, c_30, l_30, c_31, c_32, l_32, c_33, l_33, c_34, l_34, c_35, l_35, c_36, l_36, c_37, l_37, c_38, l_38, c_39, l_39, c_40, c_41, l_41, c_42, c_43, c_44, l_44, c_45, c_46, l_46, c_47, c_48, l_48, c_49, l_49, c_50, l_50, c_51, l_51, c_52, l_52, c_53, l_53, c_54, l_54, c_55, l_55, c_56, l_56, c_57, l_57, c_58, l_58, c_59, l_59, c_60, l_60, c_61, l_61, c_62, c_63, l_63, c_64, l_64, c_65, l_65, c_66, l_66, c_67, l_67, c_68, l_68, c_69, l_69, c_70, l_70, c_71, l_71, c_72, l_72, c_73, l_73, c_74, l_74, c_75, l_75, c_76, l_76, t_M_wrong]
  refine ⟨fun z => h32 (fun w => z (h2.mpr w.1.1)), fun z => ⟨fun z2 => h32 (fun w => by have := hv (h2.mp z); have := w.1.2; omega), fun z2 => ⟨fun z3 => h32 (fun w => by have := w.2; omega), fun z3 => ⟨h26, hb.1, hb.2.1, by omega, by omega, ?_⟩⟩⟩⟩
  have h25 := h2.mp z
  obtain ⟨v1, v2, v3⟩ := hv h25
  have hcl : clF N = (0, rfM N 4) := by unfold clF; rw [if_pos ⟨h25, by omega, by omega⟩, if_neg (by omega)]
  rw [hcl] at h
  exact h _ (rdR_w (rlG_rf M) hT (by omega) (by omega))
def t_M_rowLine : mmT := fun as M Q => match as with
  | [.inr (.inr o)] => o = 62 ∧ ∃ N, rdT N M ∧ rdQ N M ∧ M 62 26 = 0 ∧ ∀ M', rdR (rowF N) M M' → Q (some (vi (rowF N).1)) M'
  | _ => False
set_option maxHeartbeats 4000000 in
set_option maxRecDepth 100000 in
theorem p_M_rowLine : ∀ as M Q, (∀ v ∈ as, mm_vin v) → mm_mem M → t_M_rowLine as M Q → (mm_ent as).length ≤ 3 ∧ mm_ok mb_M_rowLine [(1109, t_M_wrong), (1108, t_M_go), (1118, t_M_rowCell), (1110, t_M_isSign)] (mm_entry 3 as) M Q := by
  intro as M Q hin hM h
  unfold t_M_rowLine at h
  split at h
  rotate_left
  · exact h.elim
  rename_i o
  refine ⟨by simp [mm_ent], (show mm_ok mb_M_rowLine [(1109, t_M_wrong), (1108, t_M_go), (1118, t_M_rowCell), (1110, t_M_isSign)] [some (vr o), none, none] M Q from ?_)⟩
  intro J hJ
  obtain ⟨rfl, N, hT, hQ, h26, h⟩ := h
  have hb := rdT_b hT
  have hQ2 := hQ
  obtain ⟨hS, q13, -⟩ := hQ2
  have h13 : M 62 13 ≤ 0 → J 13 [some (vr 62), none, none] [] M := by
    intro hz
    have hS2 := hS
    unfold rdS at hS2
    have hrf : rowF N = rowE (rlF 60 (clF (nxM N))) := by unfold rowF; rw [if_neg (by omega)]
    rw [hrf] at h
    generalize hY : rlF 60 (clF (nxM N)) = Y at h
    have h98 : ∀ (z : Int) (x2 : Option mmV) (x : Int × mmM) (M1 : mmM), rowE Y = x → rdR x M M1 → (z = 0 ∨ z = 1) → x.1 = z → ∀ x1 : Option mmV, J 98 [some (vr 62), x1, x2] [vi z] M1 := by
      intro z x2 x M1 hx hr hz hxz x1
      refine hJ 98 _ _ _ (show mm_wp _ _ _ mo_M_rowLine_98 _ _ _ from ?_)
      simp only [mo_M_rowLine_98, mm_wp, mm_ldi, mm_lda, mm_ldl, mm_sti, mm_sta, mm_stl, mm_inc, mm_2i, mm_mm, mm_2l, mm_lcmp, mm_i2l, mm_l2i, mm_cast8, mm_if1, mm_if2, mm_cmp, mm_swi, mm_sw, mm_pop1, mm_dup, mm_dup2, mm_geti, mm_geta, mm_puti, mm_iald, mm_bald, mm_aald, mm_iast, mm_bast, mm_alen, mm_acpy, mm_call, mm_callv, mm_recv, mm_pop, mm_find, mm_push, mm_cats, mm_cat, mm_reti, mm_retz, mm_retl, mm_reta, mm_retv, mm_set1, mm_set2, mm_kill, List.getElem?_cons_zero, List.getElem?_cons_succ, Int.reduceToNat, ↓reduceIte, Nat.reduceEqDiff, Nat.reduceDiv, Nat.reduceAdd, Nat.reduceLeDiff, Nat.zero_le, true_and, and_true, true_or, or_true, mm_b0, mm_b1, mm_lc_lt, mm_lc_le, mm_lc_gt, mm_lc_ge, mm_lc_eq, Int.not_lt, Int.not_le, Decidable.not_not, Int.sub_neg]
      refine ⟨hz, ?_⟩
      rw [← hxz, ← hx]
      exact h M1 (by rw [hx]; exact hr)
    have h47 : ∀ (x : Int × mmM) (M1 : mmM), Y = x → rdR x M M1 → (x.1 = 0 ∨ x.1 = 1) → J 47 [some (vr 62), some (vi x.1), none] [] M1 := by
      intro x M1 hx hr hx01
      have h68 : ∀ z : Int, (x.1 = 1 → ((z = 1 ∧ (x.2 1 5 = 3 ∨ x.2 1 5 = 0)) ∨ (z = 0 ∧ ¬ (x.2 1 5 = 3 ∨ x.2 1 5 = 0)))) → J 68 [some (vr 62), some (vi x.1), none] [vi z] M1 := by
        intro z hz
        rcases hx01 with c0 | c1
        · have hE : rowE Y = x := by unfold rowE; rw [hx, if_neg (fun c => by have := c.1; omega)]
          have h97 : J 97 [some (vr 62), some (vi x.1), some (vi z)] [] M1 := by
            have := h98 0 (some (vi z)) x M1 hE hr (Or.inl rfl) c0 (some (vi x.1))
            refine hJ 97 _ _ _ (show mm_wp _ _ _ mo_M_rowLine_97 _ _ _ from ?_)
            simp only [mo_M_rowLine_97, mm_wp, mm_ldi, mm_lda, mm_ldl, mm_sti, mm_sta, mm_stl, mm_inc, mm_2i, mm_mm, mm_2l, mm_lcmp, mm_i2l, mm_l2i, mm_cast8, mm_if1, mm_if2, mm_cmp, mm_swi, mm_sw, mm_pop1, mm_dup, mm_dup2, mm_geti, mm_geta, mm_puti, mm_iald, mm_bald, mm_aald, mm_iast, mm_bast, mm_alen, mm_acpy, mm_call, mm_callv, mm_recv, mm_pop, mm_find, mm_push, mm_cats, mm_cat, mm_reti, mm_retz, mm_retl, mm_reta, mm_retv, mm_set1, mm_set2, mm_kill, List.getElem?_cons_zero, List.getElem?_cons_succ, Int.reduceToNat, ↓reduceIte, Nat.reduceEqDiff, Nat.reduceDiv, Nat.reduceAdd, Nat.reduceLeDiff, Nat.zero_le, true_and, and_true, true_or, or_true, mm_b0, mm_b1, mm_lc_lt, mm_lc_le, mm_lc_gt, mm_lc_ge, mm_lc_eq, Int.not_lt, Int.not_le, Decidable.not_not, Int.sub_neg]
            exact this
          rw [c0] at h97 ⊢
          refine hJ 68 _ _ _ (show mm_wp _ _ _ mo_M_rowLine_68 _ _ _ from ?_)
          simp only [mo_M_rowLine_68, mm_wp, mm_ldi, mm_lda, mm_ldl, mm_sti, mm_sta, mm_stl, mm_inc, mm_2i, mm_mm, mm_2l, mm_lcmp, mm_i2l, mm_l2i, mm_cast8, mm_if1, mm_if2, mm_cmp, mm_swi, mm_sw, mm_pop1, mm_dup, mm_dup2, mm_geti, mm_geta, mm_puti, mm_iald, mm_bald, mm_aald, mm_iast, mm_bast, mm_alen, mm_acpy, mm_call, mm_callv, mm_recv, mm_pop, mm_find, mm_push, mm_cats, mm_cat, mm_reti, mm_retz, mm_retl, mm_reta, mm_retv, mm_set1, mm_set2, mm_kill, List.getElem?_cons_zero, List.getElem?_cons_succ, Int.reduceToNat, ↓reduceIte, Nat.reduceEqDiff, Nat.reduceDiv, Nat.reduceAdd, Nat.reduceLeDiff, Nat.zero_le, true_and, and_true, true_or, or_true, mm_b0, mm_b1, mm_lc_lt, mm_lc_le, mm_lc_gt, mm_lc_ge, mm_lc_eq, Int.not_lt, Int.not_le, Decidable.not_not, Int.sub_neg]
          exact ⟨fun _ => h97, fun c => by first | omega | simp at c⟩
        · obtain ⟨hT1, hQ1, h261⟩ := hr.2.1 c1
          have hb1 := rdT_b hT1
          have e13 : M1 62 13 = x.2 3 4 := hQ1.2.1
          have h93 : ¬ (x.2 3 4 < 2 ∧ (x.2 1 5 = 3 ∨ x.2 1 5 = 0)) → J 93 [some (vr 62), some (vi 1), some (vi z)] [] M1 := by
            intro hc
            have hE : rowE Y = x := by unfold rowE; rw [hx, if_neg (fun c => hc c.2)]
            have := h98 1 (some (vi z)) x M1 hE hr (Or.inr rfl) c1 (some (vi 1))
            refine hJ 93 _ _ _ (show mm_wp _ _ _ mo_M_rowLine_93 _ _ _ from ?_)
            simp only [mo_M_rowLine_93, mm_wp, mm_ldi, mm_lda, mm_ldl, mm_sti, mm_sta, mm_stl, mm_inc, mm_2i, mm_mm, mm_2l, mm_lcmp, mm_i2l, mm_l2i, mm_cast8, mm_if1, mm_if2, mm_cmp, mm_swi, mm_sw, mm_pop1, mm_dup, mm_dup2, mm_geti, mm_geta, mm_puti, mm_iald, mm_bald, mm_aald, mm_iast, mm_bast, mm_alen, mm_acpy, mm_call, mm_callv, mm_recv, mm_pop, mm_find, mm_push, mm_cats, mm_cat, mm_reti, mm_retz, mm_retl, mm_reta, mm_retv, mm_set1, mm_set2, mm_kill, List.getElem?_cons_zero, List.getElem?_cons_succ, Int.reduceToNat, ↓reduceIte, Nat.reduceEqDiff, Nat.reduceDiv, Nat.reduceAdd, Nat.reduceLeDiff, Nat.zero_le, true_and, and_true, true_or, or_true, mm_b0, mm_b1, mm_lc_lt, mm_lc_le, mm_lc_gt, mm_lc_ge, mm_lc_eq, Int.not_lt, Int.not_le, Decidable.not_not, Int.sub_neg]
            exact this
          have h97 : x.2 3 4 < 2 → (x.2 1 5 = 3 ∨ x.2 1 5 = 0) → J 97 [some (vr 62), some (vi 1), some (vi z)] [] (mm_up M1 62 26 (8 * M1 62 21 + 5)) := by
            intro hc1 hc2
            have hE : rowE Y = (0, rfM x.2 5) := by unfold rowE; rw [hx, if_pos ⟨c1, hc1, hc2⟩]
            have := h98 0 (some (vi z)) (0, rfM x.2 5) (mm_up M1 62 26 (8 * M1 62 21 + 5)) hE (rdR_w hr.1 hT1 (by omega) (by omega)) (Or.inl rfl) rfl (some (vi 1))
            refine hJ 97 _ _ _ (show mm_wp _ _ _ mo_M_rowLine_97 _ _ _ from ?_)
            simp only [mo_M_rowLine_97, mm_wp, mm_ldi, mm_lda, mm_ldl, mm_sti, mm_sta, mm_stl, mm_inc, mm_2i, mm_mm, mm_2l, mm_lcmp, mm_i2l, mm_l2i, mm_cast8, mm_if1, mm_if2, mm_cmp, mm_swi, mm_sw, mm_pop1, mm_dup, mm_dup2, mm_geti, mm_geta, mm_puti, mm_iald, mm_bald, mm_aald, mm_iast, mm_bast, mm_alen, mm_acpy, mm_call, mm_callv, mm_recv, mm_pop, mm_find, mm_push, mm_cats, mm_cat, mm_reti, mm_retz, mm_retl, mm_reta, mm_retv, mm_set1, mm_set2, mm_kill, List.getElem?_cons_zero, List.getElem?_cons_succ, Int.reduceToNat, ↓reduceIte, Nat.reduceEqDiff, Nat.reduceDiv, Nat.reduceAdd, Nat.reduceLeDiff, Nat.zero_le, true_and, and_true, true_or, or_true, mm_b0, mm_b1, mm_lc_lt, mm_lc_le, mm_lc_gt, mm_lc_ge, mm_lc_eq, Int.not_lt, Int.not_le, Decidable.not_not, Int.sub_neg]
            exact this
          have hz := hz c1
          rw [c1]
          refine hJ 68 _ _ _ (show mm_wp _ _ _ mo_M_rowLine_68 _ _ _ from ?_)
          simp only [mo_M_rowLine_68, mm_wp, mm_ldi, mm_lda, mm_ldl, mm_sti, mm_sta, mm_stl, mm_inc, mm_2i, mm_mm, mm_2l, mm_lcmp, mm_i2l, mm_l2i, mm_cast8, mm_if1, mm_if2, mm_cmp, mm_swi, mm_sw, mm_pop1, mm_dup, mm_dup2, mm_geti, mm_geta, mm_puti, mm_iald, mm_bald, mm_aald, mm_iast, mm_bast, mm_alen, mm_acpy, mm_call, mm_callv, mm_recv, mm_pop, mm_find, mm_push, mm_cats, mm_cat, mm_reti, mm_retz, mm_retl, mm_reta, mm_retv, mm_set1, mm_set2, mm_kill, List.getElem?_cons_zero, List.getElem?_cons_succ, Int.reduceToNat, ↓reduceIte, Nat.reduceEqDiff, Nat.reduceDiv, Nat.reduceAdd, Nat.reduceLeDiff, Nat.zero_le, true_and, and_true, true_or, or_true, mm_b0, mm_b1, mm_lc_lt, mm_lc_le, mm_lc_gt, mm_lc_ge, mm_lc_eq, Int.not_lt, Int.not_le, Decidable.not_not, Int.sub_neg, c_0, c_1, c_2, l_2, c_3, c_4, l_4, c_5, l_5, c_6, l_6, c_7, l_7, c_8, c_9, l_9, c_10, l_10, c_11, l_11, c_12, l_12, c_13, c_14, l_14, c_15, l_15, c_16, l_16, c_17, l_17, c_18, c_19, l_19, c_20, l_20, c_21, l_21, c_22, l_22, c_23, c_24, l_24, c_25, l_25, c_26, c_27, c_28, l_28, c_29, c_30, l_30, c_31, c_32, l_32, c_33, l_33, c_34, l_34, c_35, l_35, c_36, l_36, c_37, l_37, c_38, l_38, c_39, l_39, c_40, c_41, l_41, c_42, c_43, c_44, l_44, c_45, c_46, l_46, c_47, c_48, l_48, c_49, l_49, c_50, l_50, c_51, l_51, c_52, l_52, c_53, l_53, c_54, l_54, c_55, l_55, c_56, l_56, c_57, l_57, c_58, l_58, c_59, l_59, c_60, l_60, c_61, l_61, c_62, c_63, l_63, c_64, l_64, c_65, l_65, c_66, l_66, c_67, l_67, c_68, l_68, c_69, l_69, c_70, l_70, c_71, l_71, c_72, l_72, c_73, l_73, c_74, l_74, c_75, l_75, c_76, l_76, e13, t_M_wrong]
          refine ⟨fun c => by first | omega | simp at c, fun _ => ⟨fun c => h93 (by omega), fun c => ⟨fun c2 => h93 (by omega), fun c2 => ⟨h261, hb1.1, hb1.2.1, by omega, by omega, fun _ => h97 (by omega) (by omega), fun c3 => by first | omega | simp at c3⟩⟩⟩⟩
      have h63 : (x.1 = 1 → (x.2 1 5 = 3 ∨ x.2 1 5 = 0)) → J 63 [some (vr 62), some (vi x.1), none] [] M1 := by
        intro hz
        refine hJ 63 _ _ _ (show mm_wp _ _ _ mo_M_rowLine_63 _ _ _ from ?_)
        simp only [mo_M_rowLine_63, mm_wp, mm_ldi, mm_lda, mm_ldl, mm_sti, mm_sta, mm_stl, mm_inc, mm_2i, mm_mm, mm_2l, mm_lcmp, mm_i2l, mm_l2i, mm_cast8, mm_if1, mm_if2, mm_cmp, mm_swi, mm_sw, mm_pop1, mm_dup, mm_dup2, mm_geti, mm_geta, mm_puti, mm_iald, mm_bald, mm_aald, mm_iast, mm_bast, mm_alen, mm_acpy, mm_call, mm_callv, mm_recv, mm_pop, mm_find, mm_push, mm_cats, mm_cat, mm_reti, mm_retz, mm_retl, mm_reta, mm_retv, mm_set1, mm_set2, mm_kill, List.getElem?_cons_zero, List.getElem?_cons_succ, Int.reduceToNat, ↓reduceIte, Nat.reduceEqDiff, Nat.reduceDiv, Nat.reduceAdd, Nat.reduceLeDiff, Nat.zero_le, true_and, and_true, true_or, or_true, mm_b0, mm_b1, mm_lc_lt, mm_lc_le, mm_lc_gt, mm_lc_ge, mm_lc_eq, Int.not_lt, Int.not_le, Decidable.not_not, Int.sub_neg]
        exact h68 _ (fun c => Or.inl ⟨rfl, hz c⟩)
      have h67 : (x.1 = 1 → ¬ (x.2 1 5 = 3 ∨ x.2 1 5 = 0)) → J 67 [some (vr 62), some (vi x.1), none] [] M1 := by
        intro hz
        refine hJ 67 _ _ _ (show mm_wp _ _ _ mo_M_rowLine_67 _ _ _ from ?_)
        simp only [mo_M_rowLine_67, mm_wp, mm_ldi, mm_lda, mm_ldl, mm_sti, mm_sta, mm_stl, mm_inc, mm_2i, mm_mm, mm_2l, mm_lcmp, mm_i2l, mm_l2i, mm_cast8, mm_if1, mm_if2, mm_cmp, mm_swi, mm_sw, mm_pop1, mm_dup, mm_dup2, mm_geti, mm_geta, mm_puti, mm_iald, mm_bald, mm_aald, mm_iast, mm_bast, mm_alen, mm_acpy, mm_call, mm_callv, mm_recv, mm_pop, mm_find, mm_push, mm_cats, mm_cat, mm_reti, mm_retz, mm_retl, mm_reta, mm_retv, mm_set1, mm_set2, mm_kill, List.getElem?_cons_zero, List.getElem?_cons_succ, Int.reduceToNat, ↓reduceIte, Nat.reduceEqDiff, Nat.reduceDiv, Nat.reduceAdd, Nat.reduceLeDiff, Nat.zero_le, true_and, and_true, true_or, or_true, mm_b0, mm_b1, mm_lc_lt, mm_lc_le, mm_lc_gt, mm_lc_ge, mm_lc_eq, Int.not_lt, Int.not_le, Decidable.not_not, Int.sub_neg]
        exact h68 _ (fun c => Or.inr ⟨rfl, hz c⟩)
      refine hJ 47 _ _ _ (show mm_wp _ _ _ mo_M_rowLine_47 _ _ _ from ?_)
      simp only [mo_M_rowLine_47, mm_wp, mm_ldi, mm_lda, mm_ldl, mm_sti, mm_sta, mm_stl, mm_inc, mm_2i, mm_mm, mm_2l, mm_lcmp, mm_i2l, mm_l2i, mm_cast8, mm_if1, mm_if2, mm_cmp, mm_swi, mm_sw, mm_pop1, mm_dup, mm_dup2, mm_geti, mm_geta, mm_puti, mm_iald, mm_bald, mm_aald, mm_iast, mm_bast, mm_alen, mm_acpy, mm_call, mm_callv, mm_recv, mm_pop, mm_find, mm_push, mm_cats, mm_cat, mm_reti, mm_retz, mm_retl, mm_reta, mm_retv, mm_set1, mm_set2, mm_kill, List.getElem?_cons_zero, List.getElem?_cons_succ, Int.reduceToNat, ↓reduceIte, Nat.reduceEqDiff, Nat.reduceDiv, Nat.reduceAdd, Nat.reduceLeDiff, Nat.zero_le, true_and, and_true, true_or, or_true, mm_b0, mm_b1, mm_lc_lt, mm_lc_le, mm_lc_gt, mm_lc_ge, mm_lc_eq, Int.not_lt, Int.not_le, Decidable.not_not, Int.sub_neg, c_0, c_1, c_2, l_2, c_3, c_4, l_4, c_5, l_5, c_6, l_6, c_7, l_7, c_8, c_9, l_9, c_10, l_10, c_11, l_11, c_12, l_12, c_13, c_14, l_14, c_15, l_15, c_16, l_16, c_17, l_17, c_18, c_19, l_19, c_20, l_20, c_21, l_21, c_22, l_22, c_23, c_24, l_24, c_25, l_25, c_26, c_27, c_28, l_28, c_29, c_30, l_30, c_31, c_32, l_32, c_33, l_33, c_34, l_34, c_35, l_35, c_36, l_36, c_37, l_37, c_38, l_38, c_39, l_39, c_40, c_41, l_41, c_42, c_43, c_44, l_44, c_45, c_46, l_46, c_47, c_48, l_48, c_49, l_49, c_50, l_50, c_51, l_51, c_52, l_52, c_53, l_53, c_54, l_54, c_55, l_55, c_56, l_56, c_57, l_57, c_58, l_58, c_59, l_59, c_60, l_60, c_61, l_61, c_62, c_63, l_63, c_64, l_64, c_65, l_65, c_66, l_66, c_67, l_67, c_68, l_68, c_69, l_69, c_70, l_70, c_71, l_71, c_72, l_72, c_73, l_73, c_74, l_74, c_75, l_75, c_76, l_76, t_M_isSign]
      have htk : x.1 = 1 → (M1 62 23 = 0 ↔ x.2 1 5 = 0) ∧ ((M1 62 23 = 3 ∧ M1 62 25 = 59) ↔ x.2 1 5 = 3) := fun c => by
        have := tk_eq (hr.2.1 c).1
        exact ⟨this.2.2.1, this.2.2.2.1⟩
      refine ⟨fun c => h63 (fun w => Or.inr ((htk w).1.mp c)), fun c => ⟨fun c2 => h67 (fun w w2 => ?_), fun c2 => h63 (fun w => Or.inl ((htk w).2.mp c2))⟩⟩
      rcases w2 with w2 | w2
      · exact c2 ((htk w).2.mpr w2)
      · exact c ((htk w).1.mpr w2)
    have hl : ∀ (k : Nat) (x : Int × mmM) (M1 : mmM), rlF k x = Y → rdR x M M1 → (x.1 = 0 ∨ x.1 = 1) → (x.1 = 1 → x.2 3 4 + k = 61) → J 22 [some (vr 62), some (vi x.1), none] [] M1 := by
      intro k
      induction k with
      | zero =>
        intro x M1 hx hr hx01 hcn
        have hx : x = Y := hx
        have := h47 x M1 hx.symm hr hx01
        rcases hx01 with c0 | c1
        · rw [c0] at this ⊢
          refine hJ 22 _ _ _ (show mm_wp _ _ _ mo_M_rowLine_22 _ _ _ from ?_)
          simp only [mo_M_rowLine_22, mm_wp, mm_ldi, mm_lda, mm_ldl, mm_sti, mm_sta, mm_stl, mm_inc, mm_2i, mm_mm, mm_2l, mm_lcmp, mm_i2l, mm_l2i, mm_cast8, mm_if1, mm_if2, mm_cmp, mm_swi, mm_sw, mm_pop1, mm_dup, mm_dup2, mm_geti, mm_geta, mm_puti, mm_iald, mm_bald, mm_aald, mm_iast, mm_bast, mm_alen, mm_acpy, mm_call, mm_callv, mm_recv, mm_pop, mm_find, mm_push, mm_cats, mm_cat, mm_reti, mm_retz, mm_retl, mm_reta, mm_retv, mm_set1, mm_set2, mm_kill, List.getElem?_cons_zero, List.getElem?_cons_succ, Int.reduceToNat, ↓reduceIte, Nat.reduceEqDiff, Nat.reduceDiv, Nat.reduceAdd, Nat.reduceLeDiff, Nat.zero_le, true_and, and_true, true_or, or_true, mm_b0, mm_b1, mm_lc_lt, mm_lc_le, mm_lc_gt, mm_lc_ge, mm_lc_eq, Int.not_lt, Int.not_le, Decidable.not_not, Int.sub_neg]
          exact ⟨fun _ => this, fun c => by first | omega | simp at c⟩
        · obtain ⟨hT1, hQ1, h261⟩ := hr.2.1 c1
          have hs := hQ1.1
          unfold rdS at hs
          have := hcn c1
          omega
      | succ k ih =>
        intro x M1 hx hr hx01 hcn
        simp only [rlF] at hx
        rcases hx01 with c0 | c1
        · rw [if_neg (fun c => by have := c.1; omega)] at hx
          have := h47 x M1 hx.symm hr (Or.inl c0)
          rw [c0] at this ⊢
          refine hJ 22 _ _ _ (show mm_wp _ _ _ mo_M_rowLine_22 _ _ _ from ?_)
          simp only [mo_M_rowLine_22, mm_wp, mm_ldi, mm_lda, mm_ldl, mm_sti, mm_sta, mm_stl, mm_inc, mm_2i, mm_mm, mm_2l, mm_lcmp, mm_i2l, mm_l2i, mm_cast8, mm_if1, mm_if2, mm_cmp, mm_swi, mm_sw, mm_pop1, mm_dup, mm_dup2, mm_geti, mm_geta, mm_puti, mm_iald, mm_bald, mm_aald, mm_iast, mm_bast, mm_alen, mm_acpy, mm_call, mm_callv, mm_recv, mm_pop, mm_find, mm_push, mm_cats, mm_cat, mm_reti, mm_retz, mm_retl, mm_reta, mm_retv, mm_set1, mm_set2, mm_kill, List.getElem?_cons_zero, List.getElem?_cons_succ, Int.reduceToNat, ↓reduceIte, Nat.reduceEqDiff, Nat.reduceDiv, Nat.reduceAdd, Nat.reduceLeDiff, Nat.zero_le, true_and, and_true, true_or, or_true, mm_b0, mm_b1, mm_lc_lt, mm_lc_le, mm_lc_gt, mm_lc_ge, mm_lc_eq, Int.not_lt, Int.not_le, Decidable.not_not, Int.sub_neg]
          exact ⟨fun _ => this, fun c => by first | omega | simp at c⟩
        · obtain ⟨hT1, hQ1, h261⟩ := hr.2.1 c1
          have htk := (tk_eq hT1).2.2.2.2
          have hcn := hcn c1
          by_cases hcm : x.2 1 5 = 4
          · rw [if_pos ⟨c1, hcm⟩] at hx
            rw [c1]
            refine hJ 22 _ _ _ (show mm_wp _ _ _ mo_M_rowLine_22 _ _ _ from ?_)
            simp only [mo_M_rowLine_22, mm_wp, mm_ldi, mm_lda, mm_ldl, mm_sti, mm_sta, mm_stl, mm_inc, mm_2i, mm_mm, mm_2l, mm_lcmp, mm_i2l, mm_l2i, mm_cast8, mm_if1, mm_if2, mm_cmp, mm_swi, mm_sw, mm_pop1, mm_dup, mm_dup2, mm_geti, mm_geta, mm_puti, mm_iald, mm_bald, mm_aald, mm_iast, mm_bast, mm_alen, mm_acpy, mm_call, mm_callv, mm_recv, mm_pop, mm_find, mm_push, mm_cats, mm_cat, mm_reti, mm_retz, mm_retl, mm_reta, mm_retv, mm_set1, mm_set2, mm_kill, List.getElem?_cons_zero, List.getElem?_cons_succ, Int.reduceToNat, ↓reduceIte, Nat.reduceEqDiff, Nat.reduceDiv, Nat.reduceAdd, Nat.reduceLeDiff, Nat.zero_le, true_and, and_true, true_or, or_true, mm_b0, mm_b1, mm_lc_lt, mm_lc_le, mm_lc_gt, mm_lc_ge, mm_lc_eq, Int.not_lt, Int.not_le, Decidable.not_not, Int.sub_neg, c_0, c_1, c_2, l_2, c_3, c_4, l_4, c_5, l_5, c_6, l_6, c_7, l_7, c_8, c_9, l_9, c_10, l_10, c_11, l_11, c_12, l_12, c_13, c_14, l_14, c_15, l_15, c_16, l_16, c_17, l_17, c_18, c_19, l_19, c_20, l_20, c_21, l_21, c_22, l_22, c_23, c_24, l_24, c_25, l_25, c_26, c_27, c_28, l_28, c_29, c_30, l_30, c_31, c_32, l_32, c_33, l_33, c_34, l_34, c_35, l_35, c_36, l_36, c_37, l_37, c_38, l_38, c_39, l_39, c_40, c_41, l_41, c_42, c_43, c_44, l_44, c_45, c_46, l_46, c_47, c_48, l_48, c_49, l_49, c_50, l_50, c_51, l_51, c_52, l_52, c_53, l_53, c_54, l_54, c_55, l_55, c_56, l_56, c_57, l_57, c_58, l_58, c_59, l_59, c_60, l_60, c_61, l_61, c_62, c_63, l_63, c_64, l_64, c_65, l_65, c_66, l_66, c_67, l_67, c_68, l_68, c_69, l_69, c_70, l_70, c_71, l_71, c_72, l_72, c_73, l_73, c_74, l_74, c_75, l_75, c_76, l_76, t_M_isSign, t_M_go, t_M_rowCell]
            refine ⟨fun c => by first | omega | simp at c, fun _ => ⟨fun c => absurd (htk.mpr hcm) c, fun _ => ⟨x.2, rdT_P hT1, fun M2 hg hT2 => ⟨nxM x.2, hT2, rdQ_go hg hQ1, by rw [hg.2 26 (by omega), h261], fun M3 hr3 => ?_⟩⟩⟩⟩
            have hf := clF_f (M := nxM x.2) (nx_rd hT1.1.1) (rdS_nx hQ1.1)
            have e34 : nxM x.2 3 4 = x.2 3 4 := by rw [nx_o _ (by decide)]
            refine ih (clF (nxM x.2)) M3 hx (rdR_tr hr.1 (rdR_tr (rlG_go hg) hr3)) ?_ (fun c => ?_)
            · rcases hf.2.2 with c | c
              · exact Or.inl c
              · exact Or.inr c.1
            · rcases hf.2.2 with c9 | c9
              · omega
              · rw [c9.2, e34]; omega
          · rw [if_neg (fun c => hcm c.2)] at hx
            have := h47 x M1 hx.symm hr (Or.inr c1)
            rw [c1] at this ⊢
            refine hJ 22 _ _ _ (show mm_wp _ _ _ mo_M_rowLine_22 _ _ _ from ?_)
            simp only [mo_M_rowLine_22, mm_wp, mm_ldi, mm_lda, mm_ldl, mm_sti, mm_sta, mm_stl, mm_inc, mm_2i, mm_mm, mm_2l, mm_lcmp, mm_i2l, mm_l2i, mm_cast8, mm_if1, mm_if2, mm_cmp, mm_swi, mm_sw, mm_pop1, mm_dup, mm_dup2, mm_geti, mm_geta, mm_puti, mm_iald, mm_bald, mm_aald, mm_iast, mm_bast, mm_alen, mm_acpy, mm_call, mm_callv, mm_recv, mm_pop, mm_find, mm_push, mm_cats, mm_cat, mm_reti, mm_retz, mm_retl, mm_reta, mm_retv, mm_set1, mm_set2, mm_kill, List.getElem?_cons_zero, List.getElem?_cons_succ, Int.reduceToNat, ↓reduceIte, Nat.reduceEqDiff, Nat.reduceDiv, Nat.reduceAdd, Nat.reduceLeDiff, Nat.zero_le, true_and, and_true, true_or, or_true, mm_b0, mm_b1, mm_lc_lt, mm_lc_le, mm_lc_gt, mm_lc_ge, mm_lc_eq, Int.not_lt, Int.not_le, Decidable.not_not, Int.sub_neg, c_0, c_1, c_2, l_2, c_3, c_4, l_4, c_5, l_5, c_6, l_6, c_7, l_7, c_8, c_9, l_9, c_10, l_10, c_11, l_11, c_12, l_12, c_13, c_14, l_14, c_15, l_15, c_16, l_16, c_17, l_17, c_18, c_19, l_19, c_20, l_20, c_21, l_21, c_22, l_22, c_23, c_24, l_24, c_25, l_25, c_26, c_27, c_28, l_28, c_29, c_30, l_30, c_31, c_32, l_32, c_33, l_33, c_34, l_34, c_35, l_35, c_36, l_36, c_37, l_37, c_38, l_38, c_39, l_39, c_40, c_41, l_41, c_42, c_43, c_44, l_44, c_45, c_46, l_46, c_47, c_48, l_48, c_49, l_49, c_50, l_50, c_51, l_51, c_52, l_52, c_53, l_53, c_54, l_54, c_55, l_55, c_56, l_56, c_57, l_57, c_58, l_58, c_59, l_59, c_60, l_60, c_61, l_61, c_62, c_63, l_63, c_64, l_64, c_65, l_65, c_66, l_66, c_67, l_67, c_68, l_68, c_69, l_69, c_70, l_70, c_71, l_71, c_72, l_72, c_73, l_73, c_74, l_74, c_75, l_75, c_76, l_76, t_M_isSign]
            exact ⟨fun c => by first | omega | simp at c, fun _ => ⟨fun _ => this, fun c => absurd (htk.mp c) hcm⟩⟩
    have hf := clF_f (M := nxM N) (nx_rd hT.1.1) (rdS_nx hS)
    have e34 : nxM N 3 4 = N 3 4 := by rw [nx_o _ (by decide)]
    refine hJ 13 _ _ _ (show mm_wp _ _ _ mo_M_rowLine_13 _ _ _ from ?_)
    simp only [mo_M_rowLine_13, mm_wp, mm_ldi, mm_lda, mm_ldl, mm_sti, mm_sta, mm_stl, mm_inc, mm_2i, mm_mm, mm_2l, mm_lcmp, mm_i2l, mm_l2i, mm_cast8, mm_if1, mm_if2, mm_cmp, mm_swi, mm_sw, mm_pop1, mm_dup, mm_dup2, mm_geti, mm_geta, mm_puti, mm_iald, mm_bald, mm_aald, mm_iast, mm_bast, mm_alen, mm_acpy, mm_call, mm_callv, mm_recv, mm_pop, mm_find, mm_push, mm_cats, mm_cat, mm_reti, mm_retz, mm_retl, mm_reta, mm_retv, mm_set1, mm_set2, mm_kill, List.getElem?_cons_zero, List.getElem?_cons_succ, Int.reduceToNat, ↓reduceIte, Nat.reduceEqDiff, Nat.reduceDiv, Nat.reduceAdd, Nat.reduceLeDiff, Nat.zero_le, true_and, and_true, true_or, or_true, mm_b0, mm_b1, mm_lc_lt, mm_lc_le, mm_lc_gt, mm_lc_ge, mm_lc_eq, Int.not_lt, Int.not_le, Decidable.not_not, Int.sub_neg, c_0, c_1, c_2, l_2, c_3, c_4, l_4, c_5, l_5, c_6, l_6, c_7, l_7, c_8, c_9, l_9, c_10, l_10, c_11, l_11, c_12, l_12, c_13, c_14, l_14, c_15, l_15, c_16, l_16, c_17, l_17, c_18, c_19, l_19, c_20, l_20, c_21, l_21, c_22, l_22, c_23, c_24, l_24, c_25, l_25, c_26, c_27, c_28, l_28, c_29, c_30, l_30, c_31, c_32, l_32, c_33, l_33, c_34, l_34, c_35, l_35, c_36, l_36, c_37, l_37, c_38, l_38, c_39, l_39, c_40, c_41, l_41, c_42, c_43, c_44, l_44, c_45, c_46, l_46, c_47, c_48, l_48, c_49, l_49, c_50, l_50, c_51, l_51, c_52, l_52, c_53, l_53, c_54, l_54, c_55, l_55, c_56, l_56, c_57, l_57, c_58, l_58, c_59, l_59, c_60, l_60, c_61, l_61, c_62, c_63, l_63, c_64, l_64, c_65, l_65, c_66, l_66, c_67, l_67, c_68, l_68, c_69, l_69, c_70, l_70, c_71, l_71, c_72, l_72, c_73, l_73, c_74, l_74, c_75, l_75, c_76, l_76, t_M_go, t_M_rowCell]
    refine ⟨N, rdT_P hT, fun M2 hg hT2 => ⟨nxM N, hT2, rdQ_go hg hQ, by rw [hg.2 26 (by omega), h26], fun M3 hr3 => ?_⟩⟩
    refine hl 60 (clF (nxM N)) M3 hY (rdR_tr (rlG_go hg) hr3) ?_ (fun c => ?_)
    · rcases hf.2.2 with c | c
      · exact Or.inl c
      · exact Or.inr c.1
    · rcases hf.2.2 with c9 | c9
      · omega
      · rw [c9.2, e34]; omega
  refine hJ 0 _ _ _ (show mm_wp _ _ _ mo_M_rowLine_0 _ _ _ from ?_)
  simp only [mo_M_rowLine_0, mm_wp, mm_ldi, mm_lda, mm_ldl, mm_sti, mm_sta, mm_stl, mm_inc, mm_2i, mm_mm, mm_2l, mm_lcmp, mm_i2l, mm_l2i, mm_cast8, mm_if1, mm_if2, mm_cmp, mm_swi, mm_sw, mm_pop1, mm_dup, mm_dup2, mm_geti, mm_geta, mm_puti, mm_iald, mm_bald, mm_aald, mm_iast, mm_bast, mm_alen, mm_acpy, mm_call, mm_callv, mm_recv, mm_pop, mm_find, mm_push, mm_cats, mm_cat, mm_reti, mm_retz, mm_retl, mm_reta, mm_retv, mm_set1, mm_set2, mm_kill, List.getElem?_cons_zero, List.getElem?_cons_succ, Int.reduceToNat, ↓reduceIte, Nat.reduceEqDiff, Nat.reduceDiv, Nat.reduceAdd, Nat.reduceLeDiff, Nat.zero_le, true_and, and_true, true_or, or_true, mm_b0, mm_b1, mm_lc_lt, mm_lc_le, mm_lc_gt, mm_lc_ge, mm_lc_eq, Int.not_lt, Int.not_le, Decidable.not_not, Int.sub_neg, c_0, c_1, c_2, l_2, c_3, c_4, l_4, c_5, l_5, c_6, l_6, c_7, l_7, c_8, c_9, l_9, c_10, l_10, c_11, l_11, c_12, l_12, c_13, c_14, l_14, c_15, l_15, c_16, l_16, c_17, l_17, c_18, c_19, l_19, c_20, l_20, c_21, l_21, c_22, l_22, c_23, c_24, l_24, c_25, l_25, c_26, c_27, c_28, l_28, c_29, c_30, l_30, c_31, c_32, l_32, c_33, l_33, c_34, l_34, c_35, l_35, c_36, l_36, c_37, l_37, c_38, l_38, c_39, l_39, c_40, c_41, l_41, c_42, c_43, c_44, l_44, c_45, c_46, l_46, c_47, c_48, l_48, c_49, l_49, c_50, l_50, c_51, l_51, c_52, l_52, c_53, l_53, c_54, l_54, c_55, l_55, c_56, l_56, c_57, l_57, c_58, l_58, c_59, l_59, c_60, l_60, c_61, l_61, c_62, c_63, l_63, c_64, l_64, c_65, l_65, c_66, l_66, c_67, l_67, c_68, l_68, c_69, l_69, c_70, l_70, c_71, l_71, c_72, l_72, c_73, l_73, c_74, l_74, c_75, l_75, c_76, l_76, t_M_wrong]
  refine ⟨fun z => h13 z, fun z => ⟨h26, hb.1, hb.2.1, by omega, by omega, ?_⟩⟩
  have hrf : rowF N = (0, rfM N 3) := by unfold rowF; rw [if_pos (by omega)]
  rw [hrf] at h
  exact h _ (rdR_w (rlG_rf M) hT (by omega) (by omega))
