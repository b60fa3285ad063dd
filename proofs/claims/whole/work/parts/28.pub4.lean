/-! would, touched, home, back -/
theorem qAdd_i {M1 : mmM} {k f l t i : Int} (h : i ≠ M1 18 4) : qAdd M1 18 k f l t 19 i = M1 19 i ∧ qAdd M1 18 k f l t 20 i = M1 20 i ∧ qAdd M1 18 k f l t 21 i = M1 21 i ∧ qAdd M1 18 k f l t 22 i = M1 22 i := by
  unfold qAdd
  refine ⟨?_, ?_, ?_, ?_⟩ <;> simp [mm_up, h]
theorem qAdd_n {M1 : mmM} {k f l t : Int} : qAdd M1 18 k f l t 19 (M1 18 4) = k ∧ qAdd M1 18 k f l t 20 (M1 18 4) = f ∧ qAdd M1 18 k f l t 21 (M1 18 4) = l ∧ qAdd M1 18 k f l t 22 (M1 18 4) = t := by
  unfold qAdd
  refine ⟨?_, ?_, ?_, ?_⟩ <;> simp [mm_up]
theorem qAdd_B {M1 : mmM} {k f l t : Int} (hB : qB M1 18) (hn : M1 18 4 ≤ 24) (h : 0 ≤ f ∧ f < 60 ∧ 0 ≤ l ∧ l < 60 ∧ 0 ≤ t ∧ t ≤ 32) : qB (qAdd M1 18 k f l t) 18 := by
  have h0 := hB.1
  have h3 : ∀ q, 0 ≤ q → q < M1 18 4 → 0 ≤ M1 20 q ∧ M1 20 q < 60 ∧ 0 ≤ M1 21 q ∧ M1 21 q < 60 ∧ 0 ≤ M1 22 q ∧ M1 22 q ≤ 32 := hB.2.2
  refine ⟨by rw [qAdd_4]; omega, by rw [qAdd_4]; omega, ?_⟩
  rw [qAdd_4]
  intro q q0 q1
  show 0 ≤ qAdd M1 18 k f l t 20 q ∧ qAdd M1 18 k f l t 20 q < 60 ∧ 0 ≤ qAdd M1 18 k f l t 21 q ∧ qAdd M1 18 k f l t 21 q < 60 ∧ 0 ≤ qAdd M1 18 k f l t 22 q ∧ qAdd M1 18 k f l t 22 q ≤ 32
  by_cases c : q = M1 18 4
  · rw [c, qAdd_n.2.1, qAdd_n.2.2.1, qAdd_n.2.2.2]; exact h
  · rw [(qAdd_i c).2.1, (qAdd_i c).2.2.1, (qAdd_i c).2.2.2]; exact h3 q q0 (by omega)
theorem qAdd_fr {M M1 : mmM} {k f l t : Int} (h : ∀ o, o < 26 → M1 o = M o) : ∀ o, o < 26 → qAdd M1 18 k f l t o = qAdd M 18 k f l t o := by
  intro o ho
  have e18 := h 18 (by decide)
  by_cases c : o < 18 ∨ 22 < o
  · rw [qAdd_o (by omega), qAdd_o (by omega), h o ho]
  · have : o = 18 ∨ o = 19 ∨ o = 20 ∨ o = 21 ∨ o = 22 := by omega
    unfold qAdd
    rcases this with rfl | rfl | rfl | rfl | rfl <;> funext i <;> simp [mm_up, h 18 (by decide), h 19 (by decide), h 20 (by decide), h 21 (by decide), h 22 (by decide)]
def t_P_would : mmT := fun as M Q => match as with
  | [.inr (.inr o), .inl k, .inl f, .inl l, .inl t] => o = 0 ∧ rwI M ∧ quI M 24 ∧ seI M ∧ (¬ ((0 ≤ k ∧ k < 8) ∧ (0 ≤ f ∧ f < M 13 4) ∧ (0 ≤ l ∧ l < M 13 4) ∧ f ≤ l ∧ (t = -1 ∨ 0 ≤ t ∧ t ≤ M 13 5)) → Q (some (vi (-100000))) M) ∧ (((0 ≤ k ∧ k < 8) ∧ (0 ≤ f ∧ f < M 13 4) ∧ (0 ≤ l ∧ l < M 13 4) ∧ f ≤ l ∧ (t = -1 ∨ 0 ≤ t ∧ t ≤ M 13 5)) → ∀ M', (∀ o', o' < 18 ∨ (22 < o' ∧ o' < 26) ∨ 30 < o' → M' o' = M o') → M' 18 4 = M 18 4 → (∀ i, i ≠ M 18 4 → M' 19 i = M 19 i ∧ M' 20 i = M 20 i ∧ M' 21 i = M 21 i ∧ M' 22 i = M 22 i) → Q (some (vi (cstM (qAdd M 18 k f l (if t = -1 then M 13 5 else t)) (M 0 10) (M 0 11) (-1) - cstM M (M 0 10) (M 0 11) (-1)))) M')
  | _ => False
set_option maxHeartbeats 4000000 in
set_option maxRecDepth 100000 in
theorem p_P_would : ∀ as M Q, (∀ v ∈ as, mm_vin v) → mm_mem M → t_P_would as M Q → (mm_ent as).length ≤ 7 ∧ mm_ok mb_P_would [(1033, t_P_isQuestion), (1038, t_P_costOf), (1034, t_P_timeMeant), (204, t_Q_add), (205, t_Q_removeLast)] (mm_entry 7 as) M Q := by
  intro as M Q hin hM h
  unfold t_P_would at h
  split at h
  rotate_left
  · exact h.elim
  rename_i o k f l t
  have hR_k : mm_R k := hin (vi k) (by simp)
  have hR_f : mm_R f := hin (vi f) (by simp)
  have hR_l : mm_R l := hin (vi l) (by simp)
  have hR_t : mm_R t := hin (vi t) (by simp)
  refine ⟨by simp [mm_ent], (show mm_ok mb_P_would [(1033, t_P_isQuestion), (1038, t_P_costOf), (1034, t_P_timeMeant), (204, t_Q_add), (205, t_Q_removeLast)] [some (vr o), some (vi k), some (vi f), some (vi l), some (vi t), none, none] M Q from ?_)⟩
  intro J hJ
  obtain ⟨rfl, hr, hq, hs, hN, hY⟩ := h
  have hq25 : quI M 25 := ⟨hq.1, by have := hq.2.1; omega, hq.2.2⟩
  have hB := quB hr hq25
  have hq0 := hq.1
  have hq1 := hq.2.1
  have hr2 := hr.2.1
  have hr4 := hr.2.2.2.1
  have hr5 := hr.2.2.2.2.1
  have hs' := hs
  unfold seI at hs'
  have h16 : ((0 ≤ k ∧ k < 8) ∧ (0 ≤ f ∧ f < M 13 4) ∧ (0 ≤ l ∧ l < M 13 4) ∧ f ≤ l ∧ (t = -1 ∨ 0 ≤ t ∧ t ≤ M 13 5)) → J 16 [some (vr 0), some (vi k), some (vi f), some (vi l), some (vi t), none, none] [] M := by
    intro hz
    have hY := hY hz
    generalize hT : (if t = -1 then M 13 5 else t) = T at hY
    have hTb : 0 ≤ T ∧ T ≤ 32 := by rw [← hT]; split <;> omega
    refine hJ 16 _ _ _ (show mm_wp _ _ _ mo_P_would_16 _ _ _ from ?_)
    simp only [mo_P_would_16, mm_wp, mm_ldi, mm_lda, mm_ldl, mm_sti, mm_sta, mm_stl, mm_inc, mm_2i, mm_mm, mm_2l, mm_lcmp, mm_i2l, mm_l2i, mm_cast8, mm_if1, mm_if2, mm_cmp, mm_swi, mm_sw, mm_pop1, mm_dup, mm_dup2, mm_geti, mm_geta, mm_puti, mm_iald, mm_bald, mm_aald, mm_iast, mm_bast, mm_alen, mm_acpy, mm_call, mm_callv, mm_recv, mm_pop, mm_find, mm_push, mm_cats, mm_cat, mm_reti, mm_retz, mm_retl, mm_reta, mm_retv, mm_set1, mm_set2, mm_kill, List.getElem?_cons_zero, List.getElem?_cons_succ, Int.reduceToNat, ↓reduceIte, Nat.reduceEqDiff, Nat.reduceDiv, Nat.reduceAdd, Nat.reduceLeDiff, Nat.zero_le, true_and, and_true, true_or, or_true, mm_b0, mm_b1, mm_lc_lt, mm_lc_le, mm_lc_gt, mm_lc_ge, mm_lc_eq, Int.not_lt, Int.not_le, Decidable.not_not, Int.sub_neg, c_0, c_1, c_2, l_2, c_3, c_4, l_4, c_5, l_5, c_6, l_6, c_7, l_7, c_8, c_9, l_9, c_10, l_10, c_11, l_11, c_12, l_12, c_13, c_14, l_14, c_15, l_15, c_16, l_16, c_17, l_17, c_18, c_19, l_19, c_20, l_20, c_21, l_21, c_22, l_22, c_23, c_24, l_24, c_25, l_25, c_26, c_27, c_28, l_28, c_29, c_30, l_30, c_31, c_32, l_32, c_33, l_33, c_34, l_34, c_35, l_35, c_36, l_36, c_37, l_37, c_38, l_38, c_39, l_39, c_40, c_41, l_41, c_42, c_43, c_44, l_44, c_45, c_46, l_46, c_47, c_48, l_48, c_49, l_49, c_50, l_50, c_51, l_51, c_52, l_52, c_53, l_53, c_54, l_54, c_55, l_55, c_56, l_56, c_57, l_57, c_58, l_58, c_59, l_59, c_60, l_60, c_61, l_61, c_62, c_63, l_63, c_64, l_64, c_65, l_65, c_66, l_66, c_67, l_67, c_68, l_68, c_69, l_69, c_70, l_70, c_71, l_71, c_72, l_72, c_73, l_73, c_74, l_74, c_75, l_75, c_76, l_76, t_P_costOf, t_P_timeMeant, t_Q_add, t_Q_removeLast]
    refine ⟨hB, hs, by omega, by omega, by omega, by omega, fun M1 P n f1 ho b1 b2 => ?_⟩
    have fl : ∀ o, o < 26 → M1 o = M o := fun o ho => f1 o (by omega)
    have e0 : M1 0 = M 0 := fl 0 (by decide)
    have e13 : M1 13 = M 13 := fl 13 (by decide)
    have e18 : M1 18 = M 18 := fl 18 (by decide)
    rw [e13, hT, e18]
    have hB2 : qB (qAdd M1 18 k f l T) 18 := qAdd_B (qB_c fl hB) (by rw [e18]; omega) (by omega)
    have e02 : qAdd M1 18 k f l T 0 = M 0 := by rw [qAdd_o (by omega), e0]
    rw [e02]
    refine ⟨isQ18, by omega, by omega, hB2, seI_c e02 hs, by omega, by omega, by omega, by omega, fun M2 P2 n2 f2 ho2 b3 b4 => ?_⟩
    have e182 : M2 18 4 = M 18 4 + 1 := by rw [f2 18 (by omega), qAdd_4, e18]
    rw [e182]
    refine ⟨isQ18, by omega, by omega, ?_⟩
    have e1 : coF (M 20) (M 21) (M 22) P n (M 0 9) = cstM M (M 0 10) (M 0 11) (-1) := coV_self ho
    have e2 : coF (qAdd M1 18 k f l T 20) (qAdd M1 18 k f l T 21) (qAdd M1 18 k f l T 22) P2 n2 (M 0 9) = cstM (qAdd M 18 k f l T) (M 0 10) (M 0 11) (-1) := by
      rw [← cstM_c (qAdd_fr fl)]
      unfold cstM
      rw [e02]
      exact coV_self ho2
    rw [e1, e2]
    refine hY _ (fun o' ho' => ?_) ?_ (fun i hi => ?_)
    · rw [mm_up_o _ _ (by omega), f2 o' (by omega), qAdd_o (by omega), f1 o' (by omega)]
    · rw [mm_up_s]; omega
    · rw [mm_up_o _ _ (by decide), mm_up_o _ _ (by decide), mm_up_o _ _ (by decide), mm_up_o _ _ (by decide), f2 19 (by omega), f2 20 (by omega), f2 21 (by omega), f2 22 (by omega)]
      have := qAdd_i (M1 := M1) (k := k) (f := f) (l := l) (t := T) (i := i) (by rw [e18]; exact hi)
      rw [this.1, this.2.1, this.2.2.1, this.2.2.2, fl 19 (by decide), fl 20 (by decide), fl 21 (by decide), fl 22 (by decide)]
      exact ⟨rfl, rfl, rfl, rfl⟩
  refine hJ 0 _ _ _ (show mm_wp _ _ _ mo_P_would_0 _ _ _ from ?_)
  simp only [mo_P_would_0, mm_wp, mm_ldi, mm_lda, mm_ldl, mm_sti, mm_sta, mm_stl, mm_inc, mm_2i, mm_mm, mm_2l, mm_lcmp, mm_i2l, mm_l2i, mm_cast8, mm_if1, mm_if2, mm_cmp, mm_swi, mm_sw, mm_pop1, mm_dup, mm_dup2, mm_geti, mm_geta, mm_puti, mm_iald, mm_bald, mm_aald, mm_iast, mm_bast, mm_alen, mm_acpy, mm_call, mm_callv, mm_recv, mm_pop, mm_find, mm_push, mm_cats, mm_cat, mm_reti, mm_retz, mm_retl, mm_reta, mm_retv, mm_set1, mm_set2, mm_kill, List.getElem?_cons_zero, List.getElem?_cons_succ, Int.reduceToNat, ↓reduceIte, Nat.reduceEqDiff, Nat.reduceDiv, Nat.reduceAdd, Nat.reduceLeDiff, Nat.zero_le, true_and, and_true, true_or, or_true, mm_b0, mm_b1, mm_lc_lt, mm_lc_le, mm_lc_gt, mm_lc_ge, mm_lc_eq, Int.not_lt, Int.not_le, Decidable.not_not, Int.sub_neg, c_0, c_1, c_2, l_2, c_3, c_4, l_4, c_5, l_5, c_6, l_6, c_7, l_7, c_8, c_9, l_9, c_10, l_10, c_11, l_11, c_12, l_12, c_13, c_14, l_14, c_15, l_15, c_16, l_16, c_17, l_17, c_18, c_19, l_19, c_20, l_20, c_21, l_21, c_22, l_22, c_23, c_24, l_24, c_25, l_25, c_26, c_27, c_28, l_28, c_29, c_30, l_30, c_31, c_32, l_32, c_33, l_33, c_34, l_34, c_35, l_35, c_36, l_36, c_37, l_37, c_38, l_38, c_39, l_39, c_40, c_41, l_41, c_42, c_43, c_44, l_44, c_45, c_46, l_46, c_47, c_48, l_48, c_49, l_49, c_50, l_50, c_51, l_51, c_52, l_52, c_53, l_53, c_54, l_54, c_55, l_55, c_56, l_56, c_57, l_57, c_58, l_58, c_59, l_59, c_60, l_60, c_61, l_61, c_62, c_63, l_63, c_64, l_64, c_65, l_65, c_66, l_66, c_67, l_67, c_68, l_68, c_69, l_69, c_70, l_70, c_71, l_71, c_72, l_72, c_73, l_73, c_74, l_74, c_75, l_75, c_76, l_76, t_P_isQuestion]
  exact ⟨fun z => h16 z, fun z => hN z⟩
theorem up_back (M : mmM) (o : Nat) (i v : Int) : mm_up (mm_up M o i v) o i (M o i) = M := by
  funext o' i'
  unfold mm_up
  by_cases h : o' = o ∧ i' = i
  · rw [if_pos h, h.1, h.2]
  · rw [if_neg h, if_neg h]
def t_P_touched : mmT := fun as M Q => match as with
  | [.inr (.inr o), .inl i, .inl v] => o = 0 ∧ rwI M ∧ quI M 24 ∧ (¬ ((0 ≤ i ∧ i < M 13 4) ∧ 0 ≤ v ∧ v < 64) → Q (some (vi (-1))) M) ∧ (((0 ≤ i ∧ i < M 13 4) ∧ 0 ≤ v ∧ v < 64) → ∀ M', (∀ o', o' ≠ 17 → o' ≠ 24 → o' ≠ 25 → M' o' = M o') → Q (some (vi (sN (fun q => mm_b (¬ anF (mm_up M 14 i v 14) (M 15) (M 16) (M 20 q) (M 21 q) (M 22 q) (M 19 q) = anF (M 14) (M 15) (M 16) (M 20 q) (M 21 q) (M 22 q) (M 19 q))) (M 18 4).toNat))) M')
  | _ => False
set_option maxHeartbeats 4000000 in
set_option maxRecDepth 100000 in
theorem p_P_touched : ∀ as M Q, (∀ v ∈ as, mm_vin v) → mm_mem M → t_P_touched as M Q → (mm_ent as).length ≤ 8 ∧ mm_ok mb_P_touched [(403, t_Row_has), (1029, t_P_isNumber), (1036, t_P_answerOf), (408, t_Row_setCell)] (mm_entry 8 as) M Q := by
  intro as M Q hin hM h
  unfold t_P_touched at h
  split at h
  rotate_left
  · exact h.elim
  rename_i o i v
  have hR_i : mm_R i := hin (vi i) (by simp)
  have hR_v : mm_R v := hin (vi v) (by simp)
  refine ⟨by simp [mm_ent], (show mm_ok mb_P_touched [(403, t_Row_has), (1029, t_P_isNumber), (1036, t_P_answerOf), (408, t_Row_setCell)] [some (vr o), some (vi i), some (vi v), none, none, none, none, none] M Q from ?_)⟩
  intro J hJ
  obtain ⟨rfl, hr, hq, hN, hY⟩ := h
  obtain ⟨r1, r2, r3, r4, r5, r6⟩ := id hr
  have q0 := hq.1
  have q1 := hq.2.1
  have h18 : ¬ ((0 ≤ i ∧ i < M 13 4) ∧ 0 ≤ v ∧ v < 64) → J 18 [some (vr 0), some (vi i), some (vi v), none, none, none, none, none] [] M := by
    intro hz
    refine hJ 18 _ _ _ (show mm_wp _ _ _ mo_P_touched_18 _ _ _ from ?_)
    simp only [mo_P_touched_18, mm_wp, mm_ldi, mm_lda, mm_ldl, mm_sti, mm_sta, mm_stl, mm_inc, mm_2i, mm_mm, mm_2l, mm_lcmp, mm_i2l, mm_l2i, mm_cast8, mm_if1, mm_if2, mm_cmp, mm_swi, mm_sw, mm_pop1, mm_dup, mm_dup2, mm_geti, mm_geta, mm_puti, mm_iald, mm_bald, mm_aald, mm_iast, mm_bast, mm_alen, mm_acpy, mm_call, mm_callv, mm_recv, mm_pop, mm_find, mm_push, mm_cats, mm_cat, mm_reti, mm_retz, mm_retl, mm_reta, mm_retv, mm_set1, mm_set2, mm_kill, List.getElem?_cons_zero, List.getElem?_cons_succ, Int.reduceToNat, ↓reduceIte, Nat.reduceEqDiff, Nat.reduceDiv, Nat.reduceAdd, Nat.reduceLeDiff, Nat.zero_le, true_and, and_true, true_or, or_true, mm_b0, mm_b1, mm_lc_lt, mm_lc_le, mm_lc_gt, mm_lc_ge, mm_lc_eq, Int.not_lt, Int.not_le, Decidable.not_not, Int.sub_neg]
    exact hN hz
  have h20 : ((0 ≤ i ∧ i < M 13 4) ∧ 0 ≤ v ∧ v < 64) → J 20 [some (vr 0), some (vi i), some (vi v), none, none, none, none, none] [] M := by
    intro hz
    have hY := hY hz
    generalize hf : (fun q => mm_b (¬ anF (mm_up M 14 i v 14) (M 15) (M 16) (M 20 q) (M 21 q) (M 22 q) (M 19 q) = anF (M 14) (M 15) (M 16) (M 20 q) (M 21 q) (M 22 q) (M 19 q))) = g at hY
    have hgv : ∀ q, g q = mm_b (¬ anF (mm_up M 14 i v 14) (M 15) (M 16) (M 20 q) (M 21 q) (M 22 q) (M 19 q) = anF (M 14) (M 15) (M 16) (M 20 q) (M 21 q) (M 22 q) (M 19 q)) := fun q => by rw [← hf]
    have hb : ∀ n : Nat, 0 ≤ sN g n ∧ sN g n ≤ n := fun n => by
      have := sN_b (f := g) (a := 0) (b := 1) n (fun k _ => by rw [hgv]; exact mm_b_R _)
      omega
    have hl : ∀ (d k : Nat) (x6 : Option mmV) (M1 : mmM), (k : Int) + d = M 18 4 → (∀ o', o' ≠ 17 → o' ≠ 24 → o' ≠ 25 → M1 o' = M o') → J 36 [some (vr 0), some (vi i), some (vi v), some (vi (M 14 i)), some (vi (sN g k)), some (vi k), x6, none] [] M1 := by
      intro d
      induction d with
      | zero =>
        intro k x6 M1 hk f1
        have e18 : M1 18 = M 18 := f1 18 (by decide) (by decide) (by decide)
        have h95 : J 95 [some (vr 0), some (vi i), some (vi v), some (vi (M 14 i)), some (vi (sN g k)), some (vi k), x6, none] [] M1 := by
          refine hJ 95 _ _ _ (show mm_wp _ _ _ mo_P_touched_95 _ _ _ from ?_)
          simp only [mo_P_touched_95, mm_wp, mm_ldi, mm_lda, mm_ldl, mm_sti, mm_sta, mm_stl, mm_inc, mm_2i, mm_mm, mm_2l, mm_lcmp, mm_i2l, mm_l2i, mm_cast8, mm_if1, mm_if2, mm_cmp, mm_swi, mm_sw, mm_pop1, mm_dup, mm_dup2, mm_geti, mm_geta, mm_puti, mm_iald, mm_bald, mm_aald, mm_iast, mm_bast, mm_alen, mm_acpy, mm_call, mm_callv, mm_recv, mm_pop, mm_find, mm_push, mm_cats, mm_cat, mm_reti, mm_retz, mm_retl, mm_reta, mm_retv, mm_set1, mm_set2, mm_kill, List.getElem?_cons_zero, List.getElem?_cons_succ, Int.reduceToNat, ↓reduceIte, Nat.reduceEqDiff, Nat.reduceDiv, Nat.reduceAdd, Nat.reduceLeDiff, Nat.zero_le, true_and, and_true, true_or, or_true, mm_b0, mm_b1, mm_lc_lt, mm_lc_le, mm_lc_gt, mm_lc_ge, mm_lc_eq, Int.not_lt, Int.not_le, Decidable.not_not, Int.sub_neg]
          rw [show k = (M 18 4).toNat by omega]
          exact hY M1 f1
        refine hJ 36 _ _ _ (show mm_wp _ _ _ mo_P_touched_36 _ _ _ from ?_)
        simp only [mo_P_touched_36, mm_wp, mm_ldi, mm_lda, mm_ldl, mm_sti, mm_sta, mm_stl, mm_inc, mm_2i, mm_mm, mm_2l, mm_lcmp, mm_i2l, mm_l2i, mm_cast8, mm_if1, mm_if2, mm_cmp, mm_swi, mm_sw, mm_pop1, mm_dup, mm_dup2, mm_geti, mm_geta, mm_puti, mm_iald, mm_bald, mm_aald, mm_iast, mm_bast, mm_alen, mm_acpy, mm_call, mm_callv, mm_recv, mm_pop, mm_find, mm_push, mm_cats, mm_cat, mm_reti, mm_retz, mm_retl, mm_reta, mm_retv, mm_set1, mm_set2, mm_kill, List.getElem?_cons_zero, List.getElem?_cons_succ, Int.reduceToNat, ↓reduceIte, Nat.reduceEqDiff, Nat.reduceDiv, Nat.reduceAdd, Nat.reduceLeDiff, Nat.zero_le, true_and, and_true, true_or, or_true, mm_b0, mm_b1, mm_lc_lt, mm_lc_le, mm_lc_gt, mm_lc_ge, mm_lc_eq, Int.not_lt, Int.not_le, Decidable.not_not, Int.sub_neg, c_0, c_1, c_2, l_2, c_3, c_4, l_4, c_5, l_5, c_6, l_6, c_7, l_7, c_8, c_9, l_9, c_10, l_10, c_11, l_11, c_12, l_12, c_13, c_14, l_14, c_15, l_15, c_16, l_16, c_17, l_17, c_18, c_19, l_19, c_20, l_20, c_21, l_21, c_22, l_22, c_23, c_24, l_24, c_25, l_25, c_26, c_27, c_28, l_28, c_29, c_30, l_30, c_31, c_32, l_32, c_33, l_33, c_34, l_34, c_35, l_35, c_36, l_36, c_37, l_37, c_38, l_38, c_39, l_39, c_40, c_41, l_41, c_42, c_43, c_44, l_44, c_45, c_46, l_46, c_47, c_48, l_48, c_49, l_49, c_50, l_50, c_51, l_51, c_52, l_52, c_53, l_53, c_54, l_54, c_55, l_55, c_56, l_56, c_57, l_57, c_58, l_58, c_59, l_59, c_60, l_60, c_61, l_61, c_62, c_63, l_63, c_64, l_64, c_65, l_65, c_66, l_66, c_67, l_67, c_68, l_68, c_69, l_69, c_70, l_70, c_71, l_71, c_72, l_72, c_73, l_73, c_74, l_74, c_75, l_75, c_76, l_76, e18]
        exact ⟨fun _ => h95, fun z => by omega⟩
      | succ d ih =>
        intro k x6 M1 hk f1
        have e : ∀ o', o' ≠ 17 → o' ≠ 24 → o' ≠ 25 → M1 o' = M o' := f1
        have e13 : M1 13 = M 13 := e 13 (by decide) (by decide) (by decide)
        have e14 : M1 14 = M 14 := e 14 (by decide) (by decide) (by decide)
        have e18 : M1 18 = M 18 := e 18 (by decide) (by decide) (by decide)
        have rwc : ∀ (M2 : mmM), M2 13 = M 13 → (M2 14 = M 14 ∨ M2 14 = mm_up M 14 i v 14) → M2 15 = M 15 → M2 16 = M 16 → rwI M2 := by
          intro M2 a13 a14 a15 a16
          unfold rwI
          rw [a13, a15, a16]
          refine ⟨r1, r2, fun j j0 j1 => ?_, r4, r5, r6⟩
          rcases a14 with a | a
          · rw [a]; exact r3 j j0 j1
          · rw [a, mm_up_if]
            split
            · omega
            · exact r3 j j0 j1
        have quc : ∀ (M2 : mmM), M2 13 = M 13 → M2 18 = M 18 → M2 19 = M 19 → M2 20 = M 20 → M2 21 = M 21 → M2 22 = M 22 → quI M2 25 := by
          intro M2 a13 a18 a19 a20 a21 a22
          unfold quI
          rw [a13, a18, a19, a20, a21, a22]
          exact ⟨q0, by omega, hq.2.2⟩
        have ee : ∀ o', o' ≠ 17 → o' ≠ 24 → o' ≠ 25 → M1 o' = M o' := f1
        refine hJ 36 _ _ _ (show mm_wp _ _ _ mo_P_touched_36 _ _ _ from ?_)
        simp only [mo_P_touched_36, mm_wp, mm_ldi, mm_lda, mm_ldl, mm_sti, mm_sta, mm_stl, mm_inc, mm_2i, mm_mm, mm_2l, mm_lcmp, mm_i2l, mm_l2i, mm_cast8, mm_if1, mm_if2, mm_cmp, mm_swi, mm_sw, mm_pop1, mm_dup, mm_dup2, mm_geti, mm_geta, mm_puti, mm_iald, mm_bald, mm_aald, mm_iast, mm_bast, mm_alen, mm_acpy, mm_call, mm_callv, mm_recv, mm_pop, mm_find, mm_push, mm_cats, mm_cat, mm_reti, mm_retz, mm_retl, mm_reta, mm_retv, mm_set1, mm_set2, mm_kill, List.getElem?_cons_zero, List.getElem?_cons_succ, Int.reduceToNat, ↓reduceIte, Nat.reduceEqDiff, Nat.reduceDiv, Nat.reduceAdd, Nat.reduceLeDiff, Nat.zero_le, true_and, and_true, true_or, or_true, mm_b0, mm_b1, mm_lc_lt, mm_lc_le, mm_lc_gt, mm_lc_ge, mm_lc_eq, Int.not_lt, Int.not_le, Decidable.not_not, Int.sub_neg, c_0, c_1, c_2, l_2, c_3, c_4, l_4, c_5, l_5, c_6, l_6, c_7, l_7, c_8, c_9, l_9, c_10, l_10, c_11, l_11, c_12, l_12, c_13, c_14, l_14, c_15, l_15, c_16, l_16, c_17, l_17, c_18, c_19, l_19, c_20, l_20, c_21, l_21, c_22, l_22, c_23, c_24, l_24, c_25, l_25, c_26, c_27, c_28, l_28, c_29, c_30, l_30, c_31, c_32, l_32, c_33, l_33, c_34, l_34, c_35, l_35, c_36, l_36, c_37, l_37, c_38, l_38, c_39, l_39, c_40, c_41, l_41, c_42, c_43, c_44, l_44, c_45, c_46, l_46, c_47, c_48, l_48, c_49, l_49, c_50, l_50, c_51, l_51, c_52, l_52, c_53, l_53, c_54, l_54, c_55, l_55, c_56, l_56, c_57, l_57, c_58, l_58, c_59, l_59, c_60, l_60, c_61, l_61, c_62, c_63, l_63, c_64, l_64, c_65, l_65, c_66, l_66, c_67, l_67, c_68, l_68, c_69, l_69, c_70, l_70, c_71, l_71, c_72, l_72, c_73, l_73, c_74, l_74, c_75, l_75, c_76, l_76, e18, t_P_answerOf, t_Row_setCell]
        refine ⟨fun z => by omega, fun _ => ⟨rwc M1 e13 (Or.inl e14) (ee 15 (by decide) (by decide) (by decide)) (ee 16 (by decide) (by decide) (by decide)), quc M1 e13 e18 (ee 19 (by decide) (by decide) (by decide)) (ee 20 (by decide) (by decide) (by decide)) (ee 21 (by decide) (by decide) (by decide)) (ee 22 (by decide) (by decide) (by decide)), by omega, by omega, fun M2 f2 => ?_⟩⟩
        have f2' : ∀ o', o' ≠ 17 → o' ≠ 24 → o' ≠ 25 → M2 o' = M o' := fun o' a b c => by rw [f2 o' a b c, f1 o' a b c]
        have g13 : M2 13 = M 13 := f2' 13 (by decide) (by decide) (by decide)
        have g14 : M2 14 = M 14 := f2' 14 (by decide) (by decide) (by decide)
        have u14 : mm_up M2 14 i v 14 = mm_up M 14 i v 14 := by funext j; rw [mm_up_if, mm_up_if, g14]
        have uo : ∀ o', o' ≠ 14 → mm_up M2 14 i v o' = M2 o' := fun o' ho' => mm_up_o _ _ ho'
        rw [g13]
        refine ⟨by omega, by omega, by omega, rwc _ (by rw [uo 13 (by decide), g13]) (Or.inr u14) (by rw [uo 15 (by decide), f2' 15 (by decide) (by decide) (by decide)]) (by rw [uo 16 (by decide), f2' 16 (by decide) (by decide) (by decide)]), quc _ (by rw [uo 13 (by decide), g13]) (by rw [uo 18 (by decide), f2' 18 (by decide) (by decide) (by decide)]) (by rw [uo 19 (by decide), f2' 19 (by decide) (by decide) (by decide)]) (by rw [uo 20 (by decide), f2' 20 (by decide) (by decide) (by decide)]) (by rw [uo 21 (by decide), f2' 21 (by decide) (by decide) (by decide)]) (by rw [uo 22 (by decide), f2' 22 (by decide) (by decide) (by decide)]), by omega, by rw [uo 18 (by decide), f2' 18 (by decide) (by decide) (by decide)]; omega, fun M3 f3 => ?_⟩
        rw [u14, uo 15 (by decide), uo 16 (by decide), uo 19 (by decide), uo 20 (by decide), uo 21 (by decide), uo 22 (by decide), f2' 15 (by decide) (by decide) (by decide), f2' 16 (by decide) (by decide) (by decide), f2' 19 (by decide) (by decide) (by decide), f2' 20 (by decide) (by decide) (by decide), f2' 21 (by decide) (by decide) (by decide), f2' 22 (by decide) (by decide) (by decide), e14, ee 15 (by decide) (by decide) (by decide), ee 16 (by decide) (by decide) (by decide), ee 19 (by decide) (by decide) (by decide), ee 20 (by decide) (by decide) (by decide), ee 21 (by decide) (by decide) (by decide), ee 22 (by decide) (by decide) (by decide)]
        have h13 : M3 13 = M 13 := by rw [f3 13 (by decide) (by decide) (by decide), uo 13 (by decide), g13]
        have hfin : ∀ o', o' ≠ 17 → o' ≠ 24 → o' ≠ 25 → mm_up M3 14 i (M 14 i) o' = M o' := by
          intro o' a b c
          by_cases ho : o' = 14
          · subst ho
            funext j
            rw [mm_up_if, f3 14 (by decide) (by decide) (by decide), u14, mm_up_if]
            split
            · rename_i hj; rw [hj]
            · rfl
          · rw [mm_up_o _ _ ho, f3 o' a b c, uo o' ho, f2' o' a b c]
        have h80 : ∀ (z b6 : Int), z = sN g (k + 1) → J 80 [some (vr 0), some (vi i), some (vi v), some (vi (M 14 i)), some (vi z), some (vi k), some (vl b6), none] [] M3 := by
          intro z b6 hz
          refine hJ 80 _ _ _ (show mm_wp _ _ _ mo_P_touched_80 _ _ _ from ?_)
          simp only [mo_P_touched_80, mm_wp, mm_ldi, mm_lda, mm_ldl, mm_sti, mm_sta, mm_stl, mm_inc, mm_2i, mm_mm, mm_2l, mm_lcmp, mm_i2l, mm_l2i, mm_cast8, mm_if1, mm_if2, mm_cmp, mm_swi, mm_sw, mm_pop1, mm_dup, mm_dup2, mm_geti, mm_geta, mm_puti, mm_iald, mm_bald, mm_aald, mm_iast, mm_bast, mm_alen, mm_acpy, mm_call, mm_callv, mm_recv, mm_pop, mm_find, mm_push, mm_cats, mm_cat, mm_reti, mm_retz, mm_retl, mm_reta, mm_retv, mm_set1, mm_set2, mm_kill, List.getElem?_cons_zero, List.getElem?_cons_succ, Int.reduceToNat, ↓reduceIte, Nat.reduceEqDiff, Nat.reduceDiv, Nat.reduceAdd, Nat.reduceLeDiff, Nat.zero_le, true_and, and_true, true_or, or_true, mm_b0, mm_b1, mm_lc_lt, mm_lc_le, mm_lc_gt, mm_lc_ge, mm_lc_eq, Int.not_lt, Int.not_le, Decidable.not_not, Int.sub_neg, c_0, c_1, c_2, l_2, c_3, c_4, l_4, c_5, l_5, c_6, l_6, c_7, l_7, c_8, c_9, l_9, c_10, l_10, c_11, l_11, c_12, l_12, c_13, c_14, l_14, c_15, l_15, c_16, l_16, c_17, l_17, c_18, c_19, l_19, c_20, l_20, c_21, l_21, c_22, l_22, c_23, c_24, l_24, c_25, l_25, c_26, c_27, c_28, l_28, c_29, c_30, l_30, c_31, c_32, l_32, c_33, l_33, c_34, l_34, c_35, l_35, c_36, l_36, c_37, l_37, c_38, l_38, c_39, l_39, c_40, c_41, l_41, c_42, c_43, c_44, l_44, c_45, c_46, l_46, c_47, c_48, l_48, c_49, l_49, c_50, l_50, c_51, l_51, c_52, l_52, c_53, l_53, c_54, l_54, c_55, l_55, c_56, l_56, c_57, l_57, c_58, l_58, c_59, l_59, c_60, l_60, c_61, l_61, c_62, c_63, l_63, c_64, l_64, c_65, l_65, c_66, l_66, c_67, l_67, c_68, l_68, c_69, l_69, c_70, l_70, c_71, l_71, c_72, l_72, c_73, l_73, c_74, l_74, c_75, l_75, c_76, l_76, t_Row_setCell]
          rw [h13, hz]
          exact ⟨by omega, by omega, by omega, by omega, ih (k + 1) _ _ (by omega) hfin⟩
        have hbk := hb k
        refine ⟨fun z => h80 _ _ ?_, fun z => ⟨by omega, h80 _ _ ?_⟩⟩
        · show _ = sN g k + g k
          rw [hgv, mm_bF (fun w => w z)]; omega
        · show _ = sN g k + g k
          rw [hgv, mm_bT z]
    refine hJ 20 _ _ _ (show mm_wp _ _ _ mo_P_touched_20 _ _ _ from ?_)
    simp only [mo_P_touched_20, mm_wp, mm_ldi, mm_lda, mm_ldl, mm_sti, mm_sta, mm_stl, mm_inc, mm_2i, mm_mm, mm_2l, mm_lcmp, mm_i2l, mm_l2i, mm_cast8, mm_if1, mm_if2, mm_cmp, mm_swi, mm_sw, mm_pop1, mm_dup, mm_dup2, mm_geti, mm_geta, mm_puti, mm_iald, mm_bald, mm_aald, mm_iast, mm_bast, mm_alen, mm_acpy, mm_call, mm_callv, mm_recv, mm_pop, mm_find, mm_push, mm_cats, mm_cat, mm_reti, mm_retz, mm_retl, mm_reta, mm_retv, mm_set1, mm_set2, mm_kill, List.getElem?_cons_zero, List.getElem?_cons_succ, Int.reduceToNat, ↓reduceIte, Nat.reduceEqDiff, Nat.reduceDiv, Nat.reduceAdd, Nat.reduceLeDiff, Nat.zero_le, true_and, and_true, true_or, or_true, mm_b0, mm_b1, mm_lc_lt, mm_lc_le, mm_lc_gt, mm_lc_ge, mm_lc_eq, Int.not_lt, Int.not_le, Decidable.not_not, Int.sub_neg, c_0, c_1, c_2, l_2, c_3, c_4, l_4, c_5, l_5, c_6, l_6, c_7, l_7, c_8, c_9, l_9, c_10, l_10, c_11, l_11, c_12, l_12, c_13, c_14, l_14, c_15, l_15, c_16, l_16, c_17, l_17, c_18, c_19, l_19, c_20, l_20, c_21, l_21, c_22, l_22, c_23, c_24, l_24, c_25, l_25, c_26, c_27, c_28, l_28, c_29, c_30, l_30, c_31, c_32, l_32, c_33, l_33, c_34, l_34, c_35, l_35, c_36, l_36, c_37, l_37, c_38, l_38, c_39, l_39, c_40, c_41, l_41, c_42, c_43, c_44, l_44, c_45, c_46, l_46, c_47, c_48, l_48, c_49, l_49, c_50, l_50, c_51, l_51, c_52, l_52, c_53, l_53, c_54, l_54, c_55, l_55, c_56, l_56, c_57, l_57, c_58, l_58, c_59, l_59, c_60, l_60, c_61, l_61, c_62, c_63, l_63, c_64, l_64, c_65, l_65, c_66, l_66, c_67, l_67, c_68, l_68, c_69, l_69, c_70, l_70, c_71, l_71, c_72, l_72, c_73, l_73, c_74, l_74, c_75, l_75, c_76, l_76]
    exact ⟨by omega, hl (M 18 4).toNat 0 none M (by omega) (fun _ _ _ _ => rfl)⟩
  refine hJ 0 _ _ _ (show mm_wp _ _ _ mo_P_touched_0 _ _ _ from ?_)
  simp only [mo_P_touched_0, mm_wp, mm_ldi, mm_lda, mm_ldl, mm_sti, mm_sta, mm_stl, mm_inc, mm_2i, mm_mm, mm_2l, mm_lcmp, mm_i2l, mm_l2i, mm_cast8, mm_if1, mm_if2, mm_cmp, mm_swi, mm_sw, mm_pop1, mm_dup, mm_dup2, mm_geti, mm_geta, mm_puti, mm_iald, mm_bald, mm_aald, mm_iast, mm_bast, mm_alen, mm_acpy, mm_call, mm_callv, mm_recv, mm_pop, mm_find, mm_push, mm_cats, mm_cat, mm_reti, mm_retz, mm_retl, mm_reta, mm_retv, mm_set1, mm_set2, mm_kill, List.getElem?_cons_zero, List.getElem?_cons_succ, Int.reduceToNat, ↓reduceIte, Nat.reduceEqDiff, Nat.reduceDiv, Nat.reduceAdd, Nat.reduceLeDiff, Nat.zero_le, true_and, and_true, true_or, or_true, mm_b0, mm_b1, mm_lc_lt, mm_lc_le, mm_lc_gt, mm_lc_ge, mm_lc_eq, Int.not_lt, Int.not_le, Decidable.not_not, Int.sub_neg, c_0, c_1, c_2, l_2, c_3, c_4, l_4, c_5, l_5, c_6, l_6, c_7, l_7, c_8, c_9, l_9, c_10, l_10, c_11, l_11, c_12, l_12, c_13, c_14, l_14, c_15, l_15, c_16, l_16, c_17, l_17, c_18, c_19, l_19, c_20, l_20, c_21, l_21, c_22, l_22, c_23, c_24, l_24, c_25, l_25, c_26, c_27, c_28, l_28, c_29, c_30, l_30, c_31, c_32, l_32, c_33, l_33, c_34, l_34, c_35, l_35, c_36, l_36, c_37, l_37, c_38, l_38, c_39, l_39, c_40, c_41, l_41, c_42, c_43, c_44, l_44, c_45, c_46, l_46, c_47, c_48, l_48, c_49, l_49, c_50, l_50, c_51, l_51, c_52, l_52, c_53, l_53, c_54, l_54, c_55, l_55, c_56, l_56, c_57, l_57, c_58, l_58, c_59, l_59, c_60, l_60, c_61, l_61, c_62, c_63, l_63, c_64, l_64, c_65, l_65, c_66, l_66, c_67, l_67, c_68, l_68, c_69, l_69, c_70, l_70, c_71, l_71, c_72, l_72, c_73, l_73, c_74, l_74, c_75, l_75, c_76, l_76, t_Row_has, t_P_isNumber]
  exact ⟨fun z => h18 (by omega), fun z => ⟨fun z2 => h20 (by omega), fun z2 => h18 (by omega)⟩⟩
