/-! the planner's Undoing (42: sorted 43, 44) -/
def sUn (M : mmM) (o : Nat) (q : Int) : Prop := 0 ≤ q ∧ q < M o 4 ∧ ¬ (¬ M (o + 1) q = 2 ∧ ¬ M (o + 1) q = 3 ∧ ¬ M (o + 1) q = 6)
def kuf (M : mmM) (o : Nat) (b q : Int) : Int := ((M (o + 4) q * 64 + M (o + 2) q / b) * 64 + M (o + 3) q) * 32 + q
def t_Und_lay : mmT := fun as M Q => match as with
  | [.inr (.inr o), .inr (.inr qo), .inl b] => o = 42 ∧ qo = 18 ∧ qB M 18 ∧ 1 ≤ b ∧ b ≤ 60 ∧ ∀ M', (∀ o', o' ≠ 43 → o' ≠ 44 → M' o' = M o') → M' 43 1 ≤ M 18 4 → isKey (sUn M 18) (kuf M 18 b) (M' 44) (M' 43 1) → Q none M'
  | _ => False
set_option maxHeartbeats 4000000 in
set_option maxRecDepth 100000 in
theorem p_Und_lay : ∀ as M Q, (∀ v ∈ as, mm_vin v) → mm_mem M → t_Und_lay as M Q → (mm_ent as).length ≤ 4 ∧ mm_ok mb_Und_lay [(206, t_Q_isPlanned), (501, t_Srt_key), (502, t_Srt_insert)] (mm_entry 4 as) M Q := by
  intro as M Q hin hM h
  unfold t_Und_lay at h
  split at h
  rotate_left
  · exact h.elim
  rename_i o qo b
  have hR_b : mm_R b := hin (vi b) (by simp)
  refine ⟨by simp [mm_ent], (show mm_ok mb_Und_lay [(206, t_Q_isPlanned), (501, t_Srt_key), (502, t_Srt_insert)] [some (vr o), some (vr qo), some (vi b), none] M Q from ?_)⟩
  intro J hJ
  obtain ⟨rfl, rfl, hB, h5, h6, h⟩ := h
  have hB2 := hB.2.1
  have hB3 : ∀ q, 0 ≤ q → q < M 18 4 → 0 ≤ M 20 q ∧ M 20 q < 60 ∧ 0 ≤ M 21 q ∧ M 21 q < 60 ∧ 0 ≤ M 22 q ∧ M 22 q ≤ 32 := hB.2.2
  have hl : ∀ (d k : Nat) (M1 : mmM), (k : Int) + d = M 18 4 → (∀ o', o' ≠ 43 → o' ≠ 44 → M1 o' = M o') → M1 43 1 ≤ k → isKey (fun z => sUn M 18 z ∧ z < k) (kuf M 18 b) (M1 44) (M1 43 1) → J 16 [some (vr 42), some (vr 18), some (vi b), some (vi k)] [] M1 := by
    intro d
    induction d with
    | zero =>
      intro k M1 hk a c e
      have e0 : M1 18 = M 18 := a 18 (by omega) (by omega)
      have h69 : J 69 [some (vr 42), some (vr 18), some (vi b), some (vi k)] [] M1 := by
        refine hJ 69 _ _ _ (show mm_wp _ _ _ mo_Und_lay_69 _ _ _ from ?_)
        simp only [mo_Und_lay_69, mm_wp, mm_ldi, mm_lda, mm_ldl, mm_sti, mm_sta, mm_stl, mm_inc, mm_2i, mm_mm, mm_2l, mm_lcmp, mm_i2l, mm_l2i, mm_cast8, mm_if1, mm_if2, mm_cmp, mm_swi, mm_sw, mm_pop1, mm_dup, mm_dup2, mm_geti, mm_geta, mm_puti, mm_iald, mm_bald, mm_aald, mm_iast, mm_bast, mm_alen, mm_acpy, mm_call, mm_callv, mm_recv, mm_pop, mm_find, mm_push, mm_cats, mm_cat, mm_reti, mm_retz, mm_retl, mm_reta, mm_retv, mm_set1, mm_set2, mm_kill, List.getElem?_cons_zero, List.getElem?_cons_succ, Int.reduceToNat, ↓reduceIte, Nat.reduceEqDiff, Nat.reduceDiv, Nat.reduceAdd, Nat.reduceLeDiff, Nat.zero_le, true_and, and_true, true_or, or_true, mm_b0, mm_b1, mm_lc_lt, mm_lc_le, mm_lc_gt, mm_lc_ge, mm_lc_eq, Int.not_lt, Int.not_le, Decidable.not_not, Int.sub_neg]
        exact h M1 a (by omega) (isKey_cong e (fun q => ⟨fun z => z.1, fun z => ⟨z, by have := z.2.1; omega⟩⟩) (fun _ _ _ => rfl))
      refine hJ 16 _ _ _ (show mm_wp _ _ _ mo_Und_lay_16 _ _ _ from ?_)
      simp only [mo_Und_lay_16, mm_wp, mm_ldi, mm_lda, mm_ldl, mm_sti, mm_sta, mm_stl, mm_inc, mm_2i, mm_mm, mm_2l, mm_lcmp, mm_i2l, mm_l2i, mm_cast8, mm_if1, mm_if2, mm_cmp, mm_swi, mm_sw, mm_pop1, mm_dup, mm_dup2, mm_geti, mm_geta, mm_puti, mm_iald, mm_bald, mm_aald, mm_iast, mm_bast, mm_alen, mm_acpy, mm_call, mm_callv, mm_recv, mm_pop, mm_find, mm_push, mm_cats, mm_cat, mm_reti, mm_retz, mm_retl, mm_reta, mm_retv, mm_set1, mm_set2, mm_kill, List.getElem?_cons_zero, List.getElem?_cons_succ, Int.reduceToNat, ↓reduceIte, Nat.reduceEqDiff, Nat.reduceDiv, Nat.reduceAdd, Nat.reduceLeDiff, Nat.zero_le, true_and, and_true, true_or, or_true, mm_b0, mm_b1, mm_lc_lt, mm_lc_le, mm_lc_gt, mm_lc_ge, mm_lc_eq, Int.not_lt, Int.not_le, Decidable.not_not, Int.sub_neg, c_0, c_1, c_2, l_2, c_3, c_4, l_4, c_5, l_5, c_6, l_6, c_7, l_7, c_8, c_9, l_9, c_10, l_10, c_11, l_11, c_12, l_12, c_13, c_14, l_14, c_15, l_15, c_16, l_16, c_17, l_17, c_18, c_19, l_19, c_20, l_20, c_21, l_21, c_22, l_22, c_23, c_24, l_24, c_25, l_25, c_26, c_27, c_28, l_28, c_29, c_30, l_30, c_31, c_32, l_32, c_33, l_33, c_34, l_34, c_35, l_35, c_36, l_36, c_37, l_37, c_38, l_38, c_39, l_39, c_40, c_41, l_41, c_42, c_43, c_44, l_44, c_45, c_46, l_46, c_47, c_48, l_48, c_49, l_49, c_50, l_50, c_51, l_51, c_52, l_52, c_53, l_53, c_54, l_54, c_55, l_55, c_56, l_56, c_57, l_57, c_58, l_58, c_59, l_59, c_60, l_60, c_61, l_61, c_62, c_63, l_63, c_64, l_64, c_65, l_65, c_66, l_66, c_67, l_67, c_68, l_68, c_69, l_69, c_70, l_70, c_71, l_71, c_72, l_72, c_73, l_73, c_74, l_74, c_75, l_75, c_76, l_76, e0]
      exact ⟨fun _ => h69, fun z => by omega⟩
    | succ d ih =>
      intro k M1 hk a c e
      have e0 : M1 18 = M 18 := a 18 (by omega) (by omega)
      have e1 : M1 19 = M 19 := a 19 (by omega) (by omega)
      have e2 : M1 20 = M 20 := a 20 (by omega) (by omega)
      have e3 : M1 21 = M 21 := a 21 (by omega) (by omega)
      have e4 : M1 22 = M 22 := a 22 (by omega) (by omega)
      have n0 := e.1.1
      have hqk := hB3 k (by omega) (by omega)
      obtain ⟨x1, x2, x3, x4⟩ := dB (b := b) hqk.1 (by omega) h5
      have h63 : ∀ M2 : mmM, (∀ o', o' ≠ 43 → o' ≠ 44 → M2 o' = M o') → M2 43 1 ≤ ((k + 1 : Nat) : Int) → isKey (fun z => sUn M 18 z ∧ z < ((k + 1 : Nat) : Int)) (kuf M 18 b) (M2 44) (M2 43 1) → J 63 [some (vr 42), some (vr 18), some (vi b), some (vi k)] [] M2 := by
        intro M2 a' c' e'
        refine hJ 63 _ _ _ (show mm_wp _ _ _ mo_Und_lay_63 _ _ _ from ?_)
        simp only [mo_Und_lay_63, mm_wp, mm_ldi, mm_lda, mm_ldl, mm_sti, mm_sta, mm_stl, mm_inc, mm_2i, mm_mm, mm_2l, mm_lcmp, mm_i2l, mm_l2i, mm_cast8, mm_if1, mm_if2, mm_cmp, mm_swi, mm_sw, mm_pop1, mm_dup, mm_dup2, mm_geti, mm_geta, mm_puti, mm_iald, mm_bald, mm_aald, mm_iast, mm_bast, mm_alen, mm_acpy, mm_call, mm_callv, mm_recv, mm_pop, mm_find, mm_push, mm_cats, mm_cat, mm_reti, mm_retz, mm_retl, mm_reta, mm_retv, mm_set1, mm_set2, mm_kill, List.getElem?_cons_zero, List.getElem?_cons_succ, Int.reduceToNat, ↓reduceIte, Nat.reduceEqDiff, Nat.reduceDiv, Nat.reduceAdd, Nat.reduceLeDiff, Nat.zero_le, true_and, and_true, true_or, or_true, mm_b0, mm_b1, mm_lc_lt, mm_lc_le, mm_lc_gt, mm_lc_ge, mm_lc_eq, Int.not_lt, Int.not_le, Decidable.not_not, Int.sub_neg]
        exact ⟨by omega, ih (k + 1) M2 (by omega) a' c' e'⟩
      have hskip : ¬ sUn M 18 k → J 63 [some (vr 42), some (vr 18), some (vi b), some (vi k)] [] M1 := by
        intro hn
        refine h63 M1 a (by omega) (isKey_cong e (fun q => ⟨fun z => ⟨z.1, by omega⟩, fun z => ⟨z.1, ?_⟩⟩) (fun _ _ _ => rfl))
        have : q ≠ (k : Int) := fun w => hn (by rw [← w]; exact z.1)
        omega
      refine hJ 16 _ _ _ (show mm_wp _ _ _ mo_Und_lay_16 _ _ _ from ?_)
      simp only [mo_Und_lay_16, mm_wp, mm_ldi, mm_lda, mm_ldl, mm_sti, mm_sta, mm_stl, mm_inc, mm_2i, mm_mm, mm_2l, mm_lcmp, mm_i2l, mm_l2i, mm_cast8, mm_if1, mm_if2, mm_cmp, mm_swi, mm_sw, mm_pop1, mm_dup, mm_dup2, mm_geti, mm_geta, mm_puti, mm_iald, mm_bald, mm_aald, mm_iast, mm_bast, mm_alen, mm_acpy, mm_call, mm_callv, mm_recv, mm_pop, mm_find, mm_push, mm_cats, mm_cat, mm_reti, mm_retz, mm_retl, mm_reta, mm_retv, mm_set1, mm_set2, mm_kill, List.getElem?_cons_zero, List.getElem?_cons_succ, Int.reduceToNat, ↓reduceIte, Nat.reduceEqDiff, Nat.reduceDiv, Nat.reduceAdd, Nat.reduceLeDiff, Nat.zero_le, true_and, and_true, true_or, or_true, mm_b0, mm_b1, mm_lc_lt, mm_lc_le, mm_lc_gt, mm_lc_ge, mm_lc_eq, Int.not_lt, Int.not_le, Decidable.not_not, Int.sub_neg, c_0, c_1, c_2, l_2, c_3, c_4, l_4, c_5, l_5, c_6, l_6, c_7, l_7, c_8, c_9, l_9, c_10, l_10, c_11, l_11, c_12, l_12, c_13, c_14, l_14, c_15, l_15, c_16, l_16, c_17, l_17, c_18, c_19, l_19, c_20, l_20, c_21, l_21, c_22, l_22, c_23, c_24, l_24, c_25, l_25, c_26, c_27, c_28, l_28, c_29, c_30, l_30, c_31, c_32, l_32, c_33, l_33, c_34, l_34, c_35, l_35, c_36, l_36, c_37, l_37, c_38, l_38, c_39, l_39, c_40, c_41, l_41, c_42, c_43, c_44, l_44, c_45, c_46, l_46, c_47, c_48, l_48, c_49, l_49, c_50, l_50, c_51, l_51, c_52, l_52, c_53, l_53, c_54, l_54, c_55, l_55, c_56, l_56, c_57, l_57, c_58, l_58, c_59, l_59, c_60, l_60, c_61, l_61, c_62, c_63, l_63, c_64, l_64, c_65, l_65, c_66, l_66, c_67, l_67, c_68, l_68, c_69, l_69, c_70, l_70, c_71, l_71, c_72, l_72, c_73, l_73, c_74, l_74, c_75, l_75, c_76, l_76, e0, e1, e2, e3, e4, t_Q_isPlanned, t_Srt_key, t_Srt_insert, x4]
      refine ⟨fun z => by omega, fun _ => ⟨isQ18, by omega, by omega, fun hz => hskip (fun w => w.2.2 (by simpa using hz)), fun hz => ?_⟩⟩
      repeat (refine And.intro (by omega) ?_)
      refine ⟨isSrt43, n0, by omega, fun M2 p hi hs hf => ?_⟩
      have hsk : sUn M 18 k := ⟨by omega, by omega, by simpa using hz⟩
      have hins := isKey_ins (q := (k : Int)) e (fun w => by have := w.2; omega) (key_mod (a := (M 22 k * 64 + M 20 k / b) * 64 + M 21 k) (by omega) (by omega) (by omega)) hi
      refine h63 M2 (fun o' c1 c2 => by rw [hf o' c1 c2, a o' c1 c2]) (by omega) ?_
      rw [hs]
      refine isKey_cong hins (fun q => ⟨fun z => ?_, fun z => ?_⟩) (fun _ _ _ => rfl)
      · rcases z with z | z
        · exact ⟨z.1, by have := z.2; omega⟩
        · rw [z]; exact ⟨hsk, by omega⟩
      · by_cases hc : q = (k : Int)
        · exact Or.inr hc
        · exact Or.inl ⟨z.1, by have := z.2; omega⟩
  have e9 : mm_up M 43 1 0 43 1 = 0 := mm_up_s _ _ _ _
  have h14 : J 14 [some (vr 42), some (vr 18), some (vi b), none] [] (mm_up M 43 1 0) := by
    refine hJ 14 _ _ _ (show mm_wp _ _ _ mo_Und_lay_14 _ _ _ from ?_)
    simp only [mo_Und_lay_14, mm_wp, mm_ldi, mm_lda, mm_ldl, mm_sti, mm_sta, mm_stl, mm_inc, mm_2i, mm_mm, mm_2l, mm_lcmp, mm_i2l, mm_l2i, mm_cast8, mm_if1, mm_if2, mm_cmp, mm_swi, mm_sw, mm_pop1, mm_dup, mm_dup2, mm_geti, mm_geta, mm_puti, mm_iald, mm_bald, mm_aald, mm_iast, mm_bast, mm_alen, mm_acpy, mm_call, mm_callv, mm_recv, mm_pop, mm_find, mm_push, mm_cats, mm_cat, mm_reti, mm_retz, mm_retl, mm_reta, mm_retv, mm_set1, mm_set2, mm_kill, List.getElem?_cons_zero, List.getElem?_cons_succ, Int.reduceToNat, ↓reduceIte, Nat.reduceEqDiff, Nat.reduceDiv, Nat.reduceAdd, Nat.reduceLeDiff, Nat.zero_le, true_and, and_true, true_or, or_true, mm_b0, mm_b1, mm_lc_lt, mm_lc_le, mm_lc_gt, mm_lc_ge, mm_lc_eq, Int.not_lt, Int.not_le, Decidable.not_not, Int.sub_neg]
    have := hl (M 18 4).toNat 0 (mm_up M 43 1 0) (by have := hB.1; omega) (fun o' c1 _ => mm_up_o _ _ c1) (by rw [e9]; omega) (by rw [e9]; exact isKey_0 (fun q z => by have := z.1.1; have := z.2; omega))
    exact this
  refine hJ 0 _ _ _ (show mm_wp _ _ _ mo_Und_lay_0 _ _ _ from ?_)
  simp only [mo_Und_lay_0, mm_wp, mm_ldi, mm_lda, mm_ldl, mm_sti, mm_sta, mm_stl, mm_inc, mm_2i, mm_mm, mm_2l, mm_lcmp, mm_i2l, mm_l2i, mm_cast8, mm_if1, mm_if2, mm_cmp, mm_swi, mm_sw, mm_pop1, mm_dup, mm_dup2, mm_geti, mm_geta, mm_puti, mm_iald, mm_bald, mm_aald, mm_iast, mm_bast, mm_alen, mm_acpy, mm_call, mm_callv, mm_recv, mm_pop, mm_find, mm_push, mm_cats, mm_cat, mm_reti, mm_retz, mm_retl, mm_reta, mm_retv, mm_set1, mm_set2, mm_kill, List.getElem?_cons_zero, List.getElem?_cons_succ, Int.reduceToNat, ↓reduceIte, Nat.reduceEqDiff, Nat.reduceDiv, Nat.reduceAdd, Nat.reduceLeDiff, Nat.zero_le, true_and, and_true, true_or, or_true, mm_b0, mm_b1, mm_lc_lt, mm_lc_le, mm_lc_gt, mm_lc_ge, mm_lc_eq, Int.not_lt, Int.not_le, Decidable.not_not, Int.sub_neg, c_0, c_1, c_2, l_2, c_3, c_4, l_4, c_5, l_5, c_6, l_6, c_7, l_7, c_8, c_9, l_9, c_10, l_10, c_11, l_11, c_12, l_12, c_13, c_14, l_14, c_15, l_15, c_16, l_16, c_17, l_17, c_18, c_19, l_19, c_20, l_20, c_21, l_21, c_22, l_22, c_23, c_24, l_24, c_25, l_25, c_26, c_27, c_28, l_28, c_29, c_30, l_30, c_31, c_32, l_32, c_33, l_33, c_34, l_34, c_35, l_35, c_36, l_36, c_37, l_37, c_38, l_38, c_39, l_39, c_40, c_41, l_41, c_42, c_43, c_44, l_44, c_45, c_46, l_46, c_47, c_48, l_48, c_49, l_49, c_50, l_50, c_51, l_51, c_52, l_52, c_53, l_53, c_54, l_54, c_55, l_55, c_56, l_56, c_57, l_57, c_58, l_58, c_59, l_59, c_60, l_60, c_61, l_61, c_62, c_63, l_63, c_64, l_64, c_65, l_65, c_66, l_66, c_67, l_67, c_68, l_68, c_69, l_69, c_70, l_70, c_71, l_71, c_72, l_72, c_73, l_73, c_74, l_74, c_75, l_75, c_76, l_76]
  exact ⟨fun _ => h14, fun z => by omega⟩
def t_P_undone : mmT := fun as M Q => match as with
  | [.inr (.inr o), .inl b, .inl i] => o = 0 ∧ qB M 18 ∧ (¬ (1 ≤ b ∧ b ≤ 60) → Q (some (vi (-1))) M) ∧ ((1 ≤ b ∧ b ≤ 60) → ∀ M' P n, (∀ o', o' ≠ 43 → o' ≠ 44 → M' o' = M o') → isOrd (sUn M 18) (kuf M 18 b) P n → Q (some (vi (if i = -1 then n else if 0 ≤ i ∧ i < n then P i else -1))) M')
  | _ => False
set_option maxHeartbeats 4000000 in
set_option maxRecDepth 100000 in
theorem p_P_undone : ∀ as M Q, (∀ v ∈ as, mm_vin v) → mm_mem M → t_P_undone as M Q → (mm_ent as).length ≤ 3 ∧ mm_ok mb_P_undone [(1031, t_P_isBlock), (801, t_Und_lay), (503, t_Srt_question)] (mm_entry 3 as) M Q := by
  intro as M Q hin hM h
  unfold t_P_undone at h
  split at h
  rotate_left
  · exact h.elim
  rename_i o b i
  have hR_b : mm_R b := hin (vi b) (by simp)
  have hR_i : mm_R i := hin (vi i) (by simp)
  refine ⟨by simp [mm_ent], (show mm_ok mb_P_undone [(1031, t_P_isBlock), (801, t_Und_lay), (503, t_Srt_question)] [some (vr o), some (vi b), some (vi i)] M Q from ?_)⟩
  intro J hJ
  obtain ⟨rfl, hB, hN, hY⟩ := h
  have h9 : (1 ≤ b ∧ b ≤ 60) → J 9 [some (vr 0), some (vi b), some (vi i)] [] M := by
    intro hk
    refine hJ 9 _ _ _ (show mm_wp _ _ _ mo_P_undone_9 _ _ _ from ?_)
    simp only [mo_P_undone_9, mm_wp, mm_ldi, mm_lda, mm_ldl, mm_sti, mm_sta, mm_stl, mm_inc, mm_2i, mm_mm, mm_2l, mm_lcmp, mm_i2l, mm_l2i, mm_cast8, mm_if1, mm_if2, mm_cmp, mm_swi, mm_sw, mm_pop1, mm_dup, mm_dup2, mm_geti, mm_geta, mm_puti, mm_iald, mm_bald, mm_aald, mm_iast, mm_bast, mm_alen, mm_acpy, mm_call, mm_callv, mm_recv, mm_pop, mm_find, mm_push, mm_cats, mm_cat, mm_reti, mm_retz, mm_retl, mm_reta, mm_retv, mm_set1, mm_set2, mm_kill, List.getElem?_cons_zero, List.getElem?_cons_succ, Int.reduceToNat, ↓reduceIte, Nat.reduceEqDiff, Nat.reduceDiv, Nat.reduceAdd, Nat.reduceLeDiff, Nat.zero_le, true_and, and_true, true_or, or_true, mm_b0, mm_b1, mm_lc_lt, mm_lc_le, mm_lc_gt, mm_lc_ge, mm_lc_eq, Int.not_lt, Int.not_le, Decidable.not_not, Int.sub_neg, c_0, c_1, c_2, l_2, c_3, c_4, l_4, c_5, l_5, c_6, l_6, c_7, l_7, c_8, c_9, l_9, c_10, l_10, c_11, l_11, c_12, l_12, c_13, c_14, l_14, c_15, l_15, c_16, l_16, c_17, l_17, c_18, c_19, l_19, c_20, l_20, c_21, l_21, c_22, l_22, c_23, c_24, l_24, c_25, l_25, c_26, c_27, c_28, l_28, c_29, c_30, l_30, c_31, c_32, l_32, c_33, l_33, c_34, l_34, c_35, l_35, c_36, l_36, c_37, l_37, c_38, l_38, c_39, l_39, c_40, c_41, l_41, c_42, c_43, c_44, l_44, c_45, c_46, l_46, c_47, c_48, l_48, c_49, l_49, c_50, l_50, c_51, l_51, c_52, l_52, c_53, l_53, c_54, l_54, c_55, l_55, c_56, l_56, c_57, l_57, c_58, l_58, c_59, l_59, c_60, l_60, c_61, l_61, c_62, c_63, l_63, c_64, l_64, c_65, l_65, c_66, l_66, c_67, l_67, c_68, l_68, c_69, l_69, c_70, l_70, c_71, l_71, c_72, l_72, c_73, l_73, c_74, l_74, c_75, l_75, c_76, l_76, t_Und_lay]
    refine ⟨hB, by omega, by omega, fun M1 f1 n1 k1 => ?_⟩
    have hq := hY hk M1 (fun j => (M1 44 j).tmod 32) (M1 43 1) f1 k1.1
    have hn := k1.1.1
    have hb := hB.2.1
    have h50 : ∀ z, Q (some (vi z)) M1 → J 50 [some (vr 0), some (vi b), some (vi i)] [vi z] M1 := by
      intro z hz
      refine hJ 50 _ _ _ (show mm_wp _ _ _ mo_P_undone_50 _ _ _ from ?_)
      simp only [mo_P_undone_50, mm_wp, mm_ldi, mm_lda, mm_ldl, mm_sti, mm_sta, mm_stl, mm_inc, mm_2i, mm_mm, mm_2l, mm_lcmp, mm_i2l, mm_l2i, mm_cast8, mm_if1, mm_if2, mm_cmp, mm_swi, mm_sw, mm_pop1, mm_dup, mm_dup2, mm_geti, mm_geta, mm_puti, mm_iald, mm_bald, mm_aald, mm_iast, mm_bast, mm_alen, mm_acpy, mm_call, mm_callv, mm_recv, mm_pop, mm_find, mm_push, mm_cats, mm_cat, mm_reti, mm_retz, mm_retl, mm_reta, mm_retv, mm_set1, mm_set2, mm_kill, List.getElem?_cons_zero, List.getElem?_cons_succ, Int.reduceToNat, ↓reduceIte, Nat.reduceEqDiff, Nat.reduceDiv, Nat.reduceAdd, Nat.reduceLeDiff, Nat.zero_le, true_and, and_true, true_or, or_true, mm_b0, mm_b1, mm_lc_lt, mm_lc_le, mm_lc_gt, mm_lc_ge, mm_lc_eq, Int.not_lt, Int.not_le, Decidable.not_not, Int.sub_neg]
      exact hz
    have h39 : ¬ i = -1 → J 39 [some (vr 0), some (vi b), some (vi i)] [] M1 := by
      intro hi
      rw [if_neg hi] at hq
      refine hJ 39 _ _ _ (show mm_wp _ _ _ mo_P_undone_39 _ _ _ from ?_)
      simp only [mo_P_undone_39, mm_wp, mm_ldi, mm_lda, mm_ldl, mm_sti, mm_sta, mm_stl, mm_inc, mm_2i, mm_mm, mm_2l, mm_lcmp, mm_i2l, mm_l2i, mm_cast8, mm_if1, mm_if2, mm_cmp, mm_swi, mm_sw, mm_pop1, mm_dup, mm_dup2, mm_geti, mm_geta, mm_puti, mm_iald, mm_bald, mm_aald, mm_iast, mm_bast, mm_alen, mm_acpy, mm_call, mm_callv, mm_recv, mm_pop, mm_find, mm_push, mm_cats, mm_cat, mm_reti, mm_retz, mm_retl, mm_reta, mm_retv, mm_set1, mm_set2, mm_kill, List.getElem?_cons_zero, List.getElem?_cons_succ, Int.reduceToNat, ↓reduceIte, Nat.reduceEqDiff, Nat.reduceDiv, Nat.reduceAdd, Nat.reduceLeDiff, Nat.zero_le, true_and, and_true, true_or, or_true, mm_b0, mm_b1, mm_lc_lt, mm_lc_le, mm_lc_gt, mm_lc_ge, mm_lc_eq, Int.not_lt, Int.not_le, Decidable.not_not, Int.sub_neg, c_0, c_1, c_2, l_2, c_3, c_4, l_4, c_5, l_5, c_6, l_6, c_7, l_7, c_8, c_9, l_9, c_10, l_10, c_11, l_11, c_12, l_12, c_13, c_14, l_14, c_15, l_15, c_16, l_16, c_17, l_17, c_18, c_19, l_19, c_20, l_20, c_21, l_21, c_22, l_22, c_23, c_24, l_24, c_25, l_25, c_26, c_27, c_28, l_28, c_29, c_30, l_30, c_31, c_32, l_32, c_33, l_33, c_34, l_34, c_35, l_35, c_36, l_36, c_37, l_37, c_38, l_38, c_39, l_39, c_40, c_41, l_41, c_42, c_43, c_44, l_44, c_45, c_46, l_46, c_47, c_48, l_48, c_49, l_49, c_50, l_50, c_51, l_51, c_52, l_52, c_53, l_53, c_54, l_54, c_55, l_55, c_56, l_56, c_57, l_57, c_58, l_58, c_59, l_59, c_60, l_60, c_61, l_61, c_62, c_63, l_63, c_64, l_64, c_65, l_65, c_66, l_66, c_67, l_67, c_68, l_68, c_69, l_69, c_70, l_70, c_71, l_71, c_72, l_72, c_73, l_73, c_74, l_74, c_75, l_75, c_76, l_76, t_Srt_question]
      exact ⟨isSrt43, by omega, h50 _ hq⟩
    refine ⟨fun z => h39 z, fun z => h50 _ ?_⟩
    rw [if_pos z] at hq
    exact hq
  refine hJ 0 _ _ _ (show mm_wp _ _ _ mo_P_undone_0 _ _ _ from ?_)
  simp only [mo_P_undone_0, mm_wp, mm_ldi, mm_lda, mm_ldl, mm_sti, mm_sta, mm_stl, mm_inc, mm_2i, mm_mm, mm_2l, mm_lcmp, mm_i2l, mm_l2i, mm_cast8, mm_if1, mm_if2, mm_cmp, mm_swi, mm_sw, mm_pop1, mm_dup, mm_dup2, mm_geti, mm_geta, mm_puti, mm_iald, mm_bald, mm_aald, mm_iast, mm_bast, mm_alen, mm_acpy, mm_call, mm_callv, mm_recv, mm_pop, mm_find, mm_push, mm_cats, mm_cat, mm_reti, mm_retz, mm_retl, mm_reta, mm_retv, mm_set1, mm_set2, mm_kill, List.getElem?_cons_zero, List.getElem?_cons_succ, Int.reduceToNat, ↓reduceIte, Nat.reduceEqDiff, Nat.reduceDiv, Nat.reduceAdd, Nat.reduceLeDiff, Nat.zero_le, true_and, and_true, true_or, or_true, mm_b0, mm_b1, mm_lc_lt, mm_lc_le, mm_lc_gt, mm_lc_ge, mm_lc_eq, Int.not_lt, Int.not_le, Decidable.not_not, Int.sub_neg, c_0, c_1, c_2, l_2, c_3, c_4, l_4, c_5, l_5, c_6, l_6, c_7, l_7, c_8, c_9, l_9, c_10, l_10, c_11, l_11, c_12, l_12, c_13, c_14, l_14, c_15, l_15, c_16, l_16, c_17, l_17, c_18, c_19, l_19, c_20, l_20, c_21, l_21, c_22, l_22, c_23, c_24, l_24, c_25, l_25, c_26, c_27, c_28, l_28, c_29, c_30, l_30, c_31, c_32, l_32, c_33, l_33, c_34, l_34, c_35, l_35, c_36, l_36, c_37, l_37, c_38, l_38, c_39, l_39, c_40, c_41, l_41, c_42, c_43, c_44, l_44, c_45, c_46, l_46, c_47, c_48, l_48, c_49, l_49, c_50, l_50, c_51, l_51, c_52, l_52, c_53, l_53, c_54, l_54, c_55, l_55, c_56, l_56, c_57, l_57, c_58, l_58, c_59, l_59, c_60, l_60, c_61, l_61, c_62, c_63, l_63, c_64, l_64, c_65, l_65, c_66, l_66, c_67, l_67, c_68, l_68, c_69, l_69, c_70, l_70, c_71, l_71, c_72, l_72, c_73, l_73, c_74, l_74, c_75, l_75, c_76, l_76, t_P_isBlock]
  exact ⟨fun z => h9 z, fun z => hN z⟩
def t_Und_come : mmT := fun as M Q => match as with
  | [.inr (.inr o), .inl f, .inl l, .inl bo, .inl nx] => o = 42 ∧ (0 ≤ f ∧ f ≤ 60 ∧ 0 ≤ l ∧ l ≤ 60 ∧ 0 ≤ bo ∧ bo ≤ 60 ∧ 0 ≤ nx ∧ nx ≤ 61 ∧ -100000 ≤ M 42 1 ∧ M 42 1 ≤ 100000 ∧ 0 ≤ M 42 3 ∧ M 42 3 ≤ 1000) ∧ Q (some (vi (if l < bo then nx else max nx (l + 1)))) (mm_up (mm_up M 42 1 (M 42 1 + (if l < bo then l - f + 1 else max nx (l + 1) - nx + bo - f))) 42 3 (max (M 42 3) (if l < bo then l - f + 1 else max nx (l + 1) - f)))
  | _ => False
set_option maxHeartbeats 4000000 in
set_option maxRecDepth 100000 in
theorem p_Und_come : ∀ as M Q, (∀ v ∈ as, mm_vin v) → mm_mem M → t_Und_come as M Q → (mm_ent as).length ≤ 6 ∧ mm_ok mb_Und_come [] (mm_entry 6 as) M Q := by
  intro as M Q hin hM h
  unfold t_Und_come at h
  split at h
  rotate_left
  · exact h.elim
  rename_i o f l bo nx
  have hR_f : mm_R f := hin (vi f) (by simp)
  have hR_l : mm_R l := hin (vi l) (by simp)
  have hR_bo : mm_R bo := hin (vi bo) (by simp)
  have hR_nx : mm_R nx := hin (vi nx) (by simp)
  refine ⟨by simp [mm_ent], (show mm_ok mb_Und_come [] [some (vr o), some (vi f), some (vi l), some (vi bo), some (vi nx), none] M Q from ?_)⟩
  intro J hJ
  obtain ⟨rfl, hb, h⟩ := h
  have e1 : ∀ v, mm_up M 42 1 v 42 3 = M 42 3 := fun v => mm_up_i _ (by decide)
  by_cases c : l < bo
  · simp only [c, ↓reduceIte] at h
    repeat' first | (refine And.intro ?_ ?_) | (intro _) | (refine hJ 0 _ _ _ ?_; show mm_wp _ _ _ mo_Und_come_0 _ _ _; simp only [mo_Und_come_0, mm_wp, mm_ldi, mm_lda, mm_ldl, mm_sti, mm_sta, mm_stl, mm_inc, mm_2i, mm_mm, mm_2l, mm_lcmp, mm_i2l, mm_l2i, mm_cast8, mm_if1, mm_if2, mm_cmp, mm_swi, mm_sw, mm_pop1, mm_dup, mm_dup2, mm_geti, mm_geta, mm_puti, mm_iald, mm_bald, mm_aald, mm_iast, mm_bast, mm_alen, mm_acpy, mm_call, mm_callv, mm_recv, mm_pop, mm_find, mm_push, mm_cats, mm_cat, mm_reti, mm_retz, mm_retl, mm_reta, mm_retv, mm_set1, mm_set2, mm_kill, List.getElem?_cons_zero, List.getElem?_cons_succ, Int.reduceToNat, ↓reduceIte, Nat.reduceEqDiff, Nat.reduceDiv, Nat.reduceAdd, Nat.reduceLeDiff, Nat.zero_le, true_and, and_true, true_or, or_true, mm_b0, mm_b1, mm_lc_lt, mm_lc_le, mm_lc_gt, mm_lc_ge, mm_lc_eq, Int.not_lt, Int.not_le, Decidable.not_not, Int.sub_neg, c_0, c_1, c_2, l_2, c_3, c_4, l_4, c_5, l_5, c_6, l_6, c_7, l_7, c_8, c_9, l_9, c_10, l_10, c_11, l_11, c_12, l_12, c_13, c_14, l_14, c_15, l_15, c_16, l_16, c_17, l_17, c_18, c_19, l_19, c_20, l_20, c_21, l_21, c_22, l_22, c_23, c_24, l_24, c_25, l_25, c_26, c_27, c_28, l_28, c_29, c_30, l_30, c_31, c_32, l_32, c_33, l_33, c_34, l_34, c_35, l_35, c_36, l_36, c_37, l_37, c_38, l_38, c_39, l_39, c_40, c_41, l_41, c_42, c_43, c_44, l_44, c_45, c_46, l_46, c_47, c_48, l_48, c_49, l_49, c_50, l_50, c_51, l_51, c_52, l_52, c_53, l_53, c_54, l_54, c_55, l_55, c_56, l_56, c_57, l_57, c_58, l_58, c_59, l_59, c_60, l_60, c_61, l_61, c_62, c_63, l_63, c_64, l_64, c_65, l_65, c_66, l_66, c_67, l_67, c_68, l_68, c_69, l_69, c_70, l_70, c_71, l_71, c_72, l_72, c_73, l_73, c_74, l_74, c_75, l_75, c_76, l_76, e1]) | (refine hJ 38 _ _ _ ?_; show mm_wp _ _ _ mo_Und_come_38 _ _ _; simp only [mo_Und_come_38, mm_wp, mm_ldi, mm_lda, mm_ldl, mm_sti, mm_sta, mm_stl, mm_inc, mm_2i, mm_mm, mm_2l, mm_lcmp, mm_i2l, mm_l2i, mm_cast8, mm_if1, mm_if2, mm_cmp, mm_swi, mm_sw, mm_pop1, mm_dup, mm_dup2, mm_geti, mm_geta, mm_puti, mm_iald, mm_bald, mm_aald, mm_iast, mm_bast, mm_alen, mm_acpy, mm_call, mm_callv, mm_recv, mm_pop, mm_find, mm_push, mm_cats, mm_cat, mm_reti, mm_retz, mm_retl, mm_reta, mm_retv, mm_set1, mm_set2, mm_kill, List.getElem?_cons_zero, List.getElem?_cons_succ, Int.reduceToNat, ↓reduceIte, Nat.reduceEqDiff, Nat.reduceDiv, Nat.reduceAdd, Nat.reduceLeDiff, Nat.zero_le, true_and, and_true, true_or, or_true, mm_b0, mm_b1, mm_lc_lt, mm_lc_le, mm_lc_gt, mm_lc_ge, mm_lc_eq, Int.not_lt, Int.not_le, Decidable.not_not, Int.sub_neg, c_0, c_1, c_2, l_2, c_3, c_4, l_4, c_5, l_5, c_6, l_6, c_7, l_7, c_8, c_9, l_9, c_10, l_10, c_11, l_11, c_12, l_12, c_13, c_14, l_14, c_15, l_15, c_16, l_16, c_17, l_17, c_18, c_19, l_19, c_20, l_20, c_21, l_21, c_22, l_22, c_23, c_24, l_24, c_25, l_25, c_26, c_27, c_28, l_28, c_29, c_30, l_30, c_31, c_32, l_32, c_33, l_33, c_34, l_34, c_35, l_35, c_36, l_36, c_37, l_37, c_38, l_38, c_39, l_39, c_40, c_41, l_41, c_42, c_43, c_44, l_44, c_45, c_46, l_46, c_47, c_48, l_48, c_49, l_49, c_50, l_50, c_51, l_51, c_52, l_52, c_53, l_53, c_54, l_54, c_55, l_55, c_56, l_56, c_57, l_57, c_58, l_58, c_59, l_59, c_60, l_60, c_61, l_61, c_62, c_63, l_63, c_64, l_64, c_65, l_65, c_66, l_66, c_67, l_67, c_68, l_68, c_69, l_69, c_70, l_70, c_71, l_71, c_72, l_72, c_73, l_73, c_74, l_74, c_75, l_75, c_76, l_76, e1])
    all_goals first | assumption | (exact Or.inl rfl) | (exact Or.inr rfl) | (exact rfl) | trivial | omega
  · simp only [c, ↓reduceIte] at h
    repeat' first | (refine And.intro ?_ ?_) | (intro _) | (refine hJ 0 _ _ _ ?_; show mm_wp _ _ _ mo_Und_come_0 _ _ _; simp only [mo_Und_come_0, mm_wp, mm_ldi, mm_lda, mm_ldl, mm_sti, mm_sta, mm_stl, mm_inc, mm_2i, mm_mm, mm_2l, mm_lcmp, mm_i2l, mm_l2i, mm_cast8, mm_if1, mm_if2, mm_cmp, mm_swi, mm_sw, mm_pop1, mm_dup, mm_dup2, mm_geti, mm_geta, mm_puti, mm_iald, mm_bald, mm_aald, mm_iast, mm_bast, mm_alen, mm_acpy, mm_call, mm_callv, mm_recv, mm_pop, mm_find, mm_push, mm_cats, mm_cat, mm_reti, mm_retz, mm_retl, mm_reta, mm_retv, mm_set1, mm_set2, mm_kill, List.getElem?_cons_zero, List.getElem?_cons_succ, Int.reduceToNat, ↓reduceIte, Nat.reduceEqDiff, Nat.reduceDiv, Nat.reduceAdd, Nat.reduceLeDiff, Nat.zero_le, true_and, and_true, true_or, or_true, mm_b0, mm_b1, mm_lc_lt, mm_lc_le, mm_lc_gt, mm_lc_ge, mm_lc_eq, Int.not_lt, Int.not_le, Decidable.not_not, Int.sub_neg, c_0, c_1, c_2, l_2, c_3, c_4, l_4, c_5, l_5, c_6, l_6, c_7, l_7, c_8, c_9, l_9, c_10, l_10, c_11, l_11, c_12, l_12, c_13, c_14, l_14, c_15, l_15, c_16, l_16, c_17, l_17, c_18, c_19, l_19, c_20, l_20, c_21, l_21, c_22, l_22, c_23, c_24, l_24, c_25, l_25, c_26, c_27, c_28, l_28, c_29, c_30, l_30, c_31, c_32, l_32, c_33, l_33, c_34, l_34, c_35, l_35, c_36, l_36, c_37, l_37, c_38, l_38, c_39, l_39, c_40, c_41, l_41, c_42, c_43, c_44, l_44, c_45, c_46, l_46, c_47, c_48, l_48, c_49, l_49, c_50, l_50, c_51, l_51, c_52, l_52, c_53, l_53, c_54, l_54, c_55, l_55, c_56, l_56, c_57, l_57, c_58, l_58, c_59, l_59, c_60, l_60, c_61, l_61, c_62, c_63, l_63, c_64, l_64, c_65, l_65, c_66, l_66, c_67, l_67, c_68, l_68, c_69, l_69, c_70, l_70, c_71, l_71, c_72, l_72, c_73, l_73, c_74, l_74, c_75, l_75, c_76, l_76, e1]) | (refine hJ 38 _ _ _ ?_; show mm_wp _ _ _ mo_Und_come_38 _ _ _; simp only [mo_Und_come_38, mm_wp, mm_ldi, mm_lda, mm_ldl, mm_sti, mm_sta, mm_stl, mm_inc, mm_2i, mm_mm, mm_2l, mm_lcmp, mm_i2l, mm_l2i, mm_cast8, mm_if1, mm_if2, mm_cmp, mm_swi, mm_sw, mm_pop1, mm_dup, mm_dup2, mm_geti, mm_geta, mm_puti, mm_iald, mm_bald, mm_aald, mm_iast, mm_bast, mm_alen, mm_acpy, mm_call, mm_callv, mm_recv, mm_pop, mm_find, mm_push, mm_cats, mm_cat, mm_reti, mm_retz, mm_retl, mm_reta, mm_retv, mm_set1, mm_set2, mm_kill, List.getElem?_cons_zero, List.getElem?_cons_succ, Int.reduceToNat, ↓reduceIte, Nat.reduceEqDiff, Nat.reduceDiv, Nat.reduceAdd, Nat.reduceLeDiff, Nat.zero_le, true_and, and_true, true_or, or_true, mm_b0, mm_b1, mm_lc_lt, mm_lc_le, mm_lc_gt, mm_lc_ge, mm_lc_eq, Int.not_lt, Int.not_le, Decidable.not_not, Int.sub_neg, c_0, c_1, c_2, l_2, c_3, c_4, l_4, c_5, l_5, c_6, l_6, c_7, l_7, c_8, c_9, l_9, c_10, l_10, c_11, l_11, c_12, l_12, c_13, c_14, l_14, c_15, l_15, c_16, l_16, c_17, l_17, c_18, c_19, l_19, c_20, l_20, c_21, l_21, c_22, l_22, c_23, c_24, l_24, c_25, l_25, c_26, c_27, c_28, l_28, c_29, c_30, l_30, c_31, c_32, l_32, c_33, l_33, c_34, l_34, c_35, l_35, c_36, l_36, c_37, l_37, c_38, l_38, c_39, l_39, c_40, c_41, l_41, c_42, c_43, c_44, l_44, c_45, c_46, l_46, c_47, c_48, l_48, c_49, l_49, c_50, l_50, c_51, l_51, c_52, l_52, c_53, l_53, c_54, l_54, c_55, l_55, c_56, l_56, c_57, l_57, c_58, l_58, c_59, l_59, c_60, l_60, c_61, l_61, c_62, c_63, l_63, c_64, l_64, c_65, l_65, c_66, l_66, c_67, l_67, c_68, l_68, c_69, l_69, c_70, l_70, c_71, l_71, c_72, l_72, c_73, l_73, c_74, l_74, c_75, l_75, c_76, l_76, e1])
    all_goals first | assumption | (exact Or.inl rfl) | (exact Or.inr rfl) | (exact rfl) | trivial | omega
/-- the undoing along P: border, next, adds, groups, deepest behind n questions -/
def unF (F L A : Int → Int) (b c : Int) : Nat → Int × Int × Int × Int × Int
  | 0 => (0, 0, 0, 0, 0)
  | n + 1 => if 0 < (n : Int) ∧ A n = A ((n : Int) - 1) then ((unF F L A b c n).1, (if L n < (unF F L A b c n).1 then (unF F L A b c n).2.1 else max (unF F L A b c n).2.1 (L n + 1)), (unF F L A b c n).2.2.1 + (if L n < (unF F L A b c n).1 then L n - F n + 1 else max (unF F L A b c n).2.1 (L n + 1) - (unF F L A b c n).2.1 + (unF F L A b c n).1 - F n), (unF F L A b c n).2.2.2.1, max (unF F L A b c n).2.2.2.2 (if L n < (unF F L A b c n).1 then L n - F n + 1 else max (unF F L A b c n).2.1 (L n + 1) - F n)) else (min c (F n / b * b + b), (if L n < min c (F n / b * b + b) then min c (F n / b * b + b) else max (min c (F n / b * b + b)) (L n + 1)), (unF F L A b c n).2.2.1 + (if L n < min c (F n / b * b + b) then L n - F n + 1 else max (min c (F n / b * b + b)) (L n + 1) - min c (F n / b * b + b) + min c (F n / b * b + b) - F n), (unF F L A b c n).2.2.2.1 + 1, max (unF F L A b c n).2.2.2.2 (if L n < min c (F n / b * b + b) then L n - F n + 1 else max (min c (F n / b * b + b)) (L n + 1) - F n))
theorem unF_b {F L A : Int → Int} {b c : Int} (hb : 1 ≤ b) (hc : 0 ≤ c ∧ c ≤ 60) : ∀ n : Nat, (∀ k : Nat, k < n → 0 ≤ F k ∧ F k ≤ L k ∧ L k < c) → 0 ≤ (unF F L A b c n).1 ∧ (unF F L A b c n).1 ≤ 60 ∧ 0 ≤ (unF F L A b c n).2.1 ∧ (unF F L A b c n).2.1 ≤ 61 ∧ -(200 * (n : Int)) ≤ (unF F L A b c n).2.2.1 ∧ (unF F L A b c n).2.2.1 ≤ 200 * n ∧ 0 ≤ (unF F L A b c n).2.2.2.1 ∧ (unF F L A b c n).2.2.2.1 ≤ n ∧ 0 ≤ (unF F L A b c n).2.2.2.2 ∧ (unF F L A b c n).2.2.2.2 ≤ 61
  | 0, _ => by simp [unF]
  | n + 1, h => by
    have ih := unF_b (F := F) (L := L) (A := A) hb hc n (fun k hk => h k (by omega))
    have hn := h n (by omega)
    have hd := Int.ediv_nonneg hn.1 (show 0 ≤ b by omega)
    have hm : 0 ≤ F n / b * b := Int.mul_nonneg hd (by omega)
    simp only [unF]
    generalize F n / b * b = z at *
    split
    · simp only
      generalize unF F L A b c n = s at *
      split <;> omega
    · simp only
      generalize unF F L A b c n = s at *
      split <;> omega
theorem key_div {a q : Int} (ha : 0 ≤ a) (l q0 : Int) (h0 : 0 ≤ l) (h1 : l < 64) (h2 : 0 ≤ q0) (h3 : q0 < 32) : ((a * 64 + l) * 32 + q0).tdiv 2048 = a := by
  rw [Int.tdiv_eq_ediv_of_nonneg (by omega)]
  omega
def t_Und_follow : mmT := fun as M Q => match as with
  | [.inr (.inr o), .inr (.inr qo), .inl b, .inl c] => o = 42 ∧ qo = 18 ∧ qB M 18 ∧ 1 ≤ b ∧ b ≤ 60 ∧ 2 ≤ c ∧ c ≤ 60 ∧ M 43 1 ≤ 25 ∧ isKey (sUn M 18) (kuf M 18 b) (M 44) (M 43 1) ∧ (∀ q, 0 ≤ q → q < M 18 4 → M 20 q ≤ M 21 q ∧ M 21 q < c) ∧ ∀ M' s, (∀ o', o' ≠ 42 → M' o' = M o') → s = unF (fun i => M 20 ((M 44 i).tmod 32)) (fun i => M 21 ((M 44 i).tmod 32)) (fun i => M 22 ((M 44 i).tmod 32) * 64 + M 20 ((M 44 i).tmod 32) / b) b c (M 43 1).toNat → M' 42 1 = s.2.2.1 → M' 42 2 = s.2.2.2.1 → M' 42 3 = s.2.2.2.2 → Q none M'
  | _ => False
set_option maxHeartbeats 4000000 in
set_option maxRecDepth 100000 in
theorem p_Und_follow : ∀ as M Q, (∀ v ∈ as, mm_vin v) → mm_mem M → t_Und_follow as M Q → (mm_ent as).length ≤ 8 ∧ mm_ok mb_Und_follow [(503, t_Srt_question), (504, t_Srt_goesOn), (803, t_Und_come)] (mm_entry 8 as) M Q := by
  intro as M Q hin hM h
  unfold t_Und_follow at h
  split at h
  rotate_left
  · exact h.elim
  rename_i o qo b c
  have hR_b : mm_R b := hin (vi b) (by simp)
  have hR_c : mm_R c := hin (vi c) (by simp)
  refine ⟨by simp [mm_ent], (show mm_ok mb_Und_follow [(503, t_Srt_question), (504, t_Srt_goesOn), (803, t_Und_come)] [some (vr o), some (vr qo), some (vi b), some (vi c), none, none, none, none] M Q from ?_)⟩
  intro J hJ
  obtain ⟨rfl, rfl, hB, b1, b2, c1, c2, hn, hk, hfl, h⟩ := h
  have hB3 : ∀ q, 0 ≤ q → q < M 18 4 → 0 ≤ M 20 q ∧ M 20 q < 60 ∧ 0 ≤ M 21 q ∧ M 21 q < 60 ∧ 0 ≤ M 22 q ∧ M 22 q ≤ 32 := hB.2.2
  have hb25 := hB.2.1
  have n0 := hk.1.1
  have hP : ∀ i, 0 ≤ i → i < M 43 1 → 0 ≤ (M 44 i).tmod 32 ∧ (M 44 i).tmod 32 < M 18 4 := fun i i0 i1 => by
    have := hk.1.2.1 i i0 i1
    exact ⟨this.1, this.2.1⟩
  generalize hF : (fun i => M 20 ((M 44 i).tmod 32)) = F at h
  generalize hL : (fun i => M 21 ((M 44 i).tmod 32)) = L at h
  generalize hA : (fun i => M 22 ((M 44 i).tmod 32) * 64 + M 20 ((M 44 i).tmod 32) / b) = A at h
  have hFv : ∀ i, M 20 ((M 44 i).tmod 32) = F i := fun i => by rw [← hF]
  have hLv : ∀ i, M 21 ((M 44 i).tmod 32) = L i := fun i => by rw [← hL]
  have hAv : ∀ i, M 22 ((M 44 i).tmod 32) * 64 + M 20 ((M 44 i).tmod 32) / b = A i := fun i => by rw [← hA]
  have hFL : ∀ k : Nat, (k : Int) < M 43 1 → 0 ≤ F k ∧ F k ≤ L k ∧ L k < c := fun k hk9 => by
    have hp := hP k (by omega) hk9
    have h1 := hB3 _ hp.1 hp.2
    have h2 := hfl _ hp.1 hp.2
    rw [hFv, hLv] at h1 h2
    omega
  have hdiv : ∀ i, 0 ≤ i → i < M 43 1 → (M 44 i).tdiv 2048 = A i := fun i i0 i1 => by
    have hp := hP i i0 i1
    have h1 := hB3 _ hp.1 hp.2
    have hd := Int.ediv_nonneg h1.1 (show 0 ≤ b by omega)
    have e := hk.2 i i0 i1
    rw [e]
    show (((M 22 ((M 44 i).tmod 32) * 64 + M 20 ((M 44 i).tmod 32) / b) * 64 + M 21 ((M 44 i).tmod 32)) * 32 + (M 44 i).tmod 32).tdiv 2048 = A i
    rw [key_div (q := 0) (by omega) _ _ h1.2.2.1 (by omega) hp.1 (by omega), hAv]
  have hub : ∀ k : Nat, (k : Int) ≤ M 43 1 → _ := fun k hk9 => unF_b (F := F) (L := L) (A := A) (b := b) (c := c) b1 (by omega) k (fun j hj => hFL j (by omega))
  have hl : ∀ (d k : Nat) (x7 : Option mmV) (M1 : mmM), (k : Int) + d = M 43 1 → (∀ o', o' ≠ 42 → M1 o' = M o') → M1 42 1 = (unF F L A b c k).2.2.1 → M1 42 2 = (unF F L A b c k).2.2.2.1 → M1 42 3 = (unF F L A b c k).2.2.2.2 → J 24 [some (vr 42), some (vr 18), some (vi b), some (vi c), some (vi (unF F L A b c k).1), some (vi (unF F L A b c k).2.1), some (vi k), x7] [] M1 := by
    intro d
    induction d with
    | zero =>
      intro k x7 M1 hk9 f1 a1 a2 a3
      have e43 : M1 43 = M 43 := f1 43 (by decide)
      have h126 : J 126 [some (vr 42), some (vr 18), some (vi b), some (vi c), some (vi (unF F L A b c k).1), some (vi (unF F L A b c k).2.1), some (vi k), x7] [] M1 := by
        refine hJ 126 _ _ _ (show mm_wp _ _ _ mo_Und_follow_126 _ _ _ from ?_)
        simp only [mo_Und_follow_126, mm_wp, mm_ldi, mm_lda, mm_ldl, mm_sti, mm_sta, mm_stl, mm_inc, mm_2i, mm_mm, mm_2l, mm_lcmp, mm_i2l, mm_l2i, mm_cast8, mm_if1, mm_if2, mm_cmp, mm_swi, mm_sw, mm_pop1, mm_dup, mm_dup2, mm_geti, mm_geta, mm_puti, mm_iald, mm_bald, mm_aald, mm_iast, mm_bast, mm_alen, mm_acpy, mm_call, mm_callv, mm_recv, mm_pop, mm_find, mm_push, mm_cats, mm_cat, mm_reti, mm_retz, mm_retl, mm_reta, mm_retv, mm_set1, mm_set2, mm_kill, List.getElem?_cons_zero, List.getElem?_cons_succ, Int.reduceToNat, ↓reduceIte, Nat.reduceEqDiff, Nat.reduceDiv, Nat.reduceAdd, Nat.reduceLeDiff, Nat.zero_le, true_and, and_true, true_or, or_true, mm_b0, mm_b1, mm_lc_lt, mm_lc_le, mm_lc_gt, mm_lc_ge, mm_lc_eq, Int.not_lt, Int.not_le, Decidable.not_not, Int.sub_neg]
        exact h M1 _ f1 rfl (by rw [a1, show (M 43 1).toNat = k by omega]) (by rw [a2, show (M 43 1).toNat = k by omega]) (by rw [a3, show (M 43 1).toNat = k by omega])
      refine hJ 24 _ _ _ (show mm_wp _ _ _ mo_Und_follow_24 _ _ _ from ?_)
      simp only [mo_Und_follow_24, mm_wp, mm_ldi, mm_lda, mm_ldl, mm_sti, mm_sta, mm_stl, mm_inc, mm_2i, mm_mm, mm_2l, mm_lcmp, mm_i2l, mm_l2i, mm_cast8, mm_if1, mm_if2, mm_cmp, mm_swi, mm_sw, mm_pop1, mm_dup, mm_dup2, mm_geti, mm_geta, mm_puti, mm_iald, mm_bald, mm_aald, mm_iast, mm_bast, mm_alen, mm_acpy, mm_call, mm_callv, mm_recv, mm_pop, mm_find, mm_push, mm_cats, mm_cat, mm_reti, mm_retz, mm_retl, mm_reta, mm_retv, mm_set1, mm_set2, mm_kill, List.getElem?_cons_zero, List.getElem?_cons_succ, Int.reduceToNat, ↓reduceIte, Nat.reduceEqDiff, Nat.reduceDiv, Nat.reduceAdd, Nat.reduceLeDiff, Nat.zero_le, true_and, and_true, true_or, or_true, mm_b0, mm_b1, mm_lc_lt, mm_lc_le, mm_lc_gt, mm_lc_ge, mm_lc_eq, Int.not_lt, Int.not_le, Decidable.not_not, Int.sub_neg, c_0, c_1, c_2, l_2, c_3, c_4, l_4, c_5, l_5, c_6, l_6, c_7, l_7, c_8, c_9, l_9, c_10, l_10, c_11, l_11, c_12, l_12, c_13, c_14, l_14, c_15, l_15, c_16, l_16, c_17, l_17, c_18, c_19, l_19, c_20, l_20, c_21, l_21, c_22, l_22, c_23, c_24, l_24, c_25, l_25, c_26, c_27, c_28, l_28, c_29, c_30, l_30, c_31, c_32, l_32, c_33, l_33, c_34, l_34, c_35, l_35, c_36, l_36, c_37, l_37, c_38, l_38, c_39, l_39, c_40, c_41, l_41, c_42, c_43, c_44, l_44, c_45, c_46, l_46, c_47, c_48, l_48, c_49, l_49, c_50, l_50, c_51, l_51, c_52, l_52, c_53, l_53, c_54, l_54, c_55, l_55, c_56, l_56, c_57, l_57, c_58, l_58, c_59, l_59, c_60, l_60, c_61, l_61, c_62, c_63, l_63, c_64, l_64, c_65, l_65, c_66, l_66, c_67, l_67, c_68, l_68, c_69, l_69, c_70, l_70, c_71, l_71, c_72, l_72, c_73, l_73, c_74, l_74, c_75, l_75, c_76, l_76, e43]
      exact ⟨fun _ => h126, fun z => by omega⟩
    | succ d ih =>
      intro k x7 M1 hk9 f1 a1 a2 a3
      have ub := hub k (by omega)
      have un := hub (k + 1) (by omega)
      have e43 : M1 43 = M 43 := f1 43 (by decide)
      have e44 : M1 44 = M 44 := f1 44 (by decide)
      have hFk := hFL k (by omega)
      have hp := hP k (by omega) (by omega)
      have h96 : ∀ (bo nx : Int) (M2 : mmM), 0 ≤ bo → bo ≤ 60 → 0 ≤ nx → nx ≤ 61 → (∀ o', o' ≠ 42 → M2 o' = M o') → M2 42 1 = (unF F L A b c k).2.2.1 → M2 42 3 = (unF F L A b c k).2.2.2.2 → unF F L A b c (k + 1) = (bo, (if L k < bo then nx else max nx (L k + 1)), (unF F L A b c k).2.2.1 + (if L k < bo then L k - F k + 1 else max nx (L k + 1) - nx + bo - F k), M2 42 2, max (unF F L A b c k).2.2.2.2 (if L k < bo then L k - F k + 1 else max nx (L k + 1) - F k)) → J 96 [some (vr 42), some (vr 18), some (vi b), some (vi c), some (vi bo), some (vi nx), some (vi k), some (vi ((M 44 k).tmod 32))] [] M2 := by
        intro bo nx M2 o1 o2 o3 o4 f2 g1 g3 he
        refine hJ 96 _ _ _ (show mm_wp _ _ _ mo_Und_follow_96 _ _ _ from ?_)
        simp only [mo_Und_follow_96, mm_wp, mm_ldi, mm_lda, mm_ldl, mm_sti, mm_sta, mm_stl, mm_inc, mm_2i, mm_mm, mm_2l, mm_lcmp, mm_i2l, mm_l2i, mm_cast8, mm_if1, mm_if2, mm_cmp, mm_swi, mm_sw, mm_pop1, mm_dup, mm_dup2, mm_geti, mm_geta, mm_puti, mm_iald, mm_bald, mm_aald, mm_iast, mm_bast, mm_alen, mm_acpy, mm_call, mm_callv, mm_recv, mm_pop, mm_find, mm_push, mm_cats, mm_cat, mm_reti, mm_retz, mm_retl, mm_reta, mm_retv, mm_set1, mm_set2, mm_kill, List.getElem?_cons_zero, List.getElem?_cons_succ, Int.reduceToNat, ↓reduceIte, Nat.reduceEqDiff, Nat.reduceDiv, Nat.reduceAdd, Nat.reduceLeDiff, Nat.zero_le, true_and, and_true, true_or, or_true, mm_b0, mm_b1, mm_lc_lt, mm_lc_le, mm_lc_gt, mm_lc_ge, mm_lc_eq, Int.not_lt, Int.not_le, Decidable.not_not, Int.sub_neg, c_0, c_1, c_2, l_2, c_3, c_4, l_4, c_5, l_5, c_6, l_6, c_7, l_7, c_8, c_9, l_9, c_10, l_10, c_11, l_11, c_12, l_12, c_13, c_14, l_14, c_15, l_15, c_16, l_16, c_17, l_17, c_18, c_19, l_19, c_20, l_20, c_21, l_21, c_22, l_22, c_23, c_24, l_24, c_25, l_25, c_26, c_27, c_28, l_28, c_29, c_30, l_30, c_31, c_32, l_32, c_33, l_33, c_34, l_34, c_35, l_35, c_36, l_36, c_37, l_37, c_38, l_38, c_39, l_39, c_40, c_41, l_41, c_42, c_43, c_44, l_44, c_45, c_46, l_46, c_47, c_48, l_48, c_49, l_49, c_50, l_50, c_51, l_51, c_52, l_52, c_53, l_53, c_54, l_54, c_55, l_55, c_56, l_56, c_57, l_57, c_58, l_58, c_59, l_59, c_60, l_60, c_61, l_61, c_62, c_63, l_63, c_64, l_64, c_65, l_65, c_66, l_66, c_67, l_67, c_68, l_68, c_69, l_69, c_70, l_70, c_71, l_71, c_72, l_72, c_73, l_73, c_74, l_74, c_75, l_75, c_76, l_76, t_Und_come]
        rw [f2 20 (by decide), f2 21 (by decide), hFv, hLv]
        repeat (refine And.intro (by omega) ?_)
        rw [g1, g3]
        have := ih (k + 1) (some (vi ((M 44 k).tmod 32))) (mm_up (mm_up M2 42 1 ((unF F L A b c k).2.2.1 + (if L k < bo then L k - F k + 1 else max nx (L k + 1) - nx + bo - F k))) 42 3 (max (unF F L A b c k).2.2.2.2 (if L k < bo then L k - F k + 1 else max nx (L k + 1) - F k))) (by omega) (fun o' c1 => by rw [mm_up_o _ _ c1, mm_up_o _ _ c1, f2 o' c1]) (by rw [mm_up_i _ (by decide), mm_up_s, he]) (by rw [mm_up_i _ (by decide), mm_up_i _ (by decide), he]) (by rw [mm_up_s, he])
        rw [he] at this
        exact this
      have hmul : F k / b * b ≤ F k := Int.ediv_mul_le _ (by omega)
      have hm0 : 0 ≤ F k / b * b := Int.mul_nonneg (Int.ediv_nonneg hFk.1 (by omega)) (by omega)
      have dF : (F k).tdiv b = F k / b := Int.tdiv_eq_ediv_of_nonneg hFk.1
      have e20 : M1 20 = M 20 := f1 20 (by decide)
      have e20u : mm_up M1 42 2 (M1 42 2 + 1) 20 = M 20 := by rw [mm_up_o _ _ (by decide), e20]
      refine hJ 24 _ _ _ (show mm_wp _ _ _ mo_Und_follow_24 _ _ _ from ?_)
      simp only [mo_Und_follow_24, mm_wp, mm_ldi, mm_lda, mm_ldl, mm_sti, mm_sta, mm_stl, mm_inc, mm_2i, mm_mm, mm_2l, mm_lcmp, mm_i2l, mm_l2i, mm_cast8, mm_if1, mm_if2, mm_cmp, mm_swi, mm_sw, mm_pop1, mm_dup, mm_dup2, mm_geti, mm_geta, mm_puti, mm_iald, mm_bald, mm_aald, mm_iast, mm_bast, mm_alen, mm_acpy, mm_call, mm_callv, mm_recv, mm_pop, mm_find, mm_push, mm_cats, mm_cat, mm_reti, mm_retz, mm_retl, mm_reta, mm_retv, mm_set1, mm_set2, mm_kill, List.getElem?_cons_zero, List.getElem?_cons_succ, Int.reduceToNat, ↓reduceIte, Nat.reduceEqDiff, Nat.reduceDiv, Nat.reduceAdd, Nat.reduceLeDiff, Nat.zero_le, true_and, and_true, true_or, or_true, mm_b0, mm_b1, mm_lc_lt, mm_lc_le, mm_lc_gt, mm_lc_ge, mm_lc_eq, Int.not_lt, Int.not_le, Decidable.not_not, Int.sub_neg, c_0, c_1, c_2, l_2, c_3, c_4, l_4, c_5, l_5, c_6, l_6, c_7, l_7, c_8, c_9, l_9, c_10, l_10, c_11, l_11, c_12, l_12, c_13, c_14, l_14, c_15, l_15, c_16, l_16, c_17, l_17, c_18, c_19, l_19, c_20, l_20, c_21, l_21, c_22, l_22, c_23, c_24, l_24, c_25, l_25, c_26, c_27, c_28, l_28, c_29, c_30, l_30, c_31, c_32, l_32, c_33, l_33, c_34, l_34, c_35, l_35, c_36, l_36, c_37, l_37, c_38, l_38, c_39, l_39, c_40, c_41, l_41, c_42, c_43, c_44, l_44, c_45, c_46, l_46, c_47, c_48, l_48, c_49, l_49, c_50, l_50, c_51, l_51, c_52, l_52, c_53, l_53, c_54, l_54, c_55, l_55, c_56, l_56, c_57, l_57, c_58, l_58, c_59, l_59, c_60, l_60, c_61, l_61, c_62, c_63, l_63, c_64, l_64, c_65, l_65, c_66, l_66, c_67, l_67, c_68, l_68, c_69, l_69, c_70, l_70, c_71, l_71, c_72, l_72, c_73, l_73, c_74, l_74, c_75, l_75, c_76, l_76, e43, e44, e20, e20u, t_Srt_question, t_Srt_goesOn]
      rw [if_pos ⟨by omega, by omega⟩, hFv, dF]
      refine ⟨fun z => by omega, fun _ => ⟨fun z => by omega, fun _ => ⟨isSrt43, by omega, isSrt43, by omega, fun hgo => ?_, fun hno => ?_⟩⟩⟩
      · obtain ⟨g1, g2, g3⟩ := hgo
        rw [hdiv k (by omega) (by omega), hdiv ((k : Int) - 1) (by omega) (by omega)] at g3
        refine h96 _ _ M1 ub.1 ub.2.1 ub.2.2.1 ub.2.2.2.1 f1 a1 a3 ?_
        rw [a2]
        simp only [unF]
        rw [if_pos ⟨g1, g3⟩]
      · have hng : ¬ (0 < (k : Int) ∧ A k = A ((k : Int) - 1)) := by
          intro w
          apply hno
          refine ⟨w.1, by omega, ?_⟩
          rw [hdiv k (by omega) (by omega), hdiv ((k : Int) - 1) (by omega) (by omega)]
          exact w.2
        repeat (refine And.intro (by omega) ?_)
        refine h96 _ _ _ (by omega) (by omega) (by omega) (by omega) (fun o' c1 => by rw [mm_up_o _ _ c1, f1 o' c1]) (by rw [mm_up_i _ (by decide), a1]) (by rw [mm_up_i _ (by decide), a3]) ?_
        rw [mm_up_s, a2]
        simp only [unF]
        rw [if_neg hng]
  refine hJ 0 _ _ _ (show mm_wp _ _ _ mo_Und_follow_0 _ _ _ from ?_)
  simp only [mo_Und_follow_0, mm_wp, mm_ldi, mm_lda, mm_ldl, mm_sti, mm_sta, mm_stl, mm_inc, mm_2i, mm_mm, mm_2l, mm_lcmp, mm_i2l, mm_l2i, mm_cast8, mm_if1, mm_if2, mm_cmp, mm_swi, mm_sw, mm_pop1, mm_dup, mm_dup2, mm_geti, mm_geta, mm_puti, mm_iald, mm_bald, mm_aald, mm_iast, mm_bast, mm_alen, mm_acpy, mm_call, mm_callv, mm_recv, mm_pop, mm_find, mm_push, mm_cats, mm_cat, mm_reti, mm_retz, mm_retl, mm_reta, mm_retv, mm_set1, mm_set2, mm_kill, List.getElem?_cons_zero, List.getElem?_cons_succ, Int.reduceToNat, ↓reduceIte, Nat.reduceEqDiff, Nat.reduceDiv, Nat.reduceAdd, Nat.reduceLeDiff, Nat.zero_le, true_and, and_true, true_or, or_true, mm_b0, mm_b1, mm_lc_lt, mm_lc_le, mm_lc_gt, mm_lc_ge, mm_lc_eq, Int.not_lt, Int.not_le, Decidable.not_not, Int.sub_neg, c_0, c_1, c_2, l_2, c_3, c_4, l_4, c_5, l_5, c_6, l_6, c_7, l_7, c_8, c_9, l_9, c_10, l_10, c_11, l_11, c_12, l_12, c_13, c_14, l_14, c_15, l_15, c_16, l_16, c_17, l_17, c_18, c_19, l_19, c_20, l_20, c_21, l_21, c_22, l_22, c_23, c_24, l_24, c_25, l_25, c_26, c_27, c_28, l_28, c_29, c_30, l_30, c_31, c_32, l_32, c_33, l_33, c_34, l_34, c_35, l_35, c_36, l_36, c_37, l_37, c_38, l_38, c_39, l_39, c_40, c_41, l_41, c_42, c_43, c_44, l_44, c_45, c_46, l_46, c_47, c_48, l_48, c_49, l_49, c_50, l_50, c_51, l_51, c_52, l_52, c_53, l_53, c_54, l_54, c_55, l_55, c_56, l_56, c_57, l_57, c_58, l_58, c_59, l_59, c_60, l_60, c_61, l_61, c_62, c_63, l_63, c_64, l_64, c_65, l_65, c_66, l_66, c_67, l_67, c_68, l_68, c_69, l_69, c_70, l_70, c_71, l_71, c_72, l_72, c_73, l_73, c_74, l_74, c_75, l_75, c_76, l_76]
  refine hl (M 43 1).toNat 0 none _ (by omega) (fun o' c1 => by rw [mm_up_o _ _ c1, mm_up_o _ _ c1, mm_up_o _ _ c1]) ?_ ?_ ?_
  · simp [mm_up, unF]
  · simp [mm_up, unF]
  · simp [mm_up, unF]
def t_P_adds : mmT := fun as M Q => match as with
  | [.inr (.inr o), .inl b, .inl w] => o = 0 ∧ rwI M ∧ quI M 24 ∧ (¬ (1 ≤ b ∧ b ≤ 60) → Q (some (vi (-1))) M) ∧ ((1 ≤ b ∧ b ≤ 60) → ∀ M' P n, (∀ o', o' ≠ 42 → o' ≠ 43 → o' ≠ 44 → M' o' = M o') → isOrd (sUn M 18) (kuf M 18 b) P n → ∀ s, s = unF (fun i => M 20 (P i)) (fun i => M 21 (P i)) (fun i => M 22 (P i) * 64 + M 20 (P i) / b) b (M 13 4) n.toNat → (w = 0 → Q (some (vi s.2.2.1)) M') ∧ (w = 1 → Q (some (vi s.2.2.2.1)) M') ∧ (w = 2 → Q (some (vi s.2.2.2.2)) M') ∧ ((w < 0 ∨ 2 < w) → Q (some (vi (-1))) M'))
  | _ => False
set_option maxHeartbeats 4000000 in
set_option maxRecDepth 100000 in
theorem p_P_adds : ∀ as M Q, (∀ v ∈ as, mm_vin v) → mm_mem M → t_P_adds as M Q → (mm_ent as).length ≤ 3 ∧ mm_ok mb_P_adds [(1031, t_P_isBlock), (801, t_Und_lay), (802, t_Und_follow)] (mm_entry 3 as) M Q := by
  intro as M Q hin hM h
  unfold t_P_adds at h
  split at h
  rotate_left
  · exact h.elim
  rename_i o b w
  have hR_b : mm_R b := hin (vi b) (by simp)
  have hR_w : mm_R w := hin (vi w) (by simp)
  refine ⟨by simp [mm_ent], (show mm_ok mb_P_adds [(1031, t_P_isBlock), (801, t_Und_lay), (802, t_Und_follow)] [some (vr o), some (vi b), some (vi w)] M Q from ?_)⟩
  intro J hJ
  obtain ⟨rfl, hr, hq, hN, hY⟩ := h
  have hq25 : quI M 25 := ⟨hq.1, by have := hq.2.1; omega, hq.2.2⟩
  have hB := quB hr hq25
  have h9 : (1 ≤ b ∧ b ≤ 60) → J 9 [some (vr 0), some (vi b), some (vi w)] [] M := by
    intro hk
    refine hJ 9 _ _ _ (show mm_wp _ _ _ mo_P_adds_9 _ _ _ from ?_)
    simp only [mo_P_adds_9, mm_wp, mm_ldi, mm_lda, mm_ldl, mm_sti, mm_sta, mm_stl, mm_inc, mm_2i, mm_mm, mm_2l, mm_lcmp, mm_i2l, mm_l2i, mm_cast8, mm_if1, mm_if2, mm_cmp, mm_swi, mm_sw, mm_pop1, mm_dup, mm_dup2, mm_geti, mm_geta, mm_puti, mm_iald, mm_bald, mm_aald, mm_iast, mm_bast, mm_alen, mm_acpy, mm_call, mm_callv, mm_recv, mm_pop, mm_find, mm_push, mm_cats, mm_cat, mm_reti, mm_retz, mm_retl, mm_reta, mm_retv, mm_set1, mm_set2, mm_kill, List.getElem?_cons_zero, List.getElem?_cons_succ, Int.reduceToNat, ↓reduceIte, Nat.reduceEqDiff, Nat.reduceDiv, Nat.reduceAdd, Nat.reduceLeDiff, Nat.zero_le, true_and, and_true, true_or, or_true, mm_b0, mm_b1, mm_lc_lt, mm_lc_le, mm_lc_gt, mm_lc_ge, mm_lc_eq, Int.not_lt, Int.not_le, Decidable.not_not, Int.sub_neg, c_0, c_1, c_2, l_2, c_3, c_4, l_4, c_5, l_5, c_6, l_6, c_7, l_7, c_8, c_9, l_9, c_10, l_10, c_11, l_11, c_12, l_12, c_13, c_14, l_14, c_15, l_15, c_16, l_16, c_17, l_17, c_18, c_19, l_19, c_20, l_20, c_21, l_21, c_22, l_22, c_23, c_24, l_24, c_25, l_25, c_26, c_27, c_28, l_28, c_29, c_30, l_30, c_31, c_32, l_32, c_33, l_33, c_34, l_34, c_35, l_35, c_36, l_36, c_37, l_37, c_38, l_38, c_39, l_39, c_40, c_41, l_41, c_42, c_43, c_44, l_44, c_45, c_46, l_46, c_47, c_48, l_48, c_49, l_49, c_50, l_50, c_51, l_51, c_52, l_52, c_53, l_53, c_54, l_54, c_55, l_55, c_56, l_56, c_57, l_57, c_58, l_58, c_59, l_59, c_60, l_60, c_61, l_61, c_62, c_63, l_63, c_64, l_64, c_65, l_65, c_66, l_66, c_67, l_67, c_68, l_68, c_69, l_69, c_70, l_70, c_71, l_71, c_72, l_72, c_73, l_73, c_74, l_74, c_75, l_75, c_76, l_76, t_Und_lay, t_Und_follow]
    refine ⟨hB, hk.1, hk.2, fun M1 f1 n1 k1 => ?_⟩
    have fl : ∀ o, o < 26 → M1 o = M o := fun o ho => f1 o (by omega) (by omega)
    have hb := hB.2.1
    have eS : sUn M1 18 = sUn M 18 := by
      funext q
      show (0 ≤ q ∧ q < M1 18 4 ∧ ¬ (¬ M1 19 q = 2 ∧ ¬ M1 19 q = 3 ∧ ¬ M1 19 q = 6)) = (0 ≤ q ∧ q < M 18 4 ∧ ¬ (¬ M 19 q = 2 ∧ ¬ M 19 q = 3 ∧ ¬ M 19 q = 6))
      rw [fl 18 (by decide), fl 19 (by decide)]
    have eK : kuf M1 18 b = kuf M 18 b := by
      funext q
      show ((M1 22 q * 64 + M1 20 q / b) * 64 + M1 21 q) * 32 + q = ((M 22 q * 64 + M 20 q / b) * 64 + M 21 q) * 32 + q
      rw [fl 20 (by decide), fl 21 (by decide), fl 22 (by decide)]
    have hqc := hq.2.2
    rw [eS, eK, fl 13 (by decide), fl 18 (by decide), fl 20 (by decide), fl 21 (by decide), fl 22 (by decide)]
    refine ⟨qB_c fl hB, hk.1, hk.2, hr.1, hr.2.1, by omega, k1, fun q q0 q1 => ⟨(hqc q q0 q1).2.2.2.1, (hqc q q0 q1).2.2.2.2.1⟩, fun M2 s f2 hs a1 a2 a3 => ?_⟩
    obtain ⟨y0, y1, y2, y3⟩ := hY hk M2 (fun j => (M1 44 j).tmod 32) (M1 43 1) (fun o' c1 c2 c3 => by rw [f2 o' c1, f1 o' c2 c3]) k1.1 s hs
    rw [← a1] at y0
    rw [← a2] at y1
    rw [← a3] at y2
    repeat' first | (refine And.intro ?_ ?_) | (intro _) | (refine hJ 68 _ _ _ ?_; show mm_wp _ _ _ mo_P_adds_68 _ _ _; simp only [mo_P_adds_68, mm_wp, mm_ldi, mm_lda, mm_ldl, mm_sti, mm_sta, mm_stl, mm_inc, mm_2i, mm_mm, mm_2l, mm_lcmp, mm_i2l, mm_l2i, mm_cast8, mm_if1, mm_if2, mm_cmp, mm_swi, mm_sw, mm_pop1, mm_dup, mm_dup2, mm_geti, mm_geta, mm_puti, mm_iald, mm_bald, mm_aald, mm_iast, mm_bast, mm_alen, mm_acpy, mm_call, mm_callv, mm_recv, mm_pop, mm_find, mm_push, mm_cats, mm_cat, mm_reti, mm_retz, mm_retl, mm_reta, mm_retv, mm_set1, mm_set2, mm_kill, List.getElem?_cons_zero, List.getElem?_cons_succ, Int.reduceToNat, ↓reduceIte, Nat.reduceEqDiff, Nat.reduceDiv, Nat.reduceAdd, Nat.reduceLeDiff, Nat.zero_le, true_and, and_true, true_or, or_true, mm_b0, mm_b1, mm_lc_lt, mm_lc_le, mm_lc_gt, mm_lc_ge, mm_lc_eq, Int.not_lt, Int.not_le, Decidable.not_not, Int.sub_neg, c_0, c_1, c_2, l_2, c_3, c_4, l_4, c_5, l_5, c_6, l_6, c_7, l_7, c_8, c_9, l_9, c_10, l_10, c_11, l_11, c_12, l_12, c_13, c_14, l_14, c_15, l_15, c_16, l_16, c_17, l_17, c_18, c_19, l_19, c_20, l_20, c_21, l_21, c_22, l_22, c_23, c_24, l_24, c_25, l_25, c_26, c_27, c_28, l_28, c_29, c_30, l_30, c_31, c_32, l_32, c_33, l_33, c_34, l_34, c_35, l_35, c_36, l_36, c_37, l_37, c_38, l_38, c_39, l_39, c_40, c_41, l_41, c_42, c_43, c_44, l_44, c_45, c_46, l_46, c_47, c_48, l_48, c_49, l_49, c_50, l_50, c_51, l_51, c_52, l_52, c_53, l_53, c_54, l_54, c_55, l_55, c_56, l_56, c_57, l_57, c_58, l_58, c_59, l_59, c_60, l_60, c_61, l_61, c_62, c_63, l_63, c_64, l_64, c_65, l_65, c_66, l_66, c_67, l_67, c_68, l_68, c_69, l_69, c_70, l_70, c_71, l_71, c_72, l_72, c_73, l_73, c_74, l_74, c_75, l_75, c_76, l_76]) | (refine hJ 76 _ _ _ ?_; show mm_wp _ _ _ mo_P_adds_76 _ _ _; simp only [mo_P_adds_76, mm_wp, mm_ldi, mm_lda, mm_ldl, mm_sti, mm_sta, mm_stl, mm_inc, mm_2i, mm_mm, mm_2l, mm_lcmp, mm_i2l, mm_l2i, mm_cast8, mm_if1, mm_if2, mm_cmp, mm_swi, mm_sw, mm_pop1, mm_dup, mm_dup2, mm_geti, mm_geta, mm_puti, mm_iald, mm_bald, mm_aald, mm_iast, mm_bast, mm_alen, mm_acpy, mm_call, mm_callv, mm_recv, mm_pop, mm_find, mm_push, mm_cats, mm_cat, mm_reti, mm_retz, mm_retl, mm_reta, mm_retv, mm_set1, mm_set2, mm_kill, List.getElem?_cons_zero, List.getElem?_cons_succ, Int.reduceToNat, ↓reduceIte, Nat.reduceEqDiff, Nat.reduceDiv, Nat.reduceAdd, Nat.reduceLeDiff, Nat.zero_le, true_and, and_true, true_or, or_true, mm_b0, mm_b1, mm_lc_lt, mm_lc_le, mm_lc_gt, mm_lc_ge, mm_lc_eq, Int.not_lt, Int.not_le, Decidable.not_not, Int.sub_neg, c_0, c_1, c_2, l_2, c_3, c_4, l_4, c_5, l_5, c_6, l_6, c_7, l_7, c_8, c_9, l_9, c_10, l_10, c_11, l_11, c_12, l_12, c_13, c_14, l_14, c_15, l_15, c_16, l_16, c_17, l_17, c_18, c_19, l_19, c_20, l_20, c_21, l_21, c_22, l_22, c_23, c_24, l_24, c_25, l_25, c_26, c_27, c_28, l_28, c_29, c_30, l_30, c_31, c_32, l_32, c_33, l_33, c_34, l_34, c_35, l_35, c_36, l_36, c_37, l_37, c_38, l_38, c_39, l_39, c_40, c_41, l_41, c_42, c_43, c_44, l_44, c_45, c_46, l_46, c_47, c_48, l_48, c_49, l_49, c_50, l_50, c_51, l_51, c_52, l_52, c_53, l_53, c_54, l_54, c_55, l_55, c_56, l_56, c_57, l_57, c_58, l_58, c_59, l_59, c_60, l_60, c_61, l_61, c_62, c_63, l_63, c_64, l_64, c_65, l_65, c_66, l_66, c_67, l_67, c_68, l_68, c_69, l_69, c_70, l_70, c_71, l_71, c_72, l_72, c_73, l_73, c_74, l_74, c_75, l_75, c_76, l_76]) | (refine hJ 84 _ _ _ ?_; show mm_wp _ _ _ mo_P_adds_84 _ _ _; simp only [mo_P_adds_84, mm_wp, mm_ldi, mm_lda, mm_ldl, mm_sti, mm_sta, mm_stl, mm_inc, mm_2i, mm_mm, mm_2l, mm_lcmp, mm_i2l, mm_l2i, mm_cast8, mm_if1, mm_if2, mm_cmp, mm_swi, mm_sw, mm_pop1, mm_dup, mm_dup2, mm_geti, mm_geta, mm_puti, mm_iald, mm_bald, mm_aald, mm_iast, mm_bast, mm_alen, mm_acpy, mm_call, mm_callv, mm_recv, mm_pop, mm_find, mm_push, mm_cats, mm_cat, mm_reti, mm_retz, mm_retl, mm_reta, mm_retv, mm_set1, mm_set2, mm_kill, List.getElem?_cons_zero, List.getElem?_cons_succ, Int.reduceToNat, ↓reduceIte, Nat.reduceEqDiff, Nat.reduceDiv, Nat.reduceAdd, Nat.reduceLeDiff, Nat.zero_le, true_and, and_true, true_or, or_true, mm_b0, mm_b1, mm_lc_lt, mm_lc_le, mm_lc_gt, mm_lc_ge, mm_lc_eq, Int.not_lt, Int.not_le, Decidable.not_not, Int.sub_neg, c_0, c_1, c_2, l_2, c_3, c_4, l_4, c_5, l_5, c_6, l_6, c_7, l_7, c_8, c_9, l_9, c_10, l_10, c_11, l_11, c_12, l_12, c_13, c_14, l_14, c_15, l_15, c_16, l_16, c_17, l_17, c_18, c_19, l_19, c_20, l_20, c_21, l_21, c_22, l_22, c_23, c_24, l_24, c_25, l_25, c_26, c_27, c_28, l_28, c_29, c_30, l_30, c_31, c_32, l_32, c_33, l_33, c_34, l_34, c_35, l_35, c_36, l_36, c_37, l_37, c_38, l_38, c_39, l_39, c_40, c_41, l_41, c_42, c_43, c_44, l_44, c_45, c_46, l_46, c_47, c_48, l_48, c_49, l_49, c_50, l_50, c_51, l_51, c_52, l_52, c_53, l_53, c_54, l_54, c_55, l_55, c_56, l_56, c_57, l_57, c_58, l_58, c_59, l_59, c_60, l_60, c_61, l_61, c_62, c_63, l_63, c_64, l_64, c_65, l_65, c_66, l_66, c_67, l_67, c_68, l_68, c_69, l_69, c_70, l_70, c_71, l_71, c_72, l_72, c_73, l_73, c_74, l_74, c_75, l_75, c_76, l_76]) | (refine hJ 92 _ _ _ ?_; show mm_wp _ _ _ mo_P_adds_92 _ _ _; simp only [mo_P_adds_92, mm_wp, mm_ldi, mm_lda, mm_ldl, mm_sti, mm_sta, mm_stl, mm_inc, mm_2i, mm_mm, mm_2l, mm_lcmp, mm_i2l, mm_l2i, mm_cast8, mm_if1, mm_if2, mm_cmp, mm_swi, mm_sw, mm_pop1, mm_dup, mm_dup2, mm_geti, mm_geta, mm_puti, mm_iald, mm_bald, mm_aald, mm_iast, mm_bast, mm_alen, mm_acpy, mm_call, mm_callv, mm_recv, mm_pop, mm_find, mm_push, mm_cats, mm_cat, mm_reti, mm_retz, mm_retl, mm_reta, mm_retv, mm_set1, mm_set2, mm_kill, List.getElem?_cons_zero, List.getElem?_cons_succ, Int.reduceToNat, ↓reduceIte, Nat.reduceEqDiff, Nat.reduceDiv, Nat.reduceAdd, Nat.reduceLeDiff, Nat.zero_le, true_and, and_true, true_or, or_true, mm_b0, mm_b1, mm_lc_lt, mm_lc_le, mm_lc_gt, mm_lc_ge, mm_lc_eq, Int.not_lt, Int.not_le, Decidable.not_not, Int.sub_neg, c_0, c_1, c_2, l_2, c_3, c_4, l_4, c_5, l_5, c_6, l_6, c_7, l_7, c_8, c_9, l_9, c_10, l_10, c_11, l_11, c_12, l_12, c_13, c_14, l_14, c_15, l_15, c_16, l_16, c_17, l_17, c_18, c_19, l_19, c_20, l_20, c_21, l_21, c_22, l_22, c_23, c_24, l_24, c_25, l_25, c_26, c_27, c_28, l_28, c_29, c_30, l_30, c_31, c_32, l_32, c_33, l_33, c_34, l_34, c_35, l_35, c_36, l_36, c_37, l_37, c_38, l_38, c_39, l_39, c_40, c_41, l_41, c_42, c_43, c_44, l_44, c_45, c_46, l_46, c_47, c_48, l_48, c_49, l_49, c_50, l_50, c_51, l_51, c_52, l_52, c_53, l_53, c_54, l_54, c_55, l_55, c_56, l_56, c_57, l_57, c_58, l_58, c_59, l_59, c_60, l_60, c_61, l_61, c_62, c_63, l_63, c_64, l_64, c_65, l_65, c_66, l_66, c_67, l_67, c_68, l_68, c_69, l_69, c_70, l_70, c_71, l_71, c_72, l_72, c_73, l_73, c_74, l_74, c_75, l_75, c_76, l_76])
    all_goals first | assumption | (exact Or.inl rfl) | (exact Or.inr rfl) | (exact rfl) | trivial | omega | (exact y0 (by omega)) | (exact y1 (by omega)) | (exact y2 (by omega)) | (exact y3 (by omega))
  refine hJ 0 _ _ _ (show mm_wp _ _ _ mo_P_adds_0 _ _ _ from ?_)
  simp only [mo_P_adds_0, mm_wp, mm_ldi, mm_lda, mm_ldl, mm_sti, mm_sta, mm_stl, mm_inc, mm_2i, mm_mm, mm_2l, mm_lcmp, mm_i2l, mm_l2i, mm_cast8, mm_if1, mm_if2, mm_cmp, mm_swi, mm_sw, mm_pop1, mm_dup, mm_dup2, mm_geti, mm_geta, mm_puti, mm_iald, mm_bald, mm_aald, mm_iast, mm_bast, mm_alen, mm_acpy, mm_call, mm_callv, mm_recv, mm_pop, mm_find, mm_push, mm_cats, mm_cat, mm_reti, mm_retz, mm_retl, mm_reta, mm_retv, mm_set1, mm_set2, mm_kill, List.getElem?_cons_zero, List.getElem?_cons_succ, Int.reduceToNat, ↓reduceIte, Nat.reduceEqDiff, Nat.reduceDiv, Nat.reduceAdd, Nat.reduceLeDiff, Nat.zero_le, true_and, and_true, true_or, or_true, mm_b0, mm_b1, mm_lc_lt, mm_lc_le, mm_lc_gt, mm_lc_ge, mm_lc_eq, Int.not_lt, Int.not_le, Decidable.not_not, Int.sub_neg, c_0, c_1, c_2, l_2, c_3, c_4, l_4, c_5, l_5, c_6, l_6, c_7, l_7, c_8, c_9, l_9, c_10, l_10, c_11, l_11, c_12, l_12, c_13, c_14, l_14, c_15, l_15, c_16, l_16, c_17, l_17, c_18, c_19, l_19, c_20, l_20, c_21, l_21, c_22, l_22, c_23, c_24, l_24, c_25, l_25, c_26, c_27, c_28, l_28, c_29, c_30, l_30, c_31, c_32, l_32, c_33, l_33, c_34, l_34, c_35, l_35, c_36, l_36, c_37, l_37, c_38, l_38, c_39, l_39, c_40, c_41, l_41, c_42, c_43, c_44, l_44, c_45, c_46, l_46, c_47, c_48, l_48, c_49, l_49, c_50, l_50, c_51, l_51, c_52, l_52, c_53, l_53, c_54, l_54, c_55, l_55, c_56, l_56, c_57, l_57, c_58, l_58, c_59, l_59, c_60, l_60, c_61, l_61, c_62, c_63, l_63, c_64, l_64, c_65, l_65, c_66, l_66, c_67, l_67, c_68, l_68, c_69, l_69, c_70, l_70, c_71, l_71, c_72, l_72, c_73, l_73, c_74, l_74, c_75, l_75, c_76, l_76, t_P_isBlock]
  exact ⟨fun z => h9 z, fun z => hN z⟩
