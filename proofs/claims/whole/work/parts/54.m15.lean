/-! the reference: undone, adds -/
def t_M_undone : mmT := fun as M Q => match as with
  | [.inr (.inr o), .inl b, .inl i] => o = 62 ∧ mqB M ∧ (¬ ((1 ≤ b ∧ b ≤ 60) ∧ -1 ≤ i) → Q (some (vi (-1))) (tz M)) ∧ (((1 ≤ b ∧ b ≤ 60) ∧ -1 ≤ i) → ∀ M' P n, plG M M' → isOrd (mU M) (uwt M b) P n → Q (some (vi (if i = -1 then n else if 0 ≤ i ∧ i < n then P i else -1))) M')
  | _ => False
theorem plG_u {M M' : mmM} (h : plG M M') (b : Int) : uwt M' b = uwt M b := by
  obtain ⟨a, bb, c, d, e⟩ := plG_v h
  funext q
  unfold uwt
  rw [c, d, e]
theorem plG_U {M M' : mmM} (h : plG M M') : mU M' = mU M := by
  obtain ⟨a, bb, c, d, e⟩ := plG_v h
  funext q
  unfold mU
  rw [a, bb]
set_option maxHeartbeats 4000000 in
set_option maxRecDepth 100000 in
theorem p_M_undone : ∀ as M Q, (∀ v ∈ as, mm_vin v) → mm_mem M → t_M_undone as M Q → (mm_ent as).length ≤ 3 ∧ mm_ok mb_M_undone [(1102, t_M_within), (1177, t_M_laysUndone)] (mm_entry 3 as) M Q := by
  intro as M Q hin hM h
  unfold t_M_undone at h
  split at h
  rotate_left
  · exact h.elim
  rename_i o b i
  have hR_b : mm_R b := hin (vi b) (by simp)
  have hR_i : mm_R i := hin (vi i) (by simp)
  refine ⟨by simp [mm_ent], (show mm_ok mb_M_undone [(1102, t_M_within), (1177, t_M_laysUndone)] [some (vr o), some (vi b), some (vi i)] M Q from ?_)⟩
  intro J hJ
  obtain ⟨rfl, hB, hN, hY⟩ := h
  have hG := plG_tz M
  have g8 := hG.2 8 (by decide) (by decide) (by decide) (by decide) (by decide)
  have hn := hB.2.1
  have h22 : ¬ ((1 ≤ b ∧ b ≤ 60) ∧ -1 ≤ i) → J 22 [some (vr 62), some (vi b), some (vi i)] [] (tz M) := by
    intro hc
    refine hJ 22 _ _ _ (show mm_wp _ _ _ mo_M_undone_22 _ _ _ from ?_)
    simp only [mo_M_undone_22, mm_wp, mm_ldi, mm_lda, mm_ldl, mm_sti, mm_sta, mm_stl, mm_inc, mm_2i, mm_mm, mm_2l, mm_lcmp, mm_i2l, mm_l2i, mm_cast8, mm_if1, mm_if2, mm_cmp, mm_swi, mm_sw, mm_pop1, mm_dup, mm_dup2, mm_geti, mm_geta, mm_puti, mm_iald, mm_bald, mm_aald, mm_iast, mm_bast, mm_alen, mm_acpy, mm_call, mm_callv, mm_recv, mm_pop, mm_find, mm_push, mm_cats, mm_cat, mm_reti, mm_retz, mm_retl, mm_reta, mm_retv, mm_set1, mm_set2, mm_kill, List.getElem?_cons_zero, List.getElem?_cons_succ, Int.reduceToNat, ↓reduceIte, Nat.reduceEqDiff, Nat.reduceDiv, Nat.reduceAdd, Nat.reduceLeDiff, Nat.zero_le, true_and, and_true, true_or, or_true, mm_b0, mm_b1, mm_lc_lt, mm_lc_le, mm_lc_gt, mm_lc_ge, mm_lc_eq, Int.not_lt, Int.not_le, Decidable.not_not, Int.sub_neg]
    exact hN hc
  have h24 : ((1 ≤ b ∧ b ≤ 60) ∧ -1 ≤ i) → J 24 [some (vr 62), some (vi b), some (vi i)] [] (tz M) := by
    intro hc
    have hY := hY hc
    refine hJ 24 _ _ _ (show mm_wp _ _ _ mo_M_undone_24 _ _ _ from ?_)
    simp only [mo_M_undone_24, mm_wp, mm_ldi, mm_lda, mm_ldl, mm_sti, mm_sta, mm_stl, mm_inc, mm_2i, mm_mm, mm_2l, mm_lcmp, mm_i2l, mm_l2i, mm_cast8, mm_if1, mm_if2, mm_cmp, mm_swi, mm_sw, mm_pop1, mm_dup, mm_dup2, mm_geti, mm_geta, mm_puti, mm_iald, mm_bald, mm_aald, mm_iast, mm_bast, mm_alen, mm_acpy, mm_call, mm_callv, mm_recv, mm_pop, mm_find, mm_push, mm_cats, mm_cat, mm_reti, mm_retz, mm_retl, mm_reta, mm_retv, mm_set1, mm_set2, mm_kill, List.getElem?_cons_zero, List.getElem?_cons_succ, Int.reduceToNat, ↓reduceIte, Nat.reduceEqDiff, Nat.reduceDiv, Nat.reduceAdd, Nat.reduceLeDiff, Nat.zero_le, true_and, and_true, true_or, or_true, mm_b0, mm_b1, mm_lc_lt, mm_lc_le, mm_lc_gt, mm_lc_ge, mm_lc_eq, Int.not_lt, Int.not_le, Decidable.not_not, Int.sub_neg, c_0, c_1, c_2, l_2, c_3, c_4, l_4, c_5, l_5, c_6, l_6, c_7, l_7, c_8, c_9, l_9, c_10, l_10, c_11, l_11, c_12, l_12, c_13, c_14, l_14, c_15, l_15, c_16, l_16, c_17, l_17, c_18, c_19, l_19, c_20, l_20, c_21, l_21, c_22, l_22, c_23, c_24, l_24, c_25, l_25, c_26, c_27, c_28, l_28, c_29, c_30, l_30, c_31, c_32, l_32, c_33, l_33, c_34, l_34, c_35, l_35, c_36, l_36, c_37, l_37, c_38, l_38, c_39, l_39, c_40, c_41, l_41, c_42, c_43, c_44, l_44, c_45, c_46, l_46, c_47, c_48, l_48, c_49, l_49, c_50, l_50, c_51, l_51, c_52, l_52, c_53, l_53, c_54, l_54, c_55, l_55, c_56, l_56, c_57, l_57, c_58, l_58, c_59, l_59, c_60, l_60, c_61, l_61, c_62, c_63, l_63, c_64, l_64, c_65, l_65, c_66, l_66, c_67, l_67, c_68, l_68, c_69, l_69, c_70, l_70, c_71, l_71, c_72, l_72, c_73, l_73, c_74, l_74, c_75, l_75, c_76, l_76, t_M_laysUndone]
    rw [plG_u hG, plG_U hG, g8]
    refine ⟨plG_B hG hB, by omega, by omega, fun M1 hp hor hle => ?_⟩
    have hq := hY M1 (M1 75) (M1 62 33) (plG_tr hG (plG_F hp)) hor
    have h59 : ∀ z, Q (some (vi z)) M1 → J 59 [some (vr 62), some (vi b), some (vi i)] [vi z] M1 := by
      intro z hz
      refine hJ 59 _ _ _ (show mm_wp _ _ _ mo_M_undone_59 _ _ _ from ?_)
      simp only [mo_M_undone_59, mm_wp, mm_ldi, mm_lda, mm_ldl, mm_sti, mm_sta, mm_stl, mm_inc, mm_2i, mm_mm, mm_2l, mm_lcmp, mm_i2l, mm_l2i, mm_cast8, mm_if1, mm_if2, mm_cmp, mm_swi, mm_sw, mm_pop1, mm_dup, mm_dup2, mm_geti, mm_geta, mm_puti, mm_iald, mm_bald, mm_aald, mm_iast, mm_bast, mm_alen, mm_acpy, mm_call, mm_callv, mm_recv, mm_pop, mm_find, mm_push, mm_cats, mm_cat, mm_reti, mm_retz, mm_retl, mm_reta, mm_retv, mm_set1, mm_set2, mm_kill, List.getElem?_cons_zero, List.getElem?_cons_succ, Int.reduceToNat, ↓reduceIte, Nat.reduceEqDiff, Nat.reduceDiv, Nat.reduceAdd, Nat.reduceLeDiff, Nat.zero_le, true_and, and_true, true_or, or_true, mm_b0, mm_b1, mm_lc_lt, mm_lc_le, mm_lc_gt, mm_lc_ge, mm_lc_eq, Int.not_lt, Int.not_le, Decidable.not_not, Int.sub_neg]
      exact hz
    have h58 : ¬ i = -1 → M1 62 33 ≤ i → J 58 [some (vr 62), some (vi b), some (vi i)] [] M1 := by
      intro z1 z2
      rw [if_neg z1, if_neg (by omega)] at hq
      refine hJ 58 _ _ _ (show mm_wp _ _ _ mo_M_undone_58 _ _ _ from ?_)
      simp only [mo_M_undone_58, mm_wp, mm_ldi, mm_lda, mm_ldl, mm_sti, mm_sta, mm_stl, mm_inc, mm_2i, mm_mm, mm_2l, mm_lcmp, mm_i2l, mm_l2i, mm_cast8, mm_if1, mm_if2, mm_cmp, mm_swi, mm_sw, mm_pop1, mm_dup, mm_dup2, mm_geti, mm_geta, mm_puti, mm_iald, mm_bald, mm_aald, mm_iast, mm_bast, mm_alen, mm_acpy, mm_call, mm_callv, mm_recv, mm_pop, mm_find, mm_push, mm_cats, mm_cat, mm_reti, mm_retz, mm_retl, mm_reta, mm_retv, mm_set1, mm_set2, mm_kill, List.getElem?_cons_zero, List.getElem?_cons_succ, Int.reduceToNat, ↓reduceIte, Nat.reduceEqDiff, Nat.reduceDiv, Nat.reduceAdd, Nat.reduceLeDiff, Nat.zero_le, true_and, and_true, true_or, or_true, mm_b0, mm_b1, mm_lc_lt, mm_lc_le, mm_lc_gt, mm_lc_ge, mm_lc_eq, Int.not_lt, Int.not_le, Decidable.not_not, Int.sub_neg]
      exact h59 _ hq
    have h41 : ¬ i = -1 → J 41 [some (vr 62), some (vi b), some (vi i)] [] M1 := by
      intro z1
      refine hJ 41 _ _ _ (show mm_wp _ _ _ mo_M_undone_41 _ _ _ from ?_)
      simp only [mo_M_undone_41, mm_wp, mm_ldi, mm_lda, mm_ldl, mm_sti, mm_sta, mm_stl, mm_inc, mm_2i, mm_mm, mm_2l, mm_lcmp, mm_i2l, mm_l2i, mm_cast8, mm_if1, mm_if2, mm_cmp, mm_swi, mm_sw, mm_pop1, mm_dup, mm_dup2, mm_geti, mm_geta, mm_puti, mm_iald, mm_bald, mm_aald, mm_iast, mm_bast, mm_alen, mm_acpy, mm_call, mm_callv, mm_recv, mm_pop, mm_find, mm_push, mm_cats, mm_cat, mm_reti, mm_retz, mm_retl, mm_reta, mm_retv, mm_set1, mm_set2, mm_kill, List.getElem?_cons_zero, List.getElem?_cons_succ, Int.reduceToNat, ↓reduceIte, Nat.reduceEqDiff, Nat.reduceDiv, Nat.reduceAdd, Nat.reduceLeDiff, Nat.zero_le, true_and, and_true, true_or, or_true, mm_b0, mm_b1, mm_lc_lt, mm_lc_le, mm_lc_gt, mm_lc_ge, mm_lc_eq, Int.not_lt, Int.not_le, Decidable.not_not, Int.sub_neg, c_0, c_1, c_2, l_2, c_3, c_4, l_4, c_5, l_5, c_6, l_6, c_7, l_7, c_8, c_9, l_9, c_10, l_10, c_11, l_11, c_12, l_12, c_13, c_14, l_14, c_15, l_15, c_16, l_16, c_17, l_17, c_18, c_19, l_19, c_20, l_20, c_21, l_21, c_22, l_22, c_23, c_24, l_24, c_25, l_25, c_26, c_27, c_28, l_28, c_29, c_30, l_30, c_31, c_32, l_32, c_33, l_33, c_34, l_34, c_35, l_35, c_36, l_36, c_37, l_37, c_38, l_38, c_39, l_39, c_40, c_41, l_41, c_42, c_43, c_44, l_44, c_45, c_46, l_46, c_47, c_48, l_48, c_49, l_49, c_50, l_50, c_51, l_51, c_52, l_52, c_53, l_53, c_54, l_54, c_55, l_55, c_56, l_56, c_57, l_57, c_58, l_58, c_59, l_59, c_60, l_60, c_61, l_61, c_62, c_63, l_63, c_64, l_64, c_65, l_65, c_66, l_66, c_67, l_67, c_68, l_68, c_69, l_69, c_70, l_70, c_71, l_71, c_72, l_72, c_73, l_73, c_74, l_74, c_75, l_75, c_76, l_76]
      refine ⟨fun z2 => h58 z1 z2, fun z2 => ⟨by omega, h59 _ ?_⟩⟩
      rw [if_neg z1, if_pos (by omega)] at hq
      exact hq
    refine ⟨fun z => h41 z, fun z => h59 _ ?_⟩
    rw [if_pos z] at hq
    exact hq
  refine hJ 0 _ _ _ (show mm_wp _ _ _ mo_M_undone_0 _ _ _ from ?_)
  simp only [mo_M_undone_0, mm_wp, mm_ldi, mm_lda, mm_ldl, mm_sti, mm_sta, mm_stl, mm_inc, mm_2i, mm_mm, mm_2l, mm_lcmp, mm_i2l, mm_l2i, mm_cast8, mm_if1, mm_if2, mm_cmp, mm_swi, mm_sw, mm_pop1, mm_dup, mm_dup2, mm_geti, mm_geta, mm_puti, mm_iald, mm_bald, mm_aald, mm_iast, mm_bast, mm_alen, mm_acpy, mm_call, mm_callv, mm_recv, mm_pop, mm_find, mm_push, mm_cats, mm_cat, mm_reti, mm_retz, mm_retl, mm_reta, mm_retv, mm_set1, mm_set2, mm_kill, List.getElem?_cons_zero, List.getElem?_cons_succ, Int.reduceToNat, ↓reduceIte, Nat.reduceEqDiff, Nat.reduceDiv, Nat.reduceAdd, Nat.reduceLeDiff, Nat.zero_le, true_and, and_true, true_or, or_true, mm_b0, mm_b1, mm_lc_lt, mm_lc_le, mm_lc_gt, mm_lc_ge, mm_lc_eq, Int.not_lt, Int.not_le, Decidable.not_not, Int.sub_neg, c_0, c_1, c_2, l_2, c_3, c_4, l_4, c_5, l_5, c_6, l_6, c_7, l_7, c_8, c_9, l_9, c_10, l_10, c_11, l_11, c_12, l_12, c_13, c_14, l_14, c_15, l_15, c_16, l_16, c_17, l_17, c_18, c_19, l_19, c_20, l_20, c_21, l_21, c_22, l_22, c_23, c_24, l_24, c_25, l_25, c_26, c_27, c_28, l_28, c_29, c_30, l_30, c_31, c_32, l_32, c_33, l_33, c_34, l_34, c_35, l_35, c_36, l_36, c_37, l_37, c_38, l_38, c_39, l_39, c_40, c_41, l_41, c_42, c_43, c_44, l_44, c_45, c_46, l_46, c_47, c_48, l_48, c_49, l_49, c_50, l_50, c_51, l_51, c_52, l_52, c_53, l_53, c_54, l_54, c_55, l_55, c_56, l_56, c_57, l_57, c_58, l_58, c_59, l_59, c_60, l_60, c_61, l_61, c_62, c_63, l_63, c_64, l_64, c_65, l_65, c_66, l_66, c_67, l_67, c_68, l_68, c_69, l_69, c_70, l_70, c_71, l_71, c_72, l_72, c_73, l_73, c_74, l_74, c_75, l_75, c_76, l_76, t_M_within]
  exact ⟨fun z => h22 (by omega), fun z => ⟨fun z2 => h24 (by omega), fun z2 => h22 (by omega)⟩⟩
theorem un_nx {F L A : Int → Int} {b c : Int} : ∀ n : Nat, (∀ k : Nat, 0 < k → k < n + 1 → A k = A ((k : Int) - 1) → L ((k : Int) - 1) ≤ L k) → (unF F L A b c (n + 1)).1 ≤ (unF F L A b c (n + 1)).2.1 ∧ ((unF F L A b c (n + 1)).2.1 = (unF F L A b c (n + 1)).1 ∨ (unF F L A b c (n + 1)).1 ≤ L n) := by
  intro n
  induction n with
  | zero =>
    intro _
    simp only [unF]
    rw [if_neg (by omega)]
    simp only
    split <;> omega
  | succ n ih =>
    intro h
    have ih := ih (fun k k0 k1 => h k k0 (by omega))
    have hs : unF F L A b c (n + 1 + 1) = if 0 < ((n + 1 : Nat) : Int) ∧ A ((n + 1 : Nat) : Int) = A (((n + 1 : Nat) : Int) - 1) then _ else _ := rfl
    rw [hs]
    generalize unF F L A b c (n + 1) = s at *
    split
    · rename_i hc
      have := h (n + 1) (by omega) (by omega) hc.2
      rw [show ((n + 1 : Nat) : Int) - 1 = n by omega] at this
      simp only
      split <;> omega
    · simp only
      split <;> omega
def unS (M : mmM) (b : Int) (P : Int → Int) (n : Nat) : Int × Int × Int × Int × Int := unF (fun i => mf M (P i)) (fun i => ml M (P i)) (fun i => mt M (P i) * 64 + mf M (P i) / b) b (M 62 3) n
def t_M_adds : mmT := fun as M Q => match as with
  | [.inr (.inr o), .inl b, .inl w] => o = 62 ∧ mR M ∧ mQ M 24 ∧ mqB M ∧ (¬ ((1 ≤ b ∧ b ≤ 60) ∧ 0 ≤ w ∧ w ≤ 2) → Q (some (vi (-1))) (tz M)) ∧ (((1 ≤ b ∧ b ≤ 60) ∧ 0 ≤ w ∧ w ≤ 2) → ∀ M' P n, plG M M' → isOrd (mU M) (uwt M b) P n → (w = 0 → Q (some (vi (unS M b P n.toNat).2.2.1)) M') ∧ (w = 1 → Q (some (vi (unS M b P n.toNat).2.2.2.1)) M') ∧ (w = 2 → Q (some (vi (unS M b P n.toNat).2.2.2.2)) M'))
  | _ => False
set_option maxHeartbeats 4000000 in
set_option maxRecDepth 100000 in
theorem p_M_adds : ∀ as M Q, (∀ v ∈ as, mm_vin v) → mm_mem M → t_M_adds as M Q → (mm_ent as).length ≤ 16 ∧ mm_ok mb_M_adds [(1102, t_M_within), (1177, t_M_laysUndone)] (mm_entry 16 as) M Q := by
  intro as M Q hin hM h
  unfold t_M_adds at h
  split at h
  rotate_left
  · exact h.elim
  rename_i o b w
  have hR_b : mm_R b := hin (vi b) (by simp)
  have hR_w : mm_R w := hin (vi w) (by simp)
  refine ⟨by simp [mm_ent], (show mm_ok mb_M_adds [(1102, t_M_within), (1177, t_M_laysUndone)] [some (vr o), some (vi b), some (vi w), none, none, none, none, none, none, none, none, none, none, none, none, none] M Q from ?_)⟩
  intro J hJ
  obtain ⟨rfl, hr, hqq, hB, hN, hY⟩ := h
  have hG := plG_tz M
  have g8 := hG.2 8 (by decide) (by decide) (by decide) (by decide) (by decide)
  have hn := hB.2.1
  have r1 := hr.1
  have r2 := hr.2.1
  have h29 : ¬ ((1 ≤ b ∧ b ≤ 60) ∧ 0 ≤ w ∧ w ≤ 2) → J 29 [some (vr 62), some (vi b), some (vi w), none, none, none, none, none, none, none, none, none, none, none, none, none] [] (tz M) := by
    intro hc
    refine hJ 29 _ _ _ (show mm_wp _ _ _ mo_M_adds_29 _ _ _ from ?_)
    simp only [mo_M_adds_29, mm_wp, mm_ldi, mm_lda, mm_ldl, mm_sti, mm_sta, mm_stl, mm_inc, mm_2i, mm_mm, mm_2l, mm_lcmp, mm_i2l, mm_l2i, mm_cast8, mm_if1, mm_if2, mm_cmp, mm_swi, mm_sw, mm_pop1, mm_dup, mm_dup2, mm_geti, mm_geta, mm_puti, mm_iald, mm_bald, mm_aald, mm_iast, mm_bast, mm_alen, mm_acpy, mm_call, mm_callv, mm_recv, mm_pop, mm_find, mm_push, mm_cats, mm_cat, mm_reti, mm_retz, mm_retl, mm_reta, mm_retv, mm_set1, mm_set2, mm_kill, List.getElem?_cons_zero, List.getElem?_cons_succ, Int.reduceToNat, ↓reduceIte, Nat.reduceEqDiff, Nat.reduceDiv, Nat.reduceAdd, Nat.reduceLeDiff, Nat.zero_le, true_and, and_true, true_or, or_true, mm_b0, mm_b1, mm_lc_lt, mm_lc_le, mm_lc_gt, mm_lc_ge, mm_lc_eq, Int.not_lt, Int.not_le, Decidable.not_not, Int.sub_neg]
    exact hN hc
  have h31 : ((1 ≤ b ∧ b ≤ 60) ∧ 0 ≤ w ∧ w ≤ 2) → J 31 [some (vr 62), some (vi b), some (vi w), none, none, none, none, none, none, none, none, none, none, none, none, none] [] (tz M) := by
    intro hc
    have hY := hY hc
    obtain ⟨⟨b1, b2⟩, w1, w2⟩ := hc
    refine hJ 31 _ _ _ (show mm_wp _ _ _ mo_M_adds_31 _ _ _ from ?_)
    simp only [mo_M_adds_31, mm_wp, mm_ldi, mm_lda, mm_ldl, mm_sti, mm_sta, mm_stl, mm_inc, mm_2i, mm_mm, mm_2l, mm_lcmp, mm_i2l, mm_l2i, mm_cast8, mm_if1, mm_if2, mm_cmp, mm_swi, mm_sw, mm_pop1, mm_dup, mm_dup2, mm_geti, mm_geta, mm_puti, mm_iald, mm_bald, mm_aald, mm_iast, mm_bast, mm_alen, mm_acpy, mm_call, mm_callv, mm_recv, mm_pop, mm_find, mm_push, mm_cats, mm_cat, mm_reti, mm_retz, mm_retl, mm_reta, mm_retv, mm_set1, mm_set2, mm_kill, List.getElem?_cons_zero, List.getElem?_cons_succ, Int.reduceToNat, ↓reduceIte, Nat.reduceEqDiff, Nat.reduceDiv, Nat.reduceAdd, Nat.reduceLeDiff, Nat.zero_le, true_and, and_true, true_or, or_true, mm_b0, mm_b1, mm_lc_lt, mm_lc_le, mm_lc_gt, mm_lc_ge, mm_lc_eq, Int.not_lt, Int.not_le, Decidable.not_not, Int.sub_neg, c_0, c_1, c_2, l_2, c_3, c_4, l_4, c_5, l_5, c_6, l_6, c_7, l_7, c_8, c_9, l_9, c_10, l_10, c_11, l_11, c_12, l_12, c_13, c_14, l_14, c_15, l_15, c_16, l_16, c_17, l_17, c_18, c_19, l_19, c_20, l_20, c_21, l_21, c_22, l_22, c_23, c_24, l_24, c_25, l_25, c_26, c_27, c_28, l_28, c_29, c_30, l_30, c_31, c_32, l_32, c_33, l_33, c_34, l_34, c_35, l_35, c_36, l_36, c_37, l_37, c_38, l_38, c_39, l_39, c_40, c_41, l_41, c_42, c_43, c_44, l_44, c_45, c_46, l_46, c_47, c_48, l_48, c_49, l_49, c_50, l_50, c_51, l_51, c_52, l_52, c_53, l_53, c_54, l_54, c_55, l_55, c_56, l_56, c_57, l_57, c_58, l_58, c_59, l_59, c_60, l_60, c_61, l_61, c_62, c_63, l_63, c_64, l_64, c_65, l_65, c_66, l_66, c_67, l_67, c_68, l_68, c_69, l_69, c_70, l_70, c_71, l_71, c_72, l_72, c_73, l_73, c_74, l_74, c_75, l_75, c_76, l_76, t_M_laysUndone]
    rw [plG_u hG, plG_U hG, g8]
    refine ⟨plG_B hG hB, b1, b2, fun M1 hp hor hle => ?_⟩
    have f1 := plG_tr hG (plG_F hp)
    obtain ⟨e8, ek, ef, el, et⟩ := plG_v f1
    have e67 : M1 67 = M 67 := f1.1 67 (by decide) (by decide)
    have e3 : M1 62 3 = M 62 3 := f1.2 3 (by decide) (by decide) (by decide) (by decide) (by decide)
    have n0 := hor.1
    have hq := hY M1 (M1 75) (M1 62 33) f1 hor
    have hv : ∀ i, 0 ≤ i → i < M1 62 33 → (0 ≤ M1 75 i ∧ M1 75 i < M 62 8) ∧ (0 ≤ mf M (M1 75 i) ∧ mf M (M1 75 i) ≤ ml M (M1 75 i) ∧ ml M (M1 75 i) < M 62 3 ∧ 0 ≤ mt M (M1 75 i) ∧ mt M (M1 75 i) ≤ 32) := by
      intro i i0 i1
      have := hor.2.1 i i0 i1
      have h2 := hqq.2.2 _ this.1 this.2.1
      have h3 := hB.2.2 _ this.1 this.2.1
      exact ⟨⟨this.1, this.2.1⟩, h2.2.2.1, h2.2.2.2.1, h2.2.2.2.2.1, h3.2.2.2.2⟩
    have hdv : ∀ i, 0 ≤ i → i < M1 62 33 → 0 ≤ mf M (M1 75 i) / b ∧ mf M (M1 75 i) / b < 64 ∧ mf M (M1 75 i) / b * b ≤ mf M (M1 75 i) ∧ (mf M (M1 75 i)).tdiv b = mf M (M1 75 i) / b := by
      intro i i0 i1
      have h1 := hv i i0 i1
      obtain ⟨x1, x2, x3, x4⟩ := dB (b := b) h1.2.1 (by omega) b1
      exact ⟨x1, x2, Int.ediv_mul_le _ (by omega), x4⟩
    have hsort : ∀ k : Nat, 0 < k → (k : Int) < M1 62 33 → (fun i => mt M (M1 75 i) * 64 + mf M (M1 75 i) / b) k = (fun i => mt M (M1 75 i) * 64 + mf M (M1 75 i) / b) ((k : Int) - 1) → ml M (M1 75 ((k : Int) - 1)) ≤ ml M (M1 75 k) := by
      intro k k0 k1 he
      have h1 := hor.2.2.1 ((k : Int) - 1) k (by omega) (by omega) k1
      have v1 := hv ((k : Int) - 1) (by omega) (by omega)
      have v2 := hv k (by omega) (by omega)
      unfold uwt at h1
      simp only at he
      rw [he] at h1
      generalize mt M (M1 75 ((k : Int) - 1)) * 64 + mf M (M1 75 ((k : Int) - 1)) / b = z at h1
      omega
    have hub := fun k : Nat => fun hk : (k : Int) ≤ M1 62 33 => unF_b (F := fun i => mf M (M1 75 i)) (L := fun i => ml M (M1 75 i)) (A := fun i => mt M (M1 75 i) * 64 + mf M (M1 75 i) / b) (b := b) (c := M 62 3) b1 ⟨by omega, r2⟩ k (fun j hj => by
      have := hv j (by omega) (by omega)
      exact ⟨this.2.1, this.2.2.1, this.2.2.2.1⟩)
    have hnx := fun k : Nat => fun hk : ((k + 1 : Nat) : Int) ≤ M1 62 33 => un_nx (F := fun i => mf M (M1 75 i)) (L := fun i => ml M (M1 75 i)) (A := fun i => mt M (M1 75 i) * 64 + mf M (M1 75 i) / b) (b := b) (c := M 62 3) k (fun j j0 j1 => hsort j j0 (by omega))
    have hst : ∀ k : Nat, unS M b (M1 75) (k + 1) = if 0 < (k : Int) ∧ mt M (M1 75 k) * 64 + mf M (M1 75 k) / b = mt M (M1 75 ((k : Int) - 1)) * 64 + mf M (M1 75 ((k : Int) - 1)) / b then ((unS M b (M1 75) k).1, (if ml M (M1 75 k) < (unS M b (M1 75) k).1 then (unS M b (M1 75) k).2.1 else max (unS M b (M1 75) k).2.1 (ml M (M1 75 k) + 1)), (unS M b (M1 75) k).2.2.1 + (if ml M (M1 75 k) < (unS M b (M1 75) k).1 then ml M (M1 75 k) - mf M (M1 75 k) + 1 else max (unS M b (M1 75) k).2.1 (ml M (M1 75 k) + 1) - (unS M b (M1 75) k).2.1 + (unS M b (M1 75) k).1 - mf M (M1 75 k)), (unS M b (M1 75) k).2.2.2.1, max (unS M b (M1 75) k).2.2.2.2 (if ml M (M1 75 k) < (unS M b (M1 75) k).1 then ml M (M1 75 k) - mf M (M1 75 k) + 1 else max (unS M b (M1 75) k).2.1 (ml M (M1 75 k) + 1) - mf M (M1 75 k))) else (min (M 62 3) (mf M (M1 75 k) / b * b + b), (if ml M (M1 75 k) < min (M 62 3) (mf M (M1 75 k) / b * b + b) then min (M 62 3) (mf M (M1 75 k) / b * b + b) else max (min (M 62 3) (mf M (M1 75 k) / b * b + b)) (ml M (M1 75 k) + 1)), (unS M b (M1 75) k).2.2.1 + (if ml M (M1 75 k) < min (M 62 3) (mf M (M1 75 k) / b * b + b) then ml M (M1 75 k) - mf M (M1 75 k) + 1 else max (min (M 62 3) (mf M (M1 75 k) / b * b + b)) (ml M (M1 75 k) + 1) - min (M 62 3) (mf M (M1 75 k) / b * b + b) + min (M 62 3) (mf M (M1 75 k) / b * b + b) - mf M (M1 75 k)), (unS M b (M1 75) k).2.2.2.1 + 1, max (unS M b (M1 75) k).2.2.2.2 (if ml M (M1 75 k) < min (M 62 3) (mf M (M1 75 k) / b * b + b) then ml M (M1 75 k) - mf M (M1 75 k) + 1 else max (min (M 62 3) (mf M (M1 75 k) / b * b + b)) (ml M (M1 75 k) + 1) - mf M (M1 75 k))) := fun k => rfl
    have hub : ∀ k : Nat, (k : Int) ≤ M1 62 33 → 0 ≤ (unS M b (M1 75) k).1 ∧ (unS M b (M1 75) k).1 ≤ 60 ∧ 0 ≤ (unS M b (M1 75) k).2.1 ∧ (unS M b (M1 75) k).2.1 ≤ 61 ∧ -(200 * (k : Int)) ≤ (unS M b (M1 75) k).2.2.1 ∧ (unS M b (M1 75) k).2.2.1 ≤ 200 * k ∧ 0 ≤ (unS M b (M1 75) k).2.2.2.1 ∧ (unS M b (M1 75) k).2.2.2.1 ≤ k ∧ 0 ≤ (unS M b (M1 75) k).2.2.2.2 ∧ (unS M b (M1 75) k).2.2.2.2 ≤ 61 := hub
    have hnx : ∀ k : Nat, ((k + 1 : Nat) : Int) ≤ M1 62 33 → (unS M b (M1 75) (k + 1)).1 ≤ (unS M b (M1 75) (k + 1)).2.1 ∧ ((unS M b (M1 75) (k + 1)).2.1 = (unS M b (M1 75) (k + 1)).1 ∨ (unS M b (M1 75) (k + 1)).1 ≤ ml M (M1 75 k)) := hnx
    generalize hsf : unS M b (M1 75) = S at *
    have hl : ∀ (d k : Nat) (u v : Int) (x9 x10 x11 x12 x13 x14 x15 : Option mmV), (k : Int) + d = M1 62 33 → -1 ≤ u → u ≤ 100 → 0 ≤ v → v ≤ 100 → (0 < k → u = (S k).2.1 - 1 ∧ v = (S k).1) → J 53 [some (vr 62), some (vi b), some (vi w), some (vi (S k).2.2.1), some (vi (S k).2.2.2.1), some (vi (S k).2.2.2.2), some (vi u), some (vi v), some (vi k), x9, x10, x11, x12, x13, x14, x15] [] M1 := by
      intro d
      induction d with
      | zero =>
        intro k u v x9 x10 x11 x12 x13 x14 x15 hk u0 u1 v0 v1 huv
        have ekk : (M1 62 33).toNat = k := by omega
        rw [ekk] at hq
        obtain ⟨y0, y1, y2⟩ := hq
        generalize S k = s at *
        have h314 : ∀ z, Q (some (vi z)) M1 → J 314 [some (vr 62), some (vi b), some (vi w), some (vi s.2.2.1), some (vi s.2.2.2.1), some (vi s.2.2.2.2), some (vi u), some (vi v), some (vi k), x9, x10, x11, x12, x13, x14, x15] [vi z] M1 := by
          intro z hz
          refine hJ 314 _ _ _ (show mm_wp _ _ _ mo_M_adds_314 _ _ _ from ?_)
          simp only [mo_M_adds_314, mm_wp, mm_ldi, mm_lda, mm_ldl, mm_sti, mm_sta, mm_stl, mm_inc, mm_2i, mm_mm, mm_2l, mm_lcmp, mm_i2l, mm_l2i, mm_cast8, mm_if1, mm_if2, mm_cmp, mm_swi, mm_sw, mm_pop1, mm_dup, mm_dup2, mm_geti, mm_geta, mm_puti, mm_iald, mm_bald, mm_aald, mm_iast, mm_bast, mm_alen, mm_acpy, mm_call, mm_callv, mm_recv, mm_pop, mm_find, mm_push, mm_cats, mm_cat, mm_reti, mm_retz, mm_retl, mm_reta, mm_retv, mm_set1, mm_set2, mm_kill, List.getElem?_cons_zero, List.getElem?_cons_succ, Int.reduceToNat, ↓reduceIte, Nat.reduceEqDiff, Nat.reduceDiv, Nat.reduceAdd, Nat.reduceLeDiff, Nat.zero_le, true_and, and_true, true_or, or_true, mm_b0, mm_b1, mm_lc_lt, mm_lc_le, mm_lc_gt, mm_lc_ge, mm_lc_eq, Int.not_lt, Int.not_le, Decidable.not_not, Int.sub_neg]
          exact hz
        have h312 : w = 2 → J 312 [some (vr 62), some (vi b), some (vi w), some (vi s.2.2.1), some (vi s.2.2.2.1), some (vi s.2.2.2.2), some (vi u), some (vi v), some (vi k), x9, x10, x11, x12, x13, x14, x15] [] M1 := by
          intro hw
          refine hJ 312 _ _ _ (show mm_wp _ _ _ mo_M_adds_312 _ _ _ from ?_)
          simp only [mo_M_adds_312, mm_wp, mm_ldi, mm_lda, mm_ldl, mm_sti, mm_sta, mm_stl, mm_inc, mm_2i, mm_mm, mm_2l, mm_lcmp, mm_i2l, mm_l2i, mm_cast8, mm_if1, mm_if2, mm_cmp, mm_swi, mm_sw, mm_pop1, mm_dup, mm_dup2, mm_geti, mm_geta, mm_puti, mm_iald, mm_bald, mm_aald, mm_iast, mm_bast, mm_alen, mm_acpy, mm_call, mm_callv, mm_recv, mm_pop, mm_find, mm_push, mm_cats, mm_cat, mm_reti, mm_retz, mm_retl, mm_reta, mm_retv, mm_set1, mm_set2, mm_kill, List.getElem?_cons_zero, List.getElem?_cons_succ, Int.reduceToNat, ↓reduceIte, Nat.reduceEqDiff, Nat.reduceDiv, Nat.reduceAdd, Nat.reduceLeDiff, Nat.zero_le, true_and, and_true, true_or, or_true, mm_b0, mm_b1, mm_lc_lt, mm_lc_le, mm_lc_gt, mm_lc_ge, mm_lc_eq, Int.not_lt, Int.not_le, Decidable.not_not, Int.sub_neg]
          exact h314 _ (y2 hw)
        have h302 : ¬ w = 0 → J 302 [some (vr 62), some (vi b), some (vi w), some (vi s.2.2.1), some (vi s.2.2.2.1), some (vi s.2.2.2.2), some (vi u), some (vi v), some (vi k), x9, x10, x11, x12, x13, x14, x15] [] M1 := by
          intro hw
          refine hJ 302 _ _ _ (show mm_wp _ _ _ mo_M_adds_302 _ _ _ from ?_)
          simp only [mo_M_adds_302, mm_wp, mm_ldi, mm_lda, mm_ldl, mm_sti, mm_sta, mm_stl, mm_inc, mm_2i, mm_mm, mm_2l, mm_lcmp, mm_i2l, mm_l2i, mm_cast8, mm_if1, mm_if2, mm_cmp, mm_swi, mm_sw, mm_pop1, mm_dup, mm_dup2, mm_geti, mm_geta, mm_puti, mm_iald, mm_bald, mm_aald, mm_iast, mm_bast, mm_alen, mm_acpy, mm_call, mm_callv, mm_recv, mm_pop, mm_find, mm_push, mm_cats, mm_cat, mm_reti, mm_retz, mm_retl, mm_reta, mm_retv, mm_set1, mm_set2, mm_kill, List.getElem?_cons_zero, List.getElem?_cons_succ, Int.reduceToNat, ↓reduceIte, Nat.reduceEqDiff, Nat.reduceDiv, Nat.reduceAdd, Nat.reduceLeDiff, Nat.zero_le, true_and, and_true, true_or, or_true, mm_b0, mm_b1, mm_lc_lt, mm_lc_le, mm_lc_gt, mm_lc_ge, mm_lc_eq, Int.not_lt, Int.not_le, Decidable.not_not, Int.sub_neg]
          exact ⟨fun z => h312 (by omega), fun z => h314 _ (y1 z)⟩
        have h294 : J 294 [some (vr 62), some (vi b), some (vi w), some (vi s.2.2.1), some (vi s.2.2.2.1), some (vi s.2.2.2.2), some (vi u), some (vi v), some (vi k), x9, x10, x11, x12, x13, x14, x15] [] M1 := by
          refine hJ 294 _ _ _ (show mm_wp _ _ _ mo_M_adds_294 _ _ _ from ?_)
          simp only [mo_M_adds_294, mm_wp, mm_ldi, mm_lda, mm_ldl, mm_sti, mm_sta, mm_stl, mm_inc, mm_2i, mm_mm, mm_2l, mm_lcmp, mm_i2l, mm_l2i, mm_cast8, mm_if1, mm_if2, mm_cmp, mm_swi, mm_sw, mm_pop1, mm_dup, mm_dup2, mm_geti, mm_geta, mm_puti, mm_iald, mm_bald, mm_aald, mm_iast, mm_bast, mm_alen, mm_acpy, mm_call, mm_callv, mm_recv, mm_pop, mm_find, mm_push, mm_cats, mm_cat, mm_reti, mm_retz, mm_retl, mm_reta, mm_retv, mm_set1, mm_set2, mm_kill, List.getElem?_cons_zero, List.getElem?_cons_succ, Int.reduceToNat, ↓reduceIte, Nat.reduceEqDiff, Nat.reduceDiv, Nat.reduceAdd, Nat.reduceLeDiff, Nat.zero_le, true_and, and_true, true_or, or_true, mm_b0, mm_b1, mm_lc_lt, mm_lc_le, mm_lc_gt, mm_lc_ge, mm_lc_eq, Int.not_lt, Int.not_le, Decidable.not_not, Int.sub_neg]
          exact ⟨fun z => h302 z, fun z => h314 _ (y0 z)⟩
        refine hJ 53 _ _ _ (show mm_wp _ _ _ mo_M_adds_53 _ _ _ from ?_)
        simp only [mo_M_adds_53, mm_wp, mm_ldi, mm_lda, mm_ldl, mm_sti, mm_sta, mm_stl, mm_inc, mm_2i, mm_mm, mm_2l, mm_lcmp, mm_i2l, mm_l2i, mm_cast8, mm_if1, mm_if2, mm_cmp, mm_swi, mm_sw, mm_pop1, mm_dup, mm_dup2, mm_geti, mm_geta, mm_puti, mm_iald, mm_bald, mm_aald, mm_iast, mm_bast, mm_alen, mm_acpy, mm_call, mm_callv, mm_recv, mm_pop, mm_find, mm_push, mm_cats, mm_cat, mm_reti, mm_retz, mm_retl, mm_reta, mm_retv, mm_set1, mm_set2, mm_kill, List.getElem?_cons_zero, List.getElem?_cons_succ, Int.reduceToNat, ↓reduceIte, Nat.reduceEqDiff, Nat.reduceDiv, Nat.reduceAdd, Nat.reduceLeDiff, Nat.zero_le, true_and, and_true, true_or, or_true, mm_b0, mm_b1, mm_lc_lt, mm_lc_le, mm_lc_gt, mm_lc_ge, mm_lc_eq, Int.not_lt, Int.not_le, Decidable.not_not, Int.sub_neg, c_0, c_1, c_2, l_2, c_3, c_4, l_4, c_5, l_5, c_6, l_6, c_7, l_7, c_8, c_9, l_9, c_10, l_10, c_11, l_11, c_12, l_12, c_13, c_14, l_14, c_15, l_15, c_16, l_16, c_17, l_17, c_18, c_19, l_19, c_20, l_20, c_21, l_21, c_22, l_22, c_23, c_24, l_24, c_25, l_25, c_26, c_27, c_28, l_28, c_29, c_30, l_30, c_31, c_32, l_32, c_33, l_33, c_34, l_34, c_35, l_35, c_36, l_36, c_37, l_37, c_38, l_38, c_39, l_39, c_40, c_41, l_41, c_42, c_43, c_44, l_44, c_45, c_46, l_46, c_47, c_48, l_48, c_49, l_49, c_50, l_50, c_51, l_51, c_52, l_52, c_53, l_53, c_54, l_54, c_55, l_55, c_56, l_56, c_57, l_57, c_58, l_58, c_59, l_59, c_60, l_60, c_61, l_61, c_62, c_63, l_63, c_64, l_64, c_65, l_65, c_66, l_66, c_67, l_67, c_68, l_68, c_69, l_69, c_70, l_70, c_71, l_71, c_72, l_72, c_73, l_73, c_74, l_74, c_75, l_75, c_76, l_76]
        exact ⟨fun _ => h294, fun z => by omega⟩
      | succ d ih =>
        intro k u v x9 x10 x11 x12 x13 x14 x15 hk u0 u1 v0 v1 huv
        have ih := ih (k + 1)
        have hvk := hv k (by omega) (by omega)
        have hdk := hdv k (by omega) (by omega)
        have hbk := hub k (by omega)
        have hbk1 := hub (k + 1) (by omega)
        have hnk1 := hnx k (by omega)
        have hstk := hst k
        have evf : mf M (M1 75 k) = M 67 (4 * M1 75 k + 1) := rfl
        have evl : ml M (M1 75 k) = M 67 (4 * M1 75 k + 2) := rfl
        have evt : mt M (M1 75 k) = M 67 (4 * M1 75 k + 3) := rfl
        have h203 : ∀ (nx v : Int) (x10 x13 x14 x15 : Option mmV), 0 ≤ nx → nx ≤ 61 → 0 ≤ v → v ≤ 60 → v ≤ nx → (ml M (M1 75 k) < v → nx = v) → (S (k + 1)).1 = v → (S (k + 1)).2.1 = (if ml M (M1 75 k) < v then nx else max nx (ml M (M1 75 k) + 1)) → (S (k + 1)).2.2.1 = (S k).2.2.1 + (if ml M (M1 75 k) < v then ml M (M1 75 k) - mf M (M1 75 k) + 1 else max nx (ml M (M1 75 k) + 1) - nx + v - mf M (M1 75 k)) → (S (k + 1)).2.2.2.2 = max (S k).2.2.2.2 (if ml M (M1 75 k) < v then ml M (M1 75 k) - mf M (M1 75 k) + 1 else max nx (ml M (M1 75 k) + 1) - mf M (M1 75 k)) → J 203 [some (vr 62), some (vi b), some (vi w), some (vi (S k).2.2.1), some (vi (S (k + 1)).2.2.2.1), some (vi (S k).2.2.2.2), some (vi (nx - 1)), some (vi v), some (vi k), some (vi (4 * M1 75 k)), x10, some (vi (mf M (M1 75 k))), some (vi (ml M (M1 75 k))), x13, x14, x15] [] M1 := by
          intro nx v x10 x13 x14 x15 a1 a2 a3 a4 a5 a6 t1 t2 t3 t5
          generalize S k = s at *
          generalize S (k + 1) = s' at *
          generalize mf M (M1 75 k) = fk at *
          generalize ml M (M1 75 k) = lk at *
          have h286 : ∀ (z : Int) (x5 x6 : Option mmV) (y3 y6 : Int) (x13 x14 x15 : Option mmV), y3 = s'.2.2.1 → y6 = s'.2.1 - 1 → z = s'.2.2.2.2 → J 286 [some (vr 62), some (vi b), some (vi w), some (vi y3), some (vi s'.2.2.2.1), x5, some (vi y6), some (vi v), some (vi k), some (vi (4 * M1 75 k)), x10, some (vi fk), some (vi lk), x13, x14, x15] [vi z] M1 := by
            intro z x5 x6 y3 y6 x13 x14 x15 p1 p2 p3
            refine hJ 286 _ _ _ (show mm_wp _ _ _ mo_M_adds_286 _ _ _ from ?_)
            simp only [mo_M_adds_286, mm_wp, mm_ldi, mm_lda, mm_ldl, mm_sti, mm_sta, mm_stl, mm_inc, mm_2i, mm_mm, mm_2l, mm_lcmp, mm_i2l, mm_l2i, mm_cast8, mm_if1, mm_if2, mm_cmp, mm_swi, mm_sw, mm_pop1, mm_dup, mm_dup2, mm_geti, mm_geta, mm_puti, mm_iald, mm_bald, mm_aald, mm_iast, mm_bast, mm_alen, mm_acpy, mm_call, mm_callv, mm_recv, mm_pop, mm_find, mm_push, mm_cats, mm_cat, mm_reti, mm_retz, mm_retl, mm_reta, mm_retv, mm_set1, mm_set2, mm_kill, List.getElem?_cons_zero, List.getElem?_cons_succ, Int.reduceToNat, ↓reduceIte, Nat.reduceEqDiff, Nat.reduceDiv, Nat.reduceAdd, Nat.reduceLeDiff, Nat.zero_le, true_and, and_true, true_or, or_true, mm_b0, mm_b1, mm_lc_lt, mm_lc_le, mm_lc_gt, mm_lc_ge, mm_lc_eq, Int.not_lt, Int.not_le, Decidable.not_not, Int.sub_neg]
            rw [p1, p2, p3]
            have := ih (s'.2.1 - 1) v (some (vi (4 * M1 75 k))) x10 (some (vi fk)) (some (vi lk)) x13 x14 x15 (by omega) (by omega) (by omega) (by omega) (by omega) (fun _ => ⟨rfl, t1.symm⟩)
            exact ⟨by omega, this⟩
          have h243 : ∀ (z cm : Int) (x14 x15 : Option mmV), cm = (if lk < v then lk - fk + 1 else v - fk) → z = (if nx - 1 < lk then lk - (nx - 1) else 0) → J 243 [some (vr 62), some (vi b), some (vi w), some (vi s.2.2.1), some (vi s'.2.2.2.1), some (vi s.2.2.2.2), some (vi (nx - 1)), some (vi v), some (vi k), some (vi (4 * M1 75 k)), x10, some (vi fk), some (vi lk), some (vi cm), x14, x15] [vi z] M1 := by
            intro z cm x14 x15 hcm hz
            have hz' : nx - 1 + z = s'.2.1 - 1 := by
              rw [t2, hz]
              by_cases c : lk < v
              · rw [if_pos c, if_neg (by omega)]; omega
              · rw [if_neg c]; split <;> omega
            have hadd : s.2.2.1 + (cm + z) = s'.2.2.1 := by
              rw [t3, hcm, hz]
              by_cases c : lk < v
              · rw [if_pos c, if_pos c, if_neg (by omega)]; omega
              · rw [if_neg c, if_neg c]; split <;> omega
            have hheld : (if lk < v then lk - fk + 1 else max nx (lk + 1) - fk) = nx - 1 + z - v + 1 + cm := by
              rw [hcm, hz]
              by_cases c : lk < v
              · rw [if_pos c, if_pos c, if_neg (by omega)]; have := a6 c; omega
              · rw [if_neg c, if_neg c]; split <;> omega
            rw [hheld] at t5
            have hzb : 0 ≤ z ∧ z ≤ 100 := by rw [hz]; split <;> omega
            have hcb : -100 ≤ cm ∧ cm ≤ 100 := by rw [hcm]; split <;> omega
            have h284 : ∀ x6, nx - 1 + z - v + 1 + cm ≤ s.2.2.2.2 → J 284 [some (vr 62), some (vi b), some (vi w), some (vi (s.2.2.1 + (cm + z))), some (vi s'.2.2.2.1), some (vi s.2.2.2.2), some (vi (nx - 1 + z)), some (vi v), some (vi k), some (vi (4 * M1 75 k)), x10, some (vi fk), some (vi lk), some (vi cm), some (vi z), x6] [] M1 := by
              intro x6 hle
              refine hJ 284 _ _ _ (show mm_wp _ _ _ mo_M_adds_284 _ _ _ from ?_)
              simp only [mo_M_adds_284, mm_wp, mm_ldi, mm_lda, mm_ldl, mm_sti, mm_sta, mm_stl, mm_inc, mm_2i, mm_mm, mm_2l, mm_lcmp, mm_i2l, mm_l2i, mm_cast8, mm_if1, mm_if2, mm_cmp, mm_swi, mm_sw, mm_pop1, mm_dup, mm_dup2, mm_geti, mm_geta, mm_puti, mm_iald, mm_bald, mm_aald, mm_iast, mm_bast, mm_alen, mm_acpy, mm_call, mm_callv, mm_recv, mm_pop, mm_find, mm_push, mm_cats, mm_cat, mm_reti, mm_retz, mm_retl, mm_reta, mm_retv, mm_set1, mm_set2, mm_kill, List.getElem?_cons_zero, List.getElem?_cons_succ, Int.reduceToNat, ↓reduceIte, Nat.reduceEqDiff, Nat.reduceDiv, Nat.reduceAdd, Nat.reduceLeDiff, Nat.zero_le, true_and, and_true, true_or, or_true, mm_b0, mm_b1, mm_lc_lt, mm_lc_le, mm_lc_gt, mm_lc_ge, mm_lc_eq, Int.not_lt, Int.not_le, Decidable.not_not, Int.sub_neg]
              exact h286 _ _ none _ _ _ _ _ hadd hz' (by omega)
            refine hJ 243 _ _ _ (show mm_wp _ _ _ mo_M_adds_243 _ _ _ from ?_)
            simp only [mo_M_adds_243, mm_wp, mm_ldi, mm_lda, mm_ldl, mm_sti, mm_sta, mm_stl, mm_inc, mm_2i, mm_mm, mm_2l, mm_lcmp, mm_i2l, mm_l2i, mm_cast8, mm_if1, mm_if2, mm_cmp, mm_swi, mm_sw, mm_pop1, mm_dup, mm_dup2, mm_geti, mm_geta, mm_puti, mm_iald, mm_bald, mm_aald, mm_iast, mm_bast, mm_alen, mm_acpy, mm_call, mm_callv, mm_recv, mm_pop, mm_find, mm_push, mm_cats, mm_cat, mm_reti, mm_retz, mm_retl, mm_reta, mm_retv, mm_set1, mm_set2, mm_kill, List.getElem?_cons_zero, List.getElem?_cons_succ, Int.reduceToNat, ↓reduceIte, Nat.reduceEqDiff, Nat.reduceDiv, Nat.reduceAdd, Nat.reduceLeDiff, Nat.zero_le, true_and, and_true, true_or, or_true, mm_b0, mm_b1, mm_lc_lt, mm_lc_le, mm_lc_gt, mm_lc_ge, mm_lc_eq, Int.not_lt, Int.not_le, Decidable.not_not, Int.sub_neg]
            repeat (refine And.intro (by omega) ?_)
            exact ⟨fun c => h284 _ c, fun c => h286 _ _ none _ _ _ _ _ hadd hz' (by omega)⟩
          have h242 : ∀ (cm : Int) (x14 x15 : Option mmV), cm = (if lk < v then lk - fk + 1 else v - fk) → ¬ nx - 1 < lk → J 242 [some (vr 62), some (vi b), some (vi w), some (vi s.2.2.1), some (vi s'.2.2.2.1), some (vi s.2.2.2.2), some (vi (nx - 1)), some (vi v), some (vi k), some (vi (4 * M1 75 k)), x10, some (vi fk), some (vi lk), some (vi cm), x14, x15] [] M1 := by
            intro cm x14 x15 hcm hz
            refine hJ 242 _ _ _ (show mm_wp _ _ _ mo_M_adds_242 _ _ _ from ?_)
            simp only [mo_M_adds_242, mm_wp, mm_ldi, mm_lda, mm_ldl, mm_sti, mm_sta, mm_stl, mm_inc, mm_2i, mm_mm, mm_2l, mm_lcmp, mm_i2l, mm_l2i, mm_cast8, mm_if1, mm_if2, mm_cmp, mm_swi, mm_sw, mm_pop1, mm_dup, mm_dup2, mm_geti, mm_geta, mm_puti, mm_iald, mm_bald, mm_aald, mm_iast, mm_bast, mm_alen, mm_acpy, mm_call, mm_callv, mm_recv, mm_pop, mm_find, mm_push, mm_cats, mm_cat, mm_reti, mm_retz, mm_retl, mm_reta, mm_retv, mm_set1, mm_set2, mm_kill, List.getElem?_cons_zero, List.getElem?_cons_succ, Int.reduceToNat, ↓reduceIte, Nat.reduceEqDiff, Nat.reduceDiv, Nat.reduceAdd, Nat.reduceLeDiff, Nat.zero_le, true_and, and_true, true_or, or_true, mm_b0, mm_b1, mm_lc_lt, mm_lc_le, mm_lc_gt, mm_lc_ge, mm_lc_eq, Int.not_lt, Int.not_le, Decidable.not_not, Int.sub_neg]
            exact h243 _ _ _ _ hcm (by rw [if_neg hz])
          have h225 : ∀ (cm : Int) (x13 x14 x15 : Option mmV), cm = (if lk < v then lk - fk + 1 else v - fk) → J 225 [some (vr 62), some (vi b), some (vi w), some (vi s.2.2.1), some (vi s'.2.2.2.1), some (vi s.2.2.2.2), some (vi (nx - 1)), some (vi v), some (vi k), some (vi (4 * M1 75 k)), x10, some (vi fk), some (vi lk), x13, x14, x15] [vi cm] M1 := by
            intro cm x13 x14 x15 hcm
            refine hJ 225 _ _ _ (show mm_wp _ _ _ mo_M_adds_225 _ _ _ from ?_)
            simp only [mo_M_adds_225, mm_wp, mm_ldi, mm_lda, mm_ldl, mm_sti, mm_sta, mm_stl, mm_inc, mm_2i, mm_mm, mm_2l, mm_lcmp, mm_i2l, mm_l2i, mm_cast8, mm_if1, mm_if2, mm_cmp, mm_swi, mm_sw, mm_pop1, mm_dup, mm_dup2, mm_geti, mm_geta, mm_puti, mm_iald, mm_bald, mm_aald, mm_iast, mm_bast, mm_alen, mm_acpy, mm_call, mm_callv, mm_recv, mm_pop, mm_find, mm_push, mm_cats, mm_cat, mm_reti, mm_retz, mm_retl, mm_reta, mm_retv, mm_set1, mm_set2, mm_kill, List.getElem?_cons_zero, List.getElem?_cons_succ, Int.reduceToNat, ↓reduceIte, Nat.reduceEqDiff, Nat.reduceDiv, Nat.reduceAdd, Nat.reduceLeDiff, Nat.zero_le, true_and, and_true, true_or, or_true, mm_b0, mm_b1, mm_lc_lt, mm_lc_le, mm_lc_gt, mm_lc_ge, mm_lc_eq, Int.not_lt, Int.not_le, Decidable.not_not, Int.sub_neg]
            exact ⟨fun c => h242 _ _ _ hcm (by omega), fun c => ⟨by omega, h243 _ _ _ _ hcm (by rw [if_pos (by omega)])⟩⟩
          have h220 : ¬ lk < v → ∀ (x13 x14 x15 : Option mmV), J 220 [some (vr 62), some (vi b), some (vi w), some (vi s.2.2.1), some (vi s'.2.2.2.1), some (vi s.2.2.2.2), some (vi (nx - 1)), some (vi v), some (vi k), some (vi (4 * M1 75 k)), x10, some (vi fk), some (vi lk), x13, x14, x15] [] M1 := by
            intro c x13 x14 x15
            refine hJ 220 _ _ _ (show mm_wp _ _ _ mo_M_adds_220 _ _ _ from ?_)
            simp only [mo_M_adds_220, mm_wp, mm_ldi, mm_lda, mm_ldl, mm_sti, mm_sta, mm_stl, mm_inc, mm_2i, mm_mm, mm_2l, mm_lcmp, mm_i2l, mm_l2i, mm_cast8, mm_if1, mm_if2, mm_cmp, mm_swi, mm_sw, mm_pop1, mm_dup, mm_dup2, mm_geti, mm_geta, mm_puti, mm_iald, mm_bald, mm_aald, mm_iast, mm_bast, mm_alen, mm_acpy, mm_call, mm_callv, mm_recv, mm_pop, mm_find, mm_push, mm_cats, mm_cat, mm_reti, mm_retz, mm_retl, mm_reta, mm_retv, mm_set1, mm_set2, mm_kill, List.getElem?_cons_zero, List.getElem?_cons_succ, Int.reduceToNat, ↓reduceIte, Nat.reduceEqDiff, Nat.reduceDiv, Nat.reduceAdd, Nat.reduceLeDiff, Nat.zero_le, true_and, and_true, true_or, or_true, mm_b0, mm_b1, mm_lc_lt, mm_lc_le, mm_lc_gt, mm_lc_ge, mm_lc_eq, Int.not_lt, Int.not_le, Decidable.not_not, Int.sub_neg]
            exact ⟨by omega, h225 _ _ _ _ (by rw [if_neg c])⟩
          refine hJ 203 _ _ _ (show mm_wp _ _ _ mo_M_adds_203 _ _ _ from ?_)
          simp only [mo_M_adds_203, mm_wp, mm_ldi, mm_lda, mm_ldl, mm_sti, mm_sta, mm_stl, mm_inc, mm_2i, mm_mm, mm_2l, mm_lcmp, mm_i2l, mm_l2i, mm_cast8, mm_if1, mm_if2, mm_cmp, mm_swi, mm_sw, mm_pop1, mm_dup, mm_dup2, mm_geti, mm_geta, mm_puti, mm_iald, mm_bald, mm_aald, mm_iast, mm_bast, mm_alen, mm_acpy, mm_call, mm_callv, mm_recv, mm_pop, mm_find, mm_push, mm_cats, mm_cat, mm_reti, mm_retz, mm_retl, mm_reta, mm_retv, mm_set1, mm_set2, mm_kill, List.getElem?_cons_zero, List.getElem?_cons_succ, Int.reduceToNat, ↓reduceIte, Nat.reduceEqDiff, Nat.reduceDiv, Nat.reduceAdd, Nat.reduceLeDiff, Nat.zero_le, true_and, and_true, true_or, or_true, mm_b0, mm_b1, mm_lc_lt, mm_lc_le, mm_lc_gt, mm_lc_ge, mm_lc_eq, Int.not_lt, Int.not_le, Decidable.not_not, Int.sub_neg]
          exact ⟨fun c => h220 (by omega) _ _ _, fun c => ⟨by omega, by omega, h225 _ _ _ _ (by rw [if_pos (by omega)])⟩⟩
        have h162 : ¬ (0 < (k : Int) ∧ mt M (M1 75 k) * 64 + mf M (M1 75 k) / b = mt M (M1 75 ((k : Int) - 1)) * 64 + mf M (M1 75 ((k : Int) - 1)) / b) → ∀ x10 : Option mmV, J 162 [some (vr 62), some (vi b), some (vi w), some (vi (S k).2.2.1), some (vi (S k).2.2.2.1), some (vi (S k).2.2.2.2), some (vi u), some (vi v), some (vi k), some (vi (4 * M1 75 k)), x10, some (vi (mf M (M1 75 k))), some (vi (ml M (M1 75 k))), x13, x14, x15] [] M1 := by
          intro hc x10
          rw [if_neg hc] at hstk
          have h195 : ∀ z, z = min (M 62 3) (mf M (M1 75 k) / b * b + b) → J 195 [some (vr 62), some (vi b), some (vi w), some (vi (S k).2.2.1), some (vi ((S k).2.2.2.1 + 1)), some (vi (S k).2.2.2.2), some (vi u), some (vi v), some (vi k), some (vi (4 * M1 75 k)), x10, some (vi (mf M (M1 75 k))), some (vi (ml M (M1 75 k))), x13, x14, x15] [vi z] M1 := by
            intro z hz
            have hzb : 0 ≤ z ∧ z ≤ 60 := by
              have := Int.mul_nonneg hdk.1 (show 0 ≤ b by omega)
              generalize mf M (M1 75 k) / b * b = y at *
              omega
            rw [← hz] at hstk
            have g4 : (S (k + 1)).2.2.2.1 = (S k).2.2.2.1 + 1 := by rw [hstk]
            have := h203 z z x10 x13 x14 x15 (by omega) (by omega) (by omega) (by omega) (by omega) (fun _ => rfl) (by rw [hstk]) (by rw [hstk]) (by rw [hstk]) (by rw [hstk])
            rw [g4] at this
            refine hJ 195 _ _ _ (show mm_wp _ _ _ mo_M_adds_195 _ _ _ from ?_)
            simp only [mo_M_adds_195, mm_wp, mm_ldi, mm_lda, mm_ldl, mm_sti, mm_sta, mm_stl, mm_inc, mm_2i, mm_mm, mm_2l, mm_lcmp, mm_i2l, mm_l2i, mm_cast8, mm_if1, mm_if2, mm_cmp, mm_swi, mm_sw, mm_pop1, mm_dup, mm_dup2, mm_geti, mm_geta, mm_puti, mm_iald, mm_bald, mm_aald, mm_iast, mm_bast, mm_alen, mm_acpy, mm_call, mm_callv, mm_recv, mm_pop, mm_find, mm_push, mm_cats, mm_cat, mm_reti, mm_retz, mm_retl, mm_reta, mm_retv, mm_set1, mm_set2, mm_kill, List.getElem?_cons_zero, List.getElem?_cons_succ, Int.reduceToNat, ↓reduceIte, Nat.reduceEqDiff, Nat.reduceDiv, Nat.reduceAdd, Nat.reduceLeDiff, Nat.zero_le, true_and, and_true, true_or, or_true, mm_b0, mm_b1, mm_lc_lt, mm_lc_le, mm_lc_gt, mm_lc_ge, mm_lc_eq, Int.not_lt, Int.not_le, Decidable.not_not, Int.sub_neg]
            exact ⟨by omega, this⟩
          have h191 : M 62 3 ≤ mf M (M1 75 k) / b * b + b → J 191 [some (vr 62), some (vi b), some (vi w), some (vi (S k).2.2.1), some (vi ((S k).2.2.2.1 + 1)), some (vi (S k).2.2.2.2), some (vi u), some (vi v), some (vi k), some (vi (4 * M1 75 k)), x10, some (vi (mf M (M1 75 k))), some (vi (ml M (M1 75 k))), x13, x14, x15] [] M1 := by
            intro hz
            refine hJ 191 _ _ _ (show mm_wp _ _ _ mo_M_adds_191 _ _ _ from ?_)
            simp only [mo_M_adds_191, mm_wp, mm_ldi, mm_lda, mm_ldl, mm_sti, mm_sta, mm_stl, mm_inc, mm_2i, mm_mm, mm_2l, mm_lcmp, mm_i2l, mm_l2i, mm_cast8, mm_if1, mm_if2, mm_cmp, mm_swi, mm_sw, mm_pop1, mm_dup, mm_dup2, mm_geti, mm_geta, mm_puti, mm_iald, mm_bald, mm_aald, mm_iast, mm_bast, mm_alen, mm_acpy, mm_call, mm_callv, mm_recv, mm_pop, mm_find, mm_push, mm_cats, mm_cat, mm_reti, mm_retz, mm_retl, mm_reta, mm_retv, mm_set1, mm_set2, mm_kill, List.getElem?_cons_zero, List.getElem?_cons_succ, Int.reduceToNat, ↓reduceIte, Nat.reduceEqDiff, Nat.reduceDiv, Nat.reduceAdd, Nat.reduceLeDiff, Nat.zero_le, true_and, and_true, true_or, or_true, mm_b0, mm_b1, mm_lc_lt, mm_lc_le, mm_lc_gt, mm_lc_ge, mm_lc_eq, Int.not_lt, Int.not_le, Decidable.not_not, Int.sub_neg, c_0, c_1, c_2, l_2, c_3, c_4, l_4, c_5, l_5, c_6, l_6, c_7, l_7, c_8, c_9, l_9, c_10, l_10, c_11, l_11, c_12, l_12, c_13, c_14, l_14, c_15, l_15, c_16, l_16, c_17, l_17, c_18, c_19, l_19, c_20, l_20, c_21, l_21, c_22, l_22, c_23, c_24, l_24, c_25, l_25, c_26, c_27, c_28, l_28, c_29, c_30, l_30, c_31, c_32, l_32, c_33, l_33, c_34, l_34, c_35, l_35, c_36, l_36, c_37, l_37, c_38, l_38, c_39, l_39, c_40, c_41, l_41, c_42, c_43, c_44, l_44, c_45, c_46, l_46, c_47, c_48, l_48, c_49, l_49, c_50, l_50, c_51, l_51, c_52, l_52, c_53, l_53, c_54, l_54, c_55, l_55, c_56, l_56, c_57, l_57, c_58, l_58, c_59, l_59, c_60, l_60, c_61, l_61, c_62, c_63, l_63, c_64, l_64, c_65, l_65, c_66, l_66, c_67, l_67, c_68, l_68, c_69, l_69, c_70, l_70, c_71, l_71, c_72, l_72, c_73, l_73, c_74, l_74, c_75, l_75, c_76, l_76, e3]
            exact h195 _ (by omega)
          have hpos := Int.mul_nonneg hdk.1 (show 0 ≤ b by omega)
          have hd4 := hdk.2.2.2
          refine hJ 162 _ _ _ (show mm_wp _ _ _ mo_M_adds_162 _ _ _ from ?_)
          simp only [mo_M_adds_162, mm_wp, mm_ldi, mm_lda, mm_ldl, mm_sti, mm_sta, mm_stl, mm_inc, mm_2i, mm_mm, mm_2l, mm_lcmp, mm_i2l, mm_l2i, mm_cast8, mm_if1, mm_if2, mm_cmp, mm_swi, mm_sw, mm_pop1, mm_dup, mm_dup2, mm_geti, mm_geta, mm_puti, mm_iald, mm_bald, mm_aald, mm_iast, mm_bast, mm_alen, mm_acpy, mm_call, mm_callv, mm_recv, mm_pop, mm_find, mm_push, mm_cats, mm_cat, mm_reti, mm_retz, mm_retl, mm_reta, mm_retv, mm_set1, mm_set2, mm_kill, List.getElem?_cons_zero, List.getElem?_cons_succ, Int.reduceToNat, ↓reduceIte, Nat.reduceEqDiff, Nat.reduceDiv, Nat.reduceAdd, Nat.reduceLeDiff, Nat.zero_le, true_and, and_true, true_or, or_true, mm_b0, mm_b1, mm_lc_lt, mm_lc_le, mm_lc_gt, mm_lc_ge, mm_lc_eq, Int.not_lt, Int.not_le, Decidable.not_not, Int.sub_neg, c_0, c_1, c_2, l_2, c_3, c_4, l_4, c_5, l_5, c_6, l_6, c_7, l_7, c_8, c_9, l_9, c_10, l_10, c_11, l_11, c_12, l_12, c_13, c_14, l_14, c_15, l_15, c_16, l_16, c_17, l_17, c_18, c_19, l_19, c_20, l_20, c_21, l_21, c_22, l_22, c_23, c_24, l_24, c_25, l_25, c_26, c_27, c_28, l_28, c_29, c_30, l_30, c_31, c_32, l_32, c_33, l_33, c_34, l_34, c_35, l_35, c_36, l_36, c_37, l_37, c_38, l_38, c_39, l_39, c_40, c_41, l_41, c_42, c_43, c_44, l_44, c_45, c_46, l_46, c_47, c_48, l_48, c_49, l_49, c_50, l_50, c_51, l_51, c_52, l_52, c_53, l_53, c_54, l_54, c_55, l_55, c_56, l_56, c_57, l_57, c_58, l_58, c_59, l_59, c_60, l_60, c_61, l_61, c_62, c_63, l_63, c_64, l_64, c_65, l_65, c_66, l_66, c_67, l_67, c_68, l_68, c_69, l_69, c_70, l_70, c_71, l_71, c_72, l_72, c_73, l_73, c_74, l_74, c_75, l_75, c_76, l_76, e3, hd4]
          generalize mf M (M1 75 k) / b * b = y at *
          exact ⟨by omega, by omega, by omega, by omega, fun z => h191 z, fun z => ⟨by omega, by omega, by omega, h195 _ (by omega)⟩⟩
        have h94 : ∀ (pq : Int) (x10 x11 x12 : Option mmV), (k = 0 ∨ 0 < k ∧ pq = 4 * M1 75 ((k : Int) - 1)) → J 94 [some (vr 62), some (vi b), some (vi w), some (vi (S k).2.2.1), some (vi (S k).2.2.2.1), some (vi (S k).2.2.2.2), some (vi u), some (vi v), some (vi k), some (vi (4 * M1 75 k)), x10, x11, x12, x13, x14, x15] [vi pq] M1 := by
          intro pq x10 x11 x12 hpq
          rcases hpq with h0 | ⟨hpos, hpq⟩
          · have h162 := h162 (fun c => by omega)
            rw [evf, evl] at h162
            refine hJ 94 _ _ _ (show mm_wp _ _ _ mo_M_adds_94 _ _ _ from ?_)
            simp only [mo_M_adds_94, mm_wp, mm_ldi, mm_lda, mm_ldl, mm_sti, mm_sta, mm_stl, mm_inc, mm_2i, mm_mm, mm_2l, mm_lcmp, mm_i2l, mm_l2i, mm_cast8, mm_if1, mm_if2, mm_cmp, mm_swi, mm_sw, mm_pop1, mm_dup, mm_dup2, mm_geti, mm_geta, mm_puti, mm_iald, mm_bald, mm_aald, mm_iast, mm_bast, mm_alen, mm_acpy, mm_call, mm_callv, mm_recv, mm_pop, mm_find, mm_push, mm_cats, mm_cat, mm_reti, mm_retz, mm_retl, mm_reta, mm_retv, mm_set1, mm_set2, mm_kill, List.getElem?_cons_zero, List.getElem?_cons_succ, Int.reduceToNat, ↓reduceIte, Nat.reduceEqDiff, Nat.reduceDiv, Nat.reduceAdd, Nat.reduceLeDiff, Nat.zero_le, true_and, and_true, true_or, or_true, mm_b0, mm_b1, mm_lc_lt, mm_lc_le, mm_lc_gt, mm_lc_ge, mm_lc_eq, Int.not_lt, Int.not_le, Decidable.not_not, Int.sub_neg, c_0, c_1, c_2, l_2, c_3, c_4, l_4, c_5, l_5, c_6, l_6, c_7, l_7, c_8, c_9, l_9, c_10, l_10, c_11, l_11, c_12, l_12, c_13, c_14, l_14, c_15, l_15, c_16, l_16, c_17, l_17, c_18, c_19, l_19, c_20, l_20, c_21, l_21, c_22, l_22, c_23, c_24, l_24, c_25, l_25, c_26, c_27, c_28, l_28, c_29, c_30, l_30, c_31, c_32, l_32, c_33, l_33, c_34, l_34, c_35, l_35, c_36, l_36, c_37, l_37, c_38, l_38, c_39, l_39, c_40, c_41, l_41, c_42, c_43, c_44, l_44, c_45, c_46, l_46, c_47, c_48, l_48, c_49, l_49, c_50, l_50, c_51, l_51, c_52, l_52, c_53, l_53, c_54, l_54, c_55, l_55, c_56, l_56, c_57, l_57, c_58, l_58, c_59, l_59, c_60, l_60, c_61, l_61, c_62, c_63, l_63, c_64, l_64, c_65, l_65, c_66, l_66, c_67, l_67, c_68, l_68, c_69, l_69, c_70, l_70, c_71, l_71, c_72, l_72, c_73, l_73, c_74, l_74, c_75, l_75, c_76, l_76, e67]
            refine ⟨by omega, by omega, by omega, by omega, fun _ => h162 _, fun z => by omega⟩
          · have hvp := hv ((k : Int) - 1) (by omega) (by omega)
            have hdp := hdv ((k : Int) - 1) (by omega) (by omega)
            have epf : mf M (M1 75 ((k : Int) - 1)) = M 67 (4 * M1 75 ((k : Int) - 1) + 1) := rfl
            have ept : mt M (M1 75 ((k : Int) - 1)) = M 67 (4 * M1 75 ((k : Int) - 1) + 3) := rfl
            have hsame : 0 < (k : Int) ∧ mt M (M1 75 k) * 64 + mf M (M1 75 k) / b = mt M (M1 75 ((k : Int) - 1)) * 64 + mf M (M1 75 ((k : Int) - 1)) / b → J 203 [some (vr 62), some (vi b), some (vi w), some (vi (S k).2.2.1), some (vi (S k).2.2.2.1), some (vi (S k).2.2.2.2), some (vi u), some (vi v), some (vi k), some (vi (4 * M1 75 k)), some (vi pq), some (vi (mf M (M1 75 k))), some (vi (ml M (M1 75 k))), x13, x14, x15] [] M1 := by
              intro hc
              have hso := hsort k hpos (by omega) hc.2
              rw [if_pos hc] at hstk
              obtain ⟨hu, hvv⟩ := huv hpos
              have hnk := hnx (k - 1) (by omega)
              rw [show k - 1 + 1 = k by omega, show (((k - 1 : Nat) : Int)) = (k : Int) - 1 by omega] at hnk
              have g4 : (S (k + 1)).2.2.2.1 = (S k).2.2.2.1 := by rw [hstk]
              have := h203 (S k).2.1 (S k).1 (some (vi pq)) x13 x14 x15 (by omega) (by omega) (by omega) (by omega) (by omega) (fun c => by omega) (by rw [hstk]) (by rw [hstk]) (by rw [hstk]) (by rw [hstk])
              rw [g4] at this
              rw [hu, hvv]
              exact this
            have hd1 := hdk.2.2.2
            have hd2 := hdp.2.2.2
            rw [evf] at hd1
            rw [epf] at hd2
            rw [evf, evl, evt, epf, ept] at hsame h162
            rw [evf] at hdk
            rw [epf] at hdp
            rw [hpq] at hsame ⊢
            refine hJ 94 _ _ _ (show mm_wp _ _ _ mo_M_adds_94 _ _ _ from ?_)
            simp only [mo_M_adds_94, mm_wp, mm_ldi, mm_lda, mm_ldl, mm_sti, mm_sta, mm_stl, mm_inc, mm_2i, mm_mm, mm_2l, mm_lcmp, mm_i2l, mm_l2i, mm_cast8, mm_if1, mm_if2, mm_cmp, mm_swi, mm_sw, mm_pop1, mm_dup, mm_dup2, mm_geti, mm_geta, mm_puti, mm_iald, mm_bald, mm_aald, mm_iast, mm_bast, mm_alen, mm_acpy, mm_call, mm_callv, mm_recv, mm_pop, mm_find, mm_push, mm_cats, mm_cat, mm_reti, mm_retz, mm_retl, mm_reta, mm_retv, mm_set1, mm_set2, mm_kill, List.getElem?_cons_zero, List.getElem?_cons_succ, Int.reduceToNat, ↓reduceIte, Nat.reduceEqDiff, Nat.reduceDiv, Nat.reduceAdd, Nat.reduceLeDiff, Nat.zero_le, true_and, and_true, true_or, or_true, mm_b0, mm_b1, mm_lc_lt, mm_lc_le, mm_lc_gt, mm_lc_ge, mm_lc_eq, Int.not_lt, Int.not_le, Decidable.not_not, Int.sub_neg, c_0, c_1, c_2, l_2, c_3, c_4, l_4, c_5, l_5, c_6, l_6, c_7, l_7, c_8, c_9, l_9, c_10, l_10, c_11, l_11, c_12, l_12, c_13, c_14, l_14, c_15, l_15, c_16, l_16, c_17, l_17, c_18, c_19, l_19, c_20, l_20, c_21, l_21, c_22, l_22, c_23, c_24, l_24, c_25, l_25, c_26, c_27, c_28, l_28, c_29, c_30, l_30, c_31, c_32, l_32, c_33, l_33, c_34, l_34, c_35, l_35, c_36, l_36, c_37, l_37, c_38, l_38, c_39, l_39, c_40, c_41, l_41, c_42, c_43, c_44, l_44, c_45, c_46, l_46, c_47, c_48, l_48, c_49, l_49, c_50, l_50, c_51, l_51, c_52, l_52, c_53, l_53, c_54, l_54, c_55, l_55, c_56, l_56, c_57, l_57, c_58, l_58, c_59, l_59, c_60, l_60, c_61, l_61, c_62, c_63, l_63, c_64, l_64, c_65, l_65, c_66, l_66, c_67, l_67, c_68, l_68, c_69, l_69, c_70, l_70, c_71, l_71, c_72, l_72, c_73, l_73, c_74, l_74, c_75, l_75, c_76, l_76, e67, hd1, hd2]
            generalize M 67 (4 * M1 75 k + 1) / b = z1 at *
            generalize M 67 (4 * M1 75 ((k : Int) - 1) + 1) / b = z2 at *
            refine ⟨by omega, by omega, by omega, by omega, fun z => by omega, fun _ => ⟨by omega, by omega, by omega, by omega, fun z => h162 (by omega) _, fun z => ⟨by omega, by omega, by omega, by omega, fun z2 => hsame (by omega), fun z2 => h162 (by omega) _⟩⟩⟩
        have h92 : k = 0 → J 92 [some (vr 62), some (vi b), some (vi w), some (vi (S k).2.2.1), some (vi (S k).2.2.2.1), some (vi (S k).2.2.2.2), some (vi u), some (vi v), some (vi k), some (vi (4 * M1 75 k)), x10, x11, x12, x13, x14, x15] [] M1 := by
          intro h0
          refine hJ 92 _ _ _ (show mm_wp _ _ _ mo_M_adds_92 _ _ _ from ?_)
          simp only [mo_M_adds_92, mm_wp, mm_ldi, mm_lda, mm_ldl, mm_sti, mm_sta, mm_stl, mm_inc, mm_2i, mm_mm, mm_2l, mm_lcmp, mm_i2l, mm_l2i, mm_cast8, mm_if1, mm_if2, mm_cmp, mm_swi, mm_sw, mm_pop1, mm_dup, mm_dup2, mm_geti, mm_geta, mm_puti, mm_iald, mm_bald, mm_aald, mm_iast, mm_bast, mm_alen, mm_acpy, mm_call, mm_callv, mm_recv, mm_pop, mm_find, mm_push, mm_cats, mm_cat, mm_reti, mm_retz, mm_retl, mm_reta, mm_retv, mm_set1, mm_set2, mm_kill, List.getElem?_cons_zero, List.getElem?_cons_succ, Int.reduceToNat, ↓reduceIte, Nat.reduceEqDiff, Nat.reduceDiv, Nat.reduceAdd, Nat.reduceLeDiff, Nat.zero_le, true_and, and_true, true_or, or_true, mm_b0, mm_b1, mm_lc_lt, mm_lc_le, mm_lc_gt, mm_lc_ge, mm_lc_eq, Int.not_lt, Int.not_le, Decidable.not_not, Int.sub_neg]
          exact h94 _ _ _ _ (Or.inl h0)
        refine hJ 53 _ _ _ (show mm_wp _ _ _ mo_M_adds_53 _ _ _ from ?_)
        simp only [mo_M_adds_53, mm_wp, mm_ldi, mm_lda, mm_ldl, mm_sti, mm_sta, mm_stl, mm_inc, mm_2i, mm_mm, mm_2l, mm_lcmp, mm_i2l, mm_l2i, mm_cast8, mm_if1, mm_if2, mm_cmp, mm_swi, mm_sw, mm_pop1, mm_dup, mm_dup2, mm_geti, mm_geta, mm_puti, mm_iald, mm_bald, mm_aald, mm_iast, mm_bast, mm_alen, mm_acpy, mm_call, mm_callv, mm_recv, mm_pop, mm_find, mm_push, mm_cats, mm_cat, mm_reti, mm_retz, mm_retl, mm_reta, mm_retv, mm_set1, mm_set2, mm_kill, List.getElem?_cons_zero, List.getElem?_cons_succ, Int.reduceToNat, ↓reduceIte, Nat.reduceEqDiff, Nat.reduceDiv, Nat.reduceAdd, Nat.reduceLeDiff, Nat.zero_le, true_and, and_true, true_or, or_true, mm_b0, mm_b1, mm_lc_lt, mm_lc_le, mm_lc_gt, mm_lc_ge, mm_lc_eq, Int.not_lt, Int.not_le, Decidable.not_not, Int.sub_neg, c_0, c_1, c_2, l_2, c_3, c_4, l_4, c_5, l_5, c_6, l_6, c_7, l_7, c_8, c_9, l_9, c_10, l_10, c_11, l_11, c_12, l_12, c_13, c_14, l_14, c_15, l_15, c_16, l_16, c_17, l_17, c_18, c_19, l_19, c_20, l_20, c_21, l_21, c_22, l_22, c_23, c_24, l_24, c_25, l_25, c_26, c_27, c_28, l_28, c_29, c_30, l_30, c_31, c_32, l_32, c_33, l_33, c_34, l_34, c_35, l_35, c_36, l_36, c_37, l_37, c_38, l_38, c_39, l_39, c_40, c_41, l_41, c_42, c_43, c_44, l_44, c_45, c_46, l_46, c_47, c_48, l_48, c_49, l_49, c_50, l_50, c_51, l_51, c_52, l_52, c_53, l_53, c_54, l_54, c_55, l_55, c_56, l_56, c_57, l_57, c_58, l_58, c_59, l_59, c_60, l_60, c_61, l_61, c_62, c_63, l_63, c_64, l_64, c_65, l_65, c_66, l_66, c_67, l_67, c_68, l_68, c_69, l_69, c_70, l_70, c_71, l_71, c_72, l_72, c_73, l_73, c_74, l_74, c_75, l_75, c_76, l_76]
        refine ⟨fun z => by omega, fun _ => ⟨by omega, by omega, fun z => h92 (by omega), fun z => ⟨by omega, by omega, by have hvp := hv ((k : Int) - 1) (by omega) (by omega); omega, h94 _ _ _ _ (Or.inr ⟨by omega, rfl⟩)⟩⟩⟩
    have h0 : S 0 = (0, 0, 0, 0, 0) := by rw [← hsf]; rfl
    have := hl (M1 62 33).toNat 0 0 0 none none none none none none none (by omega) (by omega) (by omega) (by omega) (by omega) (fun c => by omega)
    rw [h0] at this
    exact this
  refine hJ 0 _ _ _ (show mm_wp _ _ _ mo_M_adds_0 _ _ _ from ?_)
  simp only [mo_M_adds_0, mm_wp, mm_ldi, mm_lda, mm_ldl, mm_sti, mm_sta, mm_stl, mm_inc, mm_2i, mm_mm, mm_2l, mm_lcmp, mm_i2l, mm_l2i, mm_cast8, mm_if1, mm_if2, mm_cmp, mm_swi, mm_sw, mm_pop1, mm_dup, mm_dup2, mm_geti, mm_geta, mm_puti, mm_iald, mm_bald, mm_aald, mm_iast, mm_bast, mm_alen, mm_acpy, mm_call, mm_callv, mm_recv, mm_pop, mm_find, mm_push, mm_cats, mm_cat, mm_reti, mm_retz, mm_retl, mm_reta, mm_retv, mm_set1, mm_set2, mm_kill, List.getElem?_cons_zero, List.getElem?_cons_succ, Int.reduceToNat, ↓reduceIte, Nat.reduceEqDiff, Nat.reduceDiv, Nat.reduceAdd, Nat.reduceLeDiff, Nat.zero_le, true_and, and_true, true_or, or_true, mm_b0, mm_b1, mm_lc_lt, mm_lc_le, mm_lc_gt, mm_lc_ge, mm_lc_eq, Int.not_lt, Int.not_le, Decidable.not_not, Int.sub_neg, c_0, c_1, c_2, l_2, c_3, c_4, l_4, c_5, l_5, c_6, l_6, c_7, l_7, c_8, c_9, l_9, c_10, l_10, c_11, l_11, c_12, l_12, c_13, c_14, l_14, c_15, l_15, c_16, l_16, c_17, l_17, c_18, c_19, l_19, c_20, l_20, c_21, l_21, c_22, l_22, c_23, c_24, l_24, c_25, l_25, c_26, c_27, c_28, l_28, c_29, c_30, l_30, c_31, c_32, l_32, c_33, l_33, c_34, l_34, c_35, l_35, c_36, l_36, c_37, l_37, c_38, l_38, c_39, l_39, c_40, c_41, l_41, c_42, c_43, c_44, l_44, c_45, c_46, l_46, c_47, c_48, l_48, c_49, l_49, c_50, l_50, c_51, l_51, c_52, l_52, c_53, l_53, c_54, l_54, c_55, l_55, c_56, l_56, c_57, l_57, c_58, l_58, c_59, l_59, c_60, l_60, c_61, l_61, c_62, c_63, l_63, c_64, l_64, c_65, l_65, c_66, l_66, c_67, l_67, c_68, l_68, c_69, l_69, c_70, l_70, c_71, l_71, c_72, l_72, c_73, l_73, c_74, l_74, c_75, l_75, c_76, l_76, t_M_within]
  exact ⟨fun z => h29 (by omega), fun z => ⟨fun z2 => h31 (by omega), fun z2 => h29 (by omega)⟩⟩
