/-! the planner's Tally (23: times 24, partOf 25) -/
def t_J_fill : mmT := fun as M Q => match as with
  | [.inr (.inr a), .inl v] => mm_cls a = 100 ∧ ∀ M', (∀ o', o' ≠ a → M' o' = M o') → (∀ i, 0 ≤ i → i < mm_len a → M' a i = v) → Q none M'
  | _ => False
set_option maxHeartbeats 4000000 in
set_option maxRecDepth 100000 in
theorem p_J_fill : ∀ as M Q, (∀ v ∈ as, mm_vin v) → mm_mem M → t_J_fill as M Q → (mm_ent as).length ≤ 4 ∧ mm_ok mb_J_fill [] (mm_entry 4 as) M Q := by
  intro as M Q hin hM h
  unfold t_J_fill at h
  split at h
  rotate_left
  · exact h.elim
  rename_i a v
  have hR_v : mm_R v := hin (vi v) (by simp)
  refine ⟨by simp [mm_ent], (show mm_ok mb_J_fill [] [some (vr a), some (vi v), none, none] M Q from ?_)⟩
  intro J hJ
  obtain ⟨ha, h⟩ := h
  have hlen := mm_len_R a
  have hl : ∀ (d k : Nat) (M1 : mmM), (k : Int) + d = mm_len a → (∀ o', o' ≠ a → M1 o' = M o') → (∀ i, 0 ≤ i → i < (k : Int) → M1 a i = v) → J 5 [some (vr a), some (vi v), some (vi k), some (vi (mm_len a))] [] M1 := by
    intro d
    induction d with
    | zero =>
      intro k M1 hk a1 b1
      have h20 : J 20 [some (vr a), some (vi v), some (vi k), some (vi (mm_len a))] [] M1 := by
        refine hJ 20 _ _ _ (show mm_wp _ _ _ mo_J_fill_20 _ _ _ from ?_)
        simp only [mo_J_fill_20, mm_wp, mm_ldi, mm_lda, mm_ldl, mm_sti, mm_sta, mm_stl, mm_inc, mm_2i, mm_mm, mm_2l, mm_lcmp, mm_i2l, mm_l2i, mm_cast8, mm_if1, mm_if2, mm_cmp, mm_swi, mm_sw, mm_pop1, mm_dup, mm_dup2, mm_geti, mm_geta, mm_puti, mm_iald, mm_bald, mm_aald, mm_iast, mm_bast, mm_alen, mm_acpy, mm_call, mm_callv, mm_recv, mm_pop, mm_find, mm_push, mm_cats, mm_cat, mm_reti, mm_retz, mm_retl, mm_reta, mm_retv, mm_set1, mm_set2, mm_kill, List.getElem?_cons_zero, List.getElem?_cons_succ, Int.reduceToNat, ↓reduceIte, Nat.reduceEqDiff, Nat.reduceDiv, Nat.reduceAdd, Nat.reduceLeDiff, Nat.zero_le, true_and, and_true, true_or, or_true, mm_b0, mm_b1, mm_lc_lt, mm_lc_le, mm_lc_gt, mm_lc_ge, mm_lc_eq, Int.not_lt, Int.not_le, Decidable.not_not, Int.sub_neg]
        exact h M1 a1 (fun i i0 i1 => b1 i i0 (by omega))
      refine hJ 5 _ _ _ (show mm_wp _ _ _ mo_J_fill_5 _ _ _ from ?_)
      simp only [mo_J_fill_5, mm_wp, mm_ldi, mm_lda, mm_ldl, mm_sti, mm_sta, mm_stl, mm_inc, mm_2i, mm_mm, mm_2l, mm_lcmp, mm_i2l, mm_l2i, mm_cast8, mm_if1, mm_if2, mm_cmp, mm_swi, mm_sw, mm_pop1, mm_dup, mm_dup2, mm_geti, mm_geta, mm_puti, mm_iald, mm_bald, mm_aald, mm_iast, mm_bast, mm_alen, mm_acpy, mm_call, mm_callv, mm_recv, mm_pop, mm_find, mm_push, mm_cats, mm_cat, mm_reti, mm_retz, mm_retl, mm_reta, mm_retv, mm_set1, mm_set2, mm_kill, List.getElem?_cons_zero, List.getElem?_cons_succ, Int.reduceToNat, ↓reduceIte, Nat.reduceEqDiff, Nat.reduceDiv, Nat.reduceAdd, Nat.reduceLeDiff, Nat.zero_le, true_and, and_true, true_or, or_true, mm_b0, mm_b1, mm_lc_lt, mm_lc_le, mm_lc_gt, mm_lc_ge, mm_lc_eq, Int.not_lt, Int.not_le, Decidable.not_not, Int.sub_neg]
      exact ⟨fun _ => h20, fun z => by omega⟩
    | succ d ih =>
      intro k M1 hk a1 b1
      refine hJ 5 _ _ _ (show mm_wp _ _ _ mo_J_fill_5 _ _ _ from ?_)
      simp only [mo_J_fill_5, mm_wp, mm_ldi, mm_lda, mm_ldl, mm_sti, mm_sta, mm_stl, mm_inc, mm_2i, mm_mm, mm_2l, mm_lcmp, mm_i2l, mm_l2i, mm_cast8, mm_if1, mm_if2, mm_cmp, mm_swi, mm_sw, mm_pop1, mm_dup, mm_dup2, mm_geti, mm_geta, mm_puti, mm_iald, mm_bald, mm_aald, mm_iast, mm_bast, mm_alen, mm_acpy, mm_call, mm_callv, mm_recv, mm_pop, mm_find, mm_push, mm_cats, mm_cat, mm_reti, mm_retz, mm_retl, mm_reta, mm_retv, mm_set1, mm_set2, mm_kill, List.getElem?_cons_zero, List.getElem?_cons_succ, Int.reduceToNat, ↓reduceIte, Nat.reduceEqDiff, Nat.reduceDiv, Nat.reduceAdd, Nat.reduceLeDiff, Nat.zero_le, true_and, and_true, true_or, or_true, mm_b0, mm_b1, mm_lc_lt, mm_lc_le, mm_lc_gt, mm_lc_ge, mm_lc_eq, Int.not_lt, Int.not_le, Decidable.not_not, Int.sub_neg, ha]
      refine ⟨fun z => by omega, fun _ => ⟨by omega, by omega, ih (k + 1) _ (by omega) (fun o' c => by rw [mm_up_o _ _ c, a1 o' c]) (fun i i0 i1 => ?_)⟩⟩
      rw [mm_up_if]
      split
      · rfl
      · exact b1 i i0 (by omega)
  refine hJ 0 _ _ _ (show mm_wp _ _ _ mo_J_fill_0 _ _ _ from ?_)
  simp only [mo_J_fill_0, mm_wp, mm_ldi, mm_lda, mm_ldl, mm_sti, mm_sta, mm_stl, mm_inc, mm_2i, mm_mm, mm_2l, mm_lcmp, mm_i2l, mm_l2i, mm_cast8, mm_if1, mm_if2, mm_cmp, mm_swi, mm_sw, mm_pop1, mm_dup, mm_dup2, mm_geti, mm_geta, mm_puti, mm_iald, mm_bald, mm_aald, mm_iast, mm_bast, mm_alen, mm_acpy, mm_call, mm_callv, mm_recv, mm_pop, mm_find, mm_push, mm_cats, mm_cat, mm_reti, mm_retz, mm_retl, mm_reta, mm_retv, mm_set1, mm_set2, mm_kill, List.getElem?_cons_zero, List.getElem?_cons_succ, Int.reduceToNat, ↓reduceIte, Nat.reduceEqDiff, Nat.reduceDiv, Nat.reduceAdd, Nat.reduceLeDiff, Nat.zero_le, true_and, and_true, true_or, or_true, mm_b0, mm_b1, mm_lc_lt, mm_lc_le, mm_lc_gt, mm_lc_ge, mm_lc_eq, Int.not_lt, Int.not_le, Decidable.not_not, Int.sub_neg, ha, true_or]
  exact hl (mm_len a).toNat 0 M (by omega) (fun _ _ => rfl) (fun i i0 i1 => by omega)
def t_P_isNumber : mmT := fun as M Q => match as with
  | [.inl v] => Q (some (vi (mm_b (0 ≤ v ∧ v < 64)))) M
  | _ => False
set_option maxHeartbeats 4000000 in
set_option maxRecDepth 100000 in
theorem p_P_isNumber : ∀ as M Q, (∀ v ∈ as, mm_vin v) → mm_mem M → t_P_isNumber as M Q → (mm_ent as).length ≤ 1 ∧ mm_ok mb_P_isNumber [] (mm_entry 1 as) M Q := by
  intro as M Q hin hM h
  unfold t_P_isNumber at h
  split at h
  rotate_left
  · exact h.elim
  rename_i v
  have hR_v : mm_R v := hin (vi v) (by simp)
  refine ⟨by simp [mm_ent], (show mm_ok mb_P_isNumber [] [some (vi v)] M Q from ?_)⟩
  intro J hJ
  repeat' first | (refine And.intro ?_ ?_) | (intro _) | (refine hJ 0 _ _ _ ?_; show mm_wp _ _ _ mo_P_isNumber_0 _ _ _; simp only [mo_P_isNumber_0, mm_wp, mm_ldi, mm_lda, mm_ldl, mm_sti, mm_sta, mm_stl, mm_inc, mm_2i, mm_mm, mm_2l, mm_lcmp, mm_i2l, mm_l2i, mm_cast8, mm_if1, mm_if2, mm_cmp, mm_swi, mm_sw, mm_pop1, mm_dup, mm_dup2, mm_geti, mm_geta, mm_puti, mm_iald, mm_bald, mm_aald, mm_iast, mm_bast, mm_alen, mm_acpy, mm_call, mm_callv, mm_recv, mm_pop, mm_find, mm_push, mm_cats, mm_cat, mm_reti, mm_retz, mm_retl, mm_reta, mm_retv, mm_set1, mm_set2, mm_kill, List.getElem?_cons_zero, List.getElem?_cons_succ, Int.reduceToNat, ↓reduceIte, Nat.reduceEqDiff, Nat.reduceDiv, Nat.reduceAdd, Nat.reduceLeDiff, Nat.zero_le, true_and, and_true, true_or, or_true, mm_b0, mm_b1, mm_lc_lt, mm_lc_le, mm_lc_gt, mm_lc_ge, mm_lc_eq, Int.not_lt, Int.not_le, Decidable.not_not, Int.sub_neg]) | (refine hJ 14 _ _ _ ?_; show mm_wp _ _ _ mo_P_isNumber_14 _ _ _; simp only [mo_P_isNumber_14, mm_wp, mm_ldi, mm_lda, mm_ldl, mm_sti, mm_sta, mm_stl, mm_inc, mm_2i, mm_mm, mm_2l, mm_lcmp, mm_i2l, mm_l2i, mm_cast8, mm_if1, mm_if2, mm_cmp, mm_swi, mm_sw, mm_pop1, mm_dup, mm_dup2, mm_geti, mm_geta, mm_puti, mm_iald, mm_bald, mm_aald, mm_iast, mm_bast, mm_alen, mm_acpy, mm_call, mm_callv, mm_recv, mm_pop, mm_find, mm_push, mm_cats, mm_cat, mm_reti, mm_retz, mm_retl, mm_reta, mm_retv, mm_set1, mm_set2, mm_kill, List.getElem?_cons_zero, List.getElem?_cons_succ, Int.reduceToNat, ↓reduceIte, Nat.reduceEqDiff, Nat.reduceDiv, Nat.reduceAdd, Nat.reduceLeDiff, Nat.zero_le, true_and, and_true, true_or, or_true, mm_b0, mm_b1, mm_lc_lt, mm_lc_le, mm_lc_gt, mm_lc_ge, mm_lc_eq, Int.not_lt, Int.not_le, Decidable.not_not, Int.sub_neg]) | (refine hJ 15 _ _ _ ?_; show mm_wp _ _ _ mo_P_isNumber_15 _ _ _; simp only [mo_P_isNumber_15, mm_wp, mm_ldi, mm_lda, mm_ldl, mm_sti, mm_sta, mm_stl, mm_inc, mm_2i, mm_mm, mm_2l, mm_lcmp, mm_i2l, mm_l2i, mm_cast8, mm_if1, mm_if2, mm_cmp, mm_swi, mm_sw, mm_pop1, mm_dup, mm_dup2, mm_geti, mm_geta, mm_puti, mm_iald, mm_bald, mm_aald, mm_iast, mm_bast, mm_alen, mm_acpy, mm_call, mm_callv, mm_recv, mm_pop, mm_find, mm_push, mm_cats, mm_cat, mm_reti, mm_retz, mm_retl, mm_reta, mm_retv, mm_set1, mm_set2, mm_kill, List.getElem?_cons_zero, List.getElem?_cons_succ, Int.reduceToNat, ↓reduceIte, Nat.reduceEqDiff, Nat.reduceDiv, Nat.reduceAdd, Nat.reduceLeDiff, Nat.zero_le, true_and, and_true, true_or, or_true, mm_b0, mm_b1, mm_lc_lt, mm_lc_le, mm_lc_gt, mm_lc_ge, mm_lc_eq, Int.not_lt, Int.not_le, Decidable.not_not, Int.sub_neg])
  all_goals first | assumption | (exact Or.inl rfl) | (exact Or.inr rfl) | (exact rfl) | trivial | omega | (rw [mm_bF (by omega)] at h; exact h) | (rw [mm_bT (by omega)] at h; exact h)
/-- how often v stands among the n from a on -/
def hsN (f : Int → Int) (a v : Int) : Nat → Int
  | 0 => 0
  | n + 1 => hsN f a v n + mm_b (f (a + n) = v)
theorem hsN_b (f : Int → Int) (a v : Int) : ∀ n : Nat, 0 ≤ hsN f a v n ∧ hsN f a v n ≤ n
  | 0 => by simp [hsN]
  | n + 1 => by
    have h1 := hsN_b f a v n
    have h2 := mm_b_R (f (a + n) = v)
    simp only [hsN]
    omega
theorem hsN_cong {f g : Int → Int} {a v : Int} : ∀ n : Nat, (∀ k : Nat, k < n → f (a + k) = g (a + k)) → hsN f a v n = hsN g a v n
  | 0, _ => rfl
  | n + 1, h => by
    simp only [hsN]
    rw [hsN_cong n (fun k hk => h k (by omega)), h n (by omega)]
def t_Tal_take : mmT := fun as M Q => match as with
  | [.inr (.inr o), .inr (.inr a), .inl f, .inl l] => o = 23 ∧ a = 17 ∧ 0 ≤ f ∧ l ≤ 59 ∧ f ≤ l + 1 ∧ (∀ i, f ≤ i → i ≤ l → 0 ≤ M 17 i ∧ M 17 i < 64) ∧ ∀ M', (∀ o', o' ≠ 24 → M' o' = M o') → (∀ v, 0 ≤ v → v < 64 → M' 24 v = hsN (M 17) f v (l - f + 1).toNat) → Q none M'
  | _ => False
set_option maxHeartbeats 4000000 in
set_option maxRecDepth 100000 in
theorem p_Tal_take : ∀ as M Q, (∀ v ∈ as, mm_vin v) → mm_mem M → t_Tal_take as M Q → (mm_ent as).length ≤ 6 ∧ mm_ok mb_Tal_take [(1500, t_J_fill), (1029, t_P_isNumber)] (mm_entry 6 as) M Q := by
  intro as M Q hin hM h
  unfold t_Tal_take at h
  split at h
  rotate_left
  · exact h.elim
  rename_i o a f l
  have hR_f : mm_R f := hin (vi f) (by simp)
  have hR_l : mm_R l := hin (vi l) (by simp)
  refine ⟨by simp [mm_ent], (show mm_ok mb_Tal_take [(1500, t_J_fill), (1029, t_P_isNumber)] [some (vr o), some (vr a), some (vi f), some (vi l), none, none] M Q from ?_)⟩
  intro J hJ
  obtain ⟨rfl, rfl, h1, h2, h3, hn, h⟩ := h
  have hl : ∀ (d k : Nat) (x5 : Option mmV) (M1 : mmM), (k : Int) + d = l - f + 1 → (∀ o', o' ≠ 24 → M1 o' = M o') → (∀ v, 0 ≤ v → v < 64 → M1 24 v = hsN (M 17) f v k) → J 15 [some (vr 23), some (vr 17), some (vi f), some (vi l), some (vi (f + k)), x5] [] M1 := by
    intro d
    induction d with
    | zero =>
      intro k x5 M1 hk a1 b1
      have h59 : J 59 [some (vr 23), some (vr 17), some (vi f), some (vi l), some (vi (f + k)), x5] [] M1 := by
        refine hJ 59 _ _ _ (show mm_wp _ _ _ mo_Tal_take_59 _ _ _ from ?_)
        simp only [mo_Tal_take_59, mm_wp, mm_ldi, mm_lda, mm_ldl, mm_sti, mm_sta, mm_stl, mm_inc, mm_2i, mm_mm, mm_2l, mm_lcmp, mm_i2l, mm_l2i, mm_cast8, mm_if1, mm_if2, mm_cmp, mm_swi, mm_sw, mm_pop1, mm_dup, mm_dup2, mm_geti, mm_geta, mm_puti, mm_iald, mm_bald, mm_aald, mm_iast, mm_bast, mm_alen, mm_acpy, mm_call, mm_callv, mm_recv, mm_pop, mm_find, mm_push, mm_cats, mm_cat, mm_reti, mm_retz, mm_retl, mm_reta, mm_retv, mm_set1, mm_set2, mm_kill, List.getElem?_cons_zero, List.getElem?_cons_succ, Int.reduceToNat, ↓reduceIte, Nat.reduceEqDiff, Nat.reduceDiv, Nat.reduceAdd, Nat.reduceLeDiff, Nat.zero_le, true_and, and_true, true_or, or_true, mm_b0, mm_b1, mm_lc_lt, mm_lc_le, mm_lc_gt, mm_lc_ge, mm_lc_eq, Int.not_lt, Int.not_le, Decidable.not_not, Int.sub_neg]
        exact h M1 a1 (by rw [show (l - f + 1).toNat = k by omega]; exact b1)
      refine hJ 15 _ _ _ (show mm_wp _ _ _ mo_Tal_take_15 _ _ _ from ?_)
      simp only [mo_Tal_take_15, mm_wp, mm_ldi, mm_lda, mm_ldl, mm_sti, mm_sta, mm_stl, mm_inc, mm_2i, mm_mm, mm_2l, mm_lcmp, mm_i2l, mm_l2i, mm_cast8, mm_if1, mm_if2, mm_cmp, mm_swi, mm_sw, mm_pop1, mm_dup, mm_dup2, mm_geti, mm_geta, mm_puti, mm_iald, mm_bald, mm_aald, mm_iast, mm_bast, mm_alen, mm_acpy, mm_call, mm_callv, mm_recv, mm_pop, mm_find, mm_push, mm_cats, mm_cat, mm_reti, mm_retz, mm_retl, mm_reta, mm_retv, mm_set1, mm_set2, mm_kill, List.getElem?_cons_zero, List.getElem?_cons_succ, Int.reduceToNat, ↓reduceIte, Nat.reduceEqDiff, Nat.reduceDiv, Nat.reduceAdd, Nat.reduceLeDiff, Nat.zero_le, true_and, and_true, true_or, or_true, mm_b0, mm_b1, mm_lc_lt, mm_lc_le, mm_lc_gt, mm_lc_ge, mm_lc_eq, Int.not_lt, Int.not_le, Decidable.not_not, Int.sub_neg]
      exact ⟨fun _ => h59, fun z => by omega⟩
    | succ d ih =>
      intro k x5 M1 hk a1 b1
      have e17 : M1 17 = M 17 := a1 17 (by decide)
      have hv := hn (f + k) (by omega) (by omega)
      have hb := b1 (M 17 (f + k)) hv.1 hv.2
      have hbb := hsN_b (M 17) f (M 17 (f + k)) k
      have h53 : J 53 [some (vr 23), some (vr 17), some (vi f), some (vi l), some (vi (f + k)), some (vi (M 17 (f + k)))] [] (mm_up M1 24 (M 17 (f + k)) (M1 24 (M 17 (f + k)) + 1)) := by
        refine hJ 53 _ _ _ (show mm_wp _ _ _ mo_Tal_take_53 _ _ _ from ?_)
        simp only [mo_Tal_take_53, mm_wp, mm_ldi, mm_lda, mm_ldl, mm_sti, mm_sta, mm_stl, mm_inc, mm_2i, mm_mm, mm_2l, mm_lcmp, mm_i2l, mm_l2i, mm_cast8, mm_if1, mm_if2, mm_cmp, mm_swi, mm_sw, mm_pop1, mm_dup, mm_dup2, mm_geti, mm_geta, mm_puti, mm_iald, mm_bald, mm_aald, mm_iast, mm_bast, mm_alen, mm_acpy, mm_call, mm_callv, mm_recv, mm_pop, mm_find, mm_push, mm_cats, mm_cat, mm_reti, mm_retz, mm_retl, mm_reta, mm_retv, mm_set1, mm_set2, mm_kill, List.getElem?_cons_zero, List.getElem?_cons_succ, Int.reduceToNat, ↓reduceIte, Nat.reduceEqDiff, Nat.reduceDiv, Nat.reduceAdd, Nat.reduceLeDiff, Nat.zero_le, true_and, and_true, true_or, or_true, mm_b0, mm_b1, mm_lc_lt, mm_lc_le, mm_lc_gt, mm_lc_ge, mm_lc_eq, Int.not_lt, Int.not_le, Decidable.not_not, Int.sub_neg]
        refine ⟨by omega, ?_⟩
        rw [show f + (k : Int) + 1 = f + ((k + 1 : Nat) : Int) by omega]
        refine ih (k + 1) _ _ (by omega) (fun o' c => by rw [mm_up_o _ _ c, a1 o' c]) (fun v v0 v1 => ?_)
        rw [mm_up_if]
        simp only [hsN]
        by_cases c : v = M 17 (f + k)
        · rw [if_pos c, hb, mm_bT c.symm, c]
        · rw [if_neg c, b1 v v0 v1, mm_bF (fun z => c z.symm)]; omega
      refine hJ 15 _ _ _ (show mm_wp _ _ _ mo_Tal_take_15 _ _ _ from ?_)
      simp only [mo_Tal_take_15, mm_wp, mm_ldi, mm_lda, mm_ldl, mm_sti, mm_sta, mm_stl, mm_inc, mm_2i, mm_mm, mm_2l, mm_lcmp, mm_i2l, mm_l2i, mm_cast8, mm_if1, mm_if2, mm_cmp, mm_swi, mm_sw, mm_pop1, mm_dup, mm_dup2, mm_geti, mm_geta, mm_puti, mm_iald, mm_bald, mm_aald, mm_iast, mm_bast, mm_alen, mm_acpy, mm_call, mm_callv, mm_recv, mm_pop, mm_find, mm_push, mm_cats, mm_cat, mm_reti, mm_retz, mm_retl, mm_reta, mm_retv, mm_set1, mm_set2, mm_kill, List.getElem?_cons_zero, List.getElem?_cons_succ, Int.reduceToNat, ↓reduceIte, Nat.reduceEqDiff, Nat.reduceDiv, Nat.reduceAdd, Nat.reduceLeDiff, Nat.zero_le, true_and, and_true, true_or, or_true, mm_b0, mm_b1, mm_lc_lt, mm_lc_le, mm_lc_gt, mm_lc_ge, mm_lc_eq, Int.not_lt, Int.not_le, Decidable.not_not, Int.sub_neg, c_0, c_1, c_2, l_2, c_3, c_4, l_4, c_5, l_5, c_6, l_6, c_7, l_7, c_8, c_9, l_9, c_10, l_10, c_11, l_11, c_12, l_12, c_13, c_14, l_14, c_15, l_15, c_16, l_16, c_17, l_17, c_18, c_19, l_19, c_20, l_20, c_21, l_21, c_22, l_22, c_23, c_24, l_24, c_25, l_25, c_26, c_27, c_28, l_28, c_29, c_30, l_30, c_31, c_32, l_32, c_33, l_33, c_34, l_34, c_35, l_35, c_36, l_36, c_37, l_37, c_38, l_38, c_39, l_39, c_40, c_41, l_41, c_42, c_43, c_44, l_44, c_45, c_46, l_46, c_47, c_48, l_48, c_49, l_49, c_50, l_50, c_51, l_51, c_52, l_52, c_53, l_53, c_54, l_54, c_55, l_55, c_56, l_56, c_57, l_57, c_58, l_58, c_59, l_59, c_60, l_60, c_61, l_61, c_62, c_63, l_63, c_64, l_64, c_65, l_65, c_66, l_66, c_67, l_67, c_68, l_68, c_69, l_69, c_70, l_70, c_71, l_71, c_72, l_72, c_73, l_73, c_74, l_74, c_75, l_75, c_76, l_76, true_or, e17, t_P_isNumber]
      exact ⟨fun z => by omega, fun _ => ⟨fun z => by omega, fun _ => ⟨by omega, fun z => by omega, fun _ => ⟨by omega, by omega, by omega, h53⟩⟩⟩⟩
  refine hJ 0 _ _ _ (show mm_wp _ _ _ mo_Tal_take_0 _ _ _ from ?_)
  simp only [mo_Tal_take_0, mm_wp, mm_ldi, mm_lda, mm_ldl, mm_sti, mm_sta, mm_stl, mm_inc, mm_2i, mm_mm, mm_2l, mm_lcmp, mm_i2l, mm_l2i, mm_cast8, mm_if1, mm_if2, mm_cmp, mm_swi, mm_sw, mm_pop1, mm_dup, mm_dup2, mm_geti, mm_geta, mm_puti, mm_iald, mm_bald, mm_aald, mm_iast, mm_bast, mm_alen, mm_acpy, mm_call, mm_callv, mm_recv, mm_pop, mm_find, mm_push, mm_cats, mm_cat, mm_reti, mm_retz, mm_retl, mm_reta, mm_retv, mm_set1, mm_set2, mm_kill, List.getElem?_cons_zero, List.getElem?_cons_succ, Int.reduceToNat, ↓reduceIte, Nat.reduceEqDiff, Nat.reduceDiv, Nat.reduceAdd, Nat.reduceLeDiff, Nat.zero_le, true_and, and_true, true_or, or_true, mm_b0, mm_b1, mm_lc_lt, mm_lc_le, mm_lc_gt, mm_lc_ge, mm_lc_eq, Int.not_lt, Int.not_le, Decidable.not_not, Int.sub_neg, c_0, c_1, c_2, l_2, c_3, c_4, l_4, c_5, l_5, c_6, l_6, c_7, l_7, c_8, c_9, l_9, c_10, l_10, c_11, l_11, c_12, l_12, c_13, c_14, l_14, c_15, l_15, c_16, l_16, c_17, l_17, c_18, c_19, l_19, c_20, l_20, c_21, l_21, c_22, l_22, c_23, c_24, l_24, c_25, l_25, c_26, c_27, c_28, l_28, c_29, c_30, l_30, c_31, c_32, l_32, c_33, l_33, c_34, l_34, c_35, l_35, c_36, l_36, c_37, l_37, c_38, l_38, c_39, l_39, c_40, c_41, l_41, c_42, c_43, c_44, l_44, c_45, c_46, l_46, c_47, c_48, l_48, c_49, l_49, c_50, l_50, c_51, l_51, c_52, l_52, c_53, l_53, c_54, l_54, c_55, l_55, c_56, l_56, c_57, l_57, c_58, l_58, c_59, l_59, c_60, l_60, c_61, l_61, c_62, c_63, l_63, c_64, l_64, c_65, l_65, c_66, l_66, c_67, l_67, c_68, l_68, c_69, l_69, c_70, l_70, c_71, l_71, c_72, l_72, c_73, l_73, c_74, l_74, c_75, l_75, c_76, l_76, t_J_fill]
  refine fun M1 a1 b1 => ?_
  have := hl (l - f + 1).toNat 0 none M1 (by omega) a1 (fun v v0 v1 => b1 v v0 v1)
  rw [show f + ((0 : Nat) : Int) = max f 0 by omega] at this
  exact this
def amx (T : Int → Int) : Nat → Int
  | 0 => 0
  | n + 1 => if T (amx T n) < T ((n + 1 : Nat) : Int) then ((n + 1 : Nat) : Int) else amx T n
theorem amx_b (T : Int → Int) : ∀ n : Nat, 0 ≤ amx T n ∧ amx T n ≤ n
  | 0 => by simp [amx]
  | n + 1 => by
    have := amx_b T n
    simp only [amx]
    split <;> omega
theorem amx_cong {T T' : Int → Int} : ∀ n : Nat, (∀ v : Int, 0 ≤ v → v ≤ n → T v = T' v) → amx T n = amx T' n
  | 0, _ => rfl
  | n + 1, h => by
    have e := amx_cong n (fun v v0 v1 => h v v0 (by omega))
    have hb := amx_b T n
    simp only [amx]
    rw [← e, h (amx T n) hb.1 (by omega), h ((n + 1 : Nat) : Int) (by omega) (by omega)]
def misF (T : Int → Int) : Nat → Int → Int
  | 0, v => v
  | n + 1, v => if 0 < T v then misF T n (v + 1) else v
theorem misF_cong {T T' : Int → Int} : ∀ (n : Nat) (v : Int), (∀ w : Int, v ≤ w → w < v + n → T w = T' w) → misF T n v = misF T' n v
  | 0, _, _ => rfl
  | n + 1, v, h => by
    simp only [misF]
    rw [h v (by omega) (by omega), misF_cong n (v + 1) (fun w a b => h w (by omega) (by omega))]
def jn (N : Int → Int) (a b : Int) : Int → Int := fun j => if N j = N b then N a else N j
def clS (T : Int → Int) : Nat → (Int → Int) × Int
  | 0 => (fun j => j, 8)
  | n + 1 => if 0 < T n then (jn (clS T n).1 ((n : Int) / 8) ((n : Int) % 8), if (clS T n).1 ((n : Int) / 8) = (clS T n).1 ((n : Int) % 8) then (clS T n).2 else (clS T n).2 - 1) else clS T n
theorem clS_cong {T T' : Int → Int} : ∀ n : Nat, (∀ v : Nat, v < n → T v = T' v) → clS T n = clS T' n
  | 0, _ => rfl
  | n + 1, h => by
    simp only [clS]
    rw [clS_cong n (fun v hv => h v (by omega)), h n (by omega)]
/-- what a kind tells of the times T -/
def tell (T : Int → Int) (k : Int) : Int :=
  if k = 0 then sN (fun v => v * T v) 64
  else if k = 1 then sN (fun v => mm_b (0 < T v)) 64
  else if k = 2 then T (amx T 63)
  else if k = 3 then amx T 63
  else if k = 4 then sN (fun v => T v * T v * v) 64
  else if k = 5 then misF T 64 0
  else if k = 6 then (clS T 64).2
  else sN (fun v => (T v * (T v - 1)).tdiv 2) 64
theorem tell_cong {T T' : Int → Int} {k : Int} (h : ∀ v, 0 ≤ v → v < 64 → T v = T' v) : tell T k = tell T' k := by
  have hb := amx_b T 63
  have e := amx_cong (T := T) (T' := T') 63 (fun v a b => h v a (by omega))
  unfold tell
  rw [sN_cong (f := fun v => v * T v) (g := fun v => v * T' v) 64 (fun k hk => by rw [h k (by omega) (by omega)]), sN_cong (f := fun v => mm_b (0 < T v)) (g := fun v => mm_b (0 < T' v)) 64 (fun k hk => by rw [h k (by omega) (by omega)]), sN_cong (f := fun v => T v * T v * v) (g := fun v => T' v * T' v * v) 64 (fun k hk => by rw [h k (by omega) (by omega)]), sN_cong (f := fun v => (T v * (T v - 1)).tdiv 2) (g := fun v => (T' v * (T' v - 1)).tdiv 2) 64 (fun k hk => by rw [h k (by omega) (by omega)]), misF_cong (T := T) (T' := T') 64 0 (fun w a b => h w (by omega) (by omega)), clS_cong (T := T) (T' := T') 64 (fun v hv => h v (by omega) (by omega)), ← e, h (amx T 63) hb.1 (by omega)]
def tB (M : mmM) : Prop := ∀ v, 0 ≤ v → v < 64 → 0 ≤ M 24 v ∧ M 24 v ≤ 60
theorem mul_b {a b A B : Int} (a0 : 0 ≤ a) (a1 : a ≤ A) (b0 : 0 ≤ b) (b1 : b ≤ B) : 0 ≤ a * b ∧ a * b ≤ A * B := ⟨Int.mul_nonneg a0 b0, Int.mul_le_mul a1 b1 b0 (by omega)⟩
def t_Tal_sum : mmT := fun as M Q => match as with
  | [.inr (.inr o)] => o = 23 ∧ tB M ∧ Q (some (vl (sN (fun v => v * M 24 v) 64))) M
  | _ => False
set_option maxHeartbeats 4000000 in
set_option maxRecDepth 100000 in
theorem p_Tal_sum : ∀ as M Q, (∀ v ∈ as, mm_vin v) → mm_mem M → t_Tal_sum as M Q → (mm_ent as).length ≤ 4 ∧ mm_ok mb_Tal_sum [] (mm_entry 4 as) M Q := by
  intro as M Q hin hM h
  unfold t_Tal_sum at h
  split at h
  rotate_left
  · exact h.elim
  rename_i o
  refine ⟨by simp [mm_ent], (show mm_ok mb_Tal_sum [] [some (vr o), none, none, none] M Q from ?_)⟩
  intro J hJ
  obtain ⟨rfl, hT, h⟩ := h
  have hb : ∀ k : Nat, k < 64 → 0 ≤ (k : Int) * M 24 k ∧ (k : Int) * M 24 k ≤ 63 * 60 := fun k hk => mul_b (by omega) (by omega) (hT k (by omega) (by omega)).1 (hT k (by omega) (by omega)).2
  have hs : ∀ n : Nat, n ≤ 64 → 0 ≤ sN (fun v => v * M 24 v) n ∧ sN (fun v => v * M 24 v) n ≤ 3780 * n := fun n hn => by
    have := sN_b (f := fun v => v * M 24 v) (a := 0) (b := 3780) n (fun k hk => hb k (by omega))
    omega
  have hl : ∀ (d k : Nat), k + d = 64 → J 4 [some (vr 23), some (vl (sN (fun v => v * M 24 v) k)), none, some (vi k)] [] M := by
    intro d
    induction d with
    | zero =>
      intro k hk
      have h29 : J 29 [some (vr 23), some (vl (sN (fun v => v * M 24 v) k)), none, some (vi k)] [] M := by
        refine hJ 29 _ _ _ (show mm_wp _ _ _ mo_Tal_sum_29 _ _ _ from ?_)
        simp only [mo_Tal_sum_29, mm_wp, mm_ldi, mm_lda, mm_ldl, mm_sti, mm_sta, mm_stl, mm_inc, mm_2i, mm_mm, mm_2l, mm_lcmp, mm_i2l, mm_l2i, mm_cast8, mm_if1, mm_if2, mm_cmp, mm_swi, mm_sw, mm_pop1, mm_dup, mm_dup2, mm_geti, mm_geta, mm_puti, mm_iald, mm_bald, mm_aald, mm_iast, mm_bast, mm_alen, mm_acpy, mm_call, mm_callv, mm_recv, mm_pop, mm_find, mm_push, mm_cats, mm_cat, mm_reti, mm_retz, mm_retl, mm_reta, mm_retv, mm_set1, mm_set2, mm_kill, List.getElem?_cons_zero, List.getElem?_cons_succ, Int.reduceToNat, ↓reduceIte, Nat.reduceEqDiff, Nat.reduceDiv, Nat.reduceAdd, Nat.reduceLeDiff, Nat.zero_le, true_and, and_true, true_or, or_true, mm_b0, mm_b1, mm_lc_lt, mm_lc_le, mm_lc_gt, mm_lc_ge, mm_lc_eq, Int.not_lt, Int.not_le, Decidable.not_not, Int.sub_neg]
        rw [show k = 64 by omega]; exact h
      refine hJ 4 _ _ _ (show mm_wp _ _ _ mo_Tal_sum_4 _ _ _ from ?_)
      simp only [mo_Tal_sum_4, mm_wp, mm_ldi, mm_lda, mm_ldl, mm_sti, mm_sta, mm_stl, mm_inc, mm_2i, mm_mm, mm_2l, mm_lcmp, mm_i2l, mm_l2i, mm_cast8, mm_if1, mm_if2, mm_cmp, mm_swi, mm_sw, mm_pop1, mm_dup, mm_dup2, mm_geti, mm_geta, mm_puti, mm_iald, mm_bald, mm_aald, mm_iast, mm_bast, mm_alen, mm_acpy, mm_call, mm_callv, mm_recv, mm_pop, mm_find, mm_push, mm_cats, mm_cat, mm_reti, mm_retz, mm_retl, mm_reta, mm_retv, mm_set1, mm_set2, mm_kill, List.getElem?_cons_zero, List.getElem?_cons_succ, Int.reduceToNat, ↓reduceIte, Nat.reduceEqDiff, Nat.reduceDiv, Nat.reduceAdd, Nat.reduceLeDiff, Nat.zero_le, true_and, and_true, true_or, or_true, mm_b0, mm_b1, mm_lc_lt, mm_lc_le, mm_lc_gt, mm_lc_ge, mm_lc_eq, Int.not_lt, Int.not_le, Decidable.not_not, Int.sub_neg]
      exact ⟨fun _ => h29, fun z => by omega⟩
    | succ d ih =>
      intro k hk
      have b1 := hb k (by omega)
      have b2 := hs k (by omega)
      refine hJ 4 _ _ _ (show mm_wp _ _ _ mo_Tal_sum_4 _ _ _ from ?_)
      simp only [mo_Tal_sum_4, mm_wp, mm_ldi, mm_lda, mm_ldl, mm_sti, mm_sta, mm_stl, mm_inc, mm_2i, mm_mm, mm_2l, mm_lcmp, mm_i2l, mm_l2i, mm_cast8, mm_if1, mm_if2, mm_cmp, mm_swi, mm_sw, mm_pop1, mm_dup, mm_dup2, mm_geti, mm_geta, mm_puti, mm_iald, mm_bald, mm_aald, mm_iast, mm_bast, mm_alen, mm_acpy, mm_call, mm_callv, mm_recv, mm_pop, mm_find, mm_push, mm_cats, mm_cat, mm_reti, mm_retz, mm_retl, mm_reta, mm_retv, mm_set1, mm_set2, mm_kill, List.getElem?_cons_zero, List.getElem?_cons_succ, Int.reduceToNat, ↓reduceIte, Nat.reduceEqDiff, Nat.reduceDiv, Nat.reduceAdd, Nat.reduceLeDiff, Nat.zero_le, true_and, and_true, true_or, or_true, mm_b0, mm_b1, mm_lc_lt, mm_lc_le, mm_lc_gt, mm_lc_ge, mm_lc_eq, Int.not_lt, Int.not_le, Decidable.not_not, Int.sub_neg, c_0, c_1, c_2, l_2, c_3, c_4, l_4, c_5, l_5, c_6, l_6, c_7, l_7, c_8, c_9, l_9, c_10, l_10, c_11, l_11, c_12, l_12, c_13, c_14, l_14, c_15, l_15, c_16, l_16, c_17, l_17, c_18, c_19, l_19, c_20, l_20, c_21, l_21, c_22, l_22, c_23, c_24, l_24, c_25, l_25, c_26, c_27, c_28, l_28, c_29, c_30, l_30, c_31, c_32, l_32, c_33, l_33, c_34, l_34, c_35, l_35, c_36, l_36, c_37, l_37, c_38, l_38, c_39, l_39, c_40, c_41, l_41, c_42, c_43, c_44, l_44, c_45, c_46, l_46, c_47, c_48, l_48, c_49, l_49, c_50, l_50, c_51, l_51, c_52, l_52, c_53, l_53, c_54, l_54, c_55, l_55, c_56, l_56, c_57, l_57, c_58, l_58, c_59, l_59, c_60, l_60, c_61, l_61, c_62, c_63, l_63, c_64, l_64, c_65, l_65, c_66, l_66, c_67, l_67, c_68, l_68, c_69, l_69, c_70, l_70, c_71, l_71, c_72, l_72, c_73, l_73, c_74, l_74, c_75, l_75, c_76, l_76]
      refine ⟨fun z => by omega, fun _ => ?_⟩
      repeat (refine And.intro (by omega) ?_)
      exact ih (k + 1) (by omega)
  refine hJ 0 _ _ _ (show mm_wp _ _ _ mo_Tal_sum_0 _ _ _ from ?_)
  simp only [mo_Tal_sum_0, mm_wp, mm_ldi, mm_lda, mm_ldl, mm_sti, mm_sta, mm_stl, mm_inc, mm_2i, mm_mm, mm_2l, mm_lcmp, mm_i2l, mm_l2i, mm_cast8, mm_if1, mm_if2, mm_cmp, mm_swi, mm_sw, mm_pop1, mm_dup, mm_dup2, mm_geti, mm_geta, mm_puti, mm_iald, mm_bald, mm_aald, mm_iast, mm_bast, mm_alen, mm_acpy, mm_call, mm_callv, mm_recv, mm_pop, mm_find, mm_push, mm_cats, mm_cat, mm_reti, mm_retz, mm_retl, mm_reta, mm_retv, mm_set1, mm_set2, mm_kill, List.getElem?_cons_zero, List.getElem?_cons_succ, Int.reduceToNat, ↓reduceIte, Nat.reduceEqDiff, Nat.reduceDiv, Nat.reduceAdd, Nat.reduceLeDiff, Nat.zero_le, true_and, and_true, true_or, or_true, mm_b0, mm_b1, mm_lc_lt, mm_lc_le, mm_lc_gt, mm_lc_ge, mm_lc_eq, Int.not_lt, Int.not_le, Decidable.not_not, Int.sub_neg]
  exact hl 64 0 rfl
def t_Tal_unlike : mmT := fun as M Q => match as with
  | [.inr (.inr o)] => o = 23 ∧ tB M ∧ Q (some (vl (sN (fun v => mm_b (0 < M 24 v)) 64))) M
  | _ => False
set_option maxHeartbeats 4000000 in
set_option maxRecDepth 100000 in
theorem p_Tal_unlike : ∀ as M Q, (∀ v ∈ as, mm_vin v) → mm_mem M → t_Tal_unlike as M Q → (mm_ent as).length ≤ 4 ∧ mm_ok mb_Tal_unlike [] (mm_entry 4 as) M Q := by
  intro as M Q hin hM h
  unfold t_Tal_unlike at h
  split at h
  rotate_left
  · exact h.elim
  rename_i o
  refine ⟨by simp [mm_ent], (show mm_ok mb_Tal_unlike [] [some (vr o), none, none, none] M Q from ?_)⟩
  intro J hJ
  obtain ⟨rfl, hT, h⟩ := h
  generalize hf : (fun v => mm_b (0 < M 24 v)) = f at h
  have hfv : ∀ v, f v = mm_b (0 < M 24 v) := fun v => by rw [← hf]
  have hs : ∀ n : Nat, 0 ≤ sN f n ∧ sN f n ≤ n := fun n => by
    have := sN_b (f := f) (a := 0) (b := 1) n (fun k hk => by rw [hfv]; exact mm_b_R _)
    omega
  have hl : ∀ (d k : Nat), k + d = 64 → J 4 [some (vr 23), some (vl (sN f k)), none, some (vi k)] [] M := by
    intro d
    induction d with
    | zero =>
      intro k hk
      have h29 : J 29 [some (vr 23), some (vl (sN f k)), none, some (vi k)] [] M := by
        refine hJ 29 _ _ _ (show mm_wp _ _ _ mo_Tal_unlike_29 _ _ _ from ?_)
        simp only [mo_Tal_unlike_29, mm_wp, mm_ldi, mm_lda, mm_ldl, mm_sti, mm_sta, mm_stl, mm_inc, mm_2i, mm_mm, mm_2l, mm_lcmp, mm_i2l, mm_l2i, mm_cast8, mm_if1, mm_if2, mm_cmp, mm_swi, mm_sw, mm_pop1, mm_dup, mm_dup2, mm_geti, mm_geta, mm_puti, mm_iald, mm_bald, mm_aald, mm_iast, mm_bast, mm_alen, mm_acpy, mm_call, mm_callv, mm_recv, mm_pop, mm_find, mm_push, mm_cats, mm_cat, mm_reti, mm_retz, mm_retl, mm_reta, mm_retv, mm_set1, mm_set2, mm_kill, List.getElem?_cons_zero, List.getElem?_cons_succ, Int.reduceToNat, ↓reduceIte, Nat.reduceEqDiff, Nat.reduceDiv, Nat.reduceAdd, Nat.reduceLeDiff, Nat.zero_le, true_and, and_true, true_or, or_true, mm_b0, mm_b1, mm_lc_lt, mm_lc_le, mm_lc_gt, mm_lc_ge, mm_lc_eq, Int.not_lt, Int.not_le, Decidable.not_not, Int.sub_neg]
        rw [show k = 64 by omega]; exact h
      refine hJ 4 _ _ _ (show mm_wp _ _ _ mo_Tal_unlike_4 _ _ _ from ?_)
      simp only [mo_Tal_unlike_4, mm_wp, mm_ldi, mm_lda, mm_ldl, mm_sti, mm_sta, mm_stl, mm_inc, mm_2i, mm_mm, mm_2l, mm_lcmp, mm_i2l, mm_l2i, mm_cast8, mm_if1, mm_if2, mm_cmp, mm_swi, mm_sw, mm_pop1, mm_dup, mm_dup2, mm_geti, mm_geta, mm_puti, mm_iald, mm_bald, mm_aald, mm_iast, mm_bast, mm_alen, mm_acpy, mm_call, mm_callv, mm_recv, mm_pop, mm_find, mm_push, mm_cats, mm_cat, mm_reti, mm_retz, mm_retl, mm_reta, mm_retv, mm_set1, mm_set2, mm_kill, List.getElem?_cons_zero, List.getElem?_cons_succ, Int.reduceToNat, ↓reduceIte, Nat.reduceEqDiff, Nat.reduceDiv, Nat.reduceAdd, Nat.reduceLeDiff, Nat.zero_le, true_and, and_true, true_or, or_true, mm_b0, mm_b1, mm_lc_lt, mm_lc_le, mm_lc_gt, mm_lc_ge, mm_lc_eq, Int.not_lt, Int.not_le, Decidable.not_not, Int.sub_neg]
      exact ⟨fun _ => h29, fun z => by omega⟩
    | succ d ih =>
      intro k hk
      have b2 := hs k
      have h23 : ∀ z, z = sN f (k + 1) → J 23 [some (vr 23), some (vl z), none, some (vi k)] [] M := by
        intro z hz
        refine hJ 23 _ _ _ (show mm_wp _ _ _ mo_Tal_unlike_23 _ _ _ from ?_)
        simp only [mo_Tal_unlike_23, mm_wp, mm_ldi, mm_lda, mm_ldl, mm_sti, mm_sta, mm_stl, mm_inc, mm_2i, mm_mm, mm_2l, mm_lcmp, mm_i2l, mm_l2i, mm_cast8, mm_if1, mm_if2, mm_cmp, mm_swi, mm_sw, mm_pop1, mm_dup, mm_dup2, mm_geti, mm_geta, mm_puti, mm_iald, mm_bald, mm_aald, mm_iast, mm_bast, mm_alen, mm_acpy, mm_call, mm_callv, mm_recv, mm_pop, mm_find, mm_push, mm_cats, mm_cat, mm_reti, mm_retz, mm_retl, mm_reta, mm_retv, mm_set1, mm_set2, mm_kill, List.getElem?_cons_zero, List.getElem?_cons_succ, Int.reduceToNat, ↓reduceIte, Nat.reduceEqDiff, Nat.reduceDiv, Nat.reduceAdd, Nat.reduceLeDiff, Nat.zero_le, true_and, and_true, true_or, or_true, mm_b0, mm_b1, mm_lc_lt, mm_lc_le, mm_lc_gt, mm_lc_ge, mm_lc_eq, Int.not_lt, Int.not_le, Decidable.not_not, Int.sub_neg]
        rw [hz]
        exact ⟨by omega, ih (k + 1) (by omega)⟩
      refine hJ 4 _ _ _ (show mm_wp _ _ _ mo_Tal_unlike_4 _ _ _ from ?_)
      simp only [mo_Tal_unlike_4, mm_wp, mm_ldi, mm_lda, mm_ldl, mm_sti, mm_sta, mm_stl, mm_inc, mm_2i, mm_mm, mm_2l, mm_lcmp, mm_i2l, mm_l2i, mm_cast8, mm_if1, mm_if2, mm_cmp, mm_swi, mm_sw, mm_pop1, mm_dup, mm_dup2, mm_geti, mm_geta, mm_puti, mm_iald, mm_bald, mm_aald, mm_iast, mm_bast, mm_alen, mm_acpy, mm_call, mm_callv, mm_recv, mm_pop, mm_find, mm_push, mm_cats, mm_cat, mm_reti, mm_retz, mm_retl, mm_reta, mm_retv, mm_set1, mm_set2, mm_kill, List.getElem?_cons_zero, List.getElem?_cons_succ, Int.reduceToNat, ↓reduceIte, Nat.reduceEqDiff, Nat.reduceDiv, Nat.reduceAdd, Nat.reduceLeDiff, Nat.zero_le, true_and, and_true, true_or, or_true, mm_b0, mm_b1, mm_lc_lt, mm_lc_le, mm_lc_gt, mm_lc_ge, mm_lc_eq, Int.not_lt, Int.not_le, Decidable.not_not, Int.sub_neg, c_0, c_1, c_2, l_2, c_3, c_4, l_4, c_5, l_5, c_6, l_6, c_7, l_7, c_8, c_9, l_9, c_10, l_10, c_11, l_11, c_12, l_12, c_13, c_14, l_14, c_15, l_15, c_16, l_16, c_17, l_17, c_18, c_19, l_19, c_20, l_20, c_21, l_21, c_22, l_22, c_23, c_24, l_24, c_25, l_25, c_26, c_27, c_28, l_28, c_29, c_30, l_30, c_31, c_32, l_32, c_33, l_33, c_34, l_34, c_35, l_35, c_36, l_36, c_37, l_37, c_38, l_38, c_39, l_39, c_40, c_41, l_41, c_42, c_43, c_44, l_44, c_45, c_46, l_46, c_47, c_48, l_48, c_49, l_49, c_50, l_50, c_51, l_51, c_52, l_52, c_53, l_53, c_54, l_54, c_55, l_55, c_56, l_56, c_57, l_57, c_58, l_58, c_59, l_59, c_60, l_60, c_61, l_61, c_62, c_63, l_63, c_64, l_64, c_65, l_65, c_66, l_66, c_67, l_67, c_68, l_68, c_69, l_69, c_70, l_70, c_71, l_71, c_72, l_72, c_73, l_73, c_74, l_74, c_75, l_75, c_76, l_76]
      refine ⟨fun z => by omega, fun _ => ⟨by omega, fun z => h23 _ ?_, fun z => ⟨by omega, h23 _ ?_⟩⟩⟩
      · show _ = sN f k + f k
        rw [hfv, mm_bF (by omega)]; omega
      · show _ = sN f k + f k
        rw [hfv, mm_bT (by omega)]
  refine hJ 0 _ _ _ (show mm_wp _ _ _ mo_Tal_unlike_0 _ _ _ from ?_)
  simp only [mo_Tal_unlike_0, mm_wp, mm_ldi, mm_lda, mm_ldl, mm_sti, mm_sta, mm_stl, mm_inc, mm_2i, mm_mm, mm_2l, mm_lcmp, mm_i2l, mm_l2i, mm_cast8, mm_if1, mm_if2, mm_cmp, mm_swi, mm_sw, mm_pop1, mm_dup, mm_dup2, mm_geti, mm_geta, mm_puti, mm_iald, mm_bald, mm_aald, mm_iast, mm_bast, mm_alen, mm_acpy, mm_call, mm_callv, mm_recv, mm_pop, mm_find, mm_push, mm_cats, mm_cat, mm_reti, mm_retz, mm_retl, mm_reta, mm_retv, mm_set1, mm_set2, mm_kill, List.getElem?_cons_zero, List.getElem?_cons_succ, Int.reduceToNat, ↓reduceIte, Nat.reduceEqDiff, Nat.reduceDiv, Nat.reduceAdd, Nat.reduceLeDiff, Nat.zero_le, true_and, and_true, true_or, or_true, mm_b0, mm_b1, mm_lc_lt, mm_lc_le, mm_lc_gt, mm_lc_ge, mm_lc_eq, Int.not_lt, Int.not_le, Decidable.not_not, Int.sub_neg]
  exact hl 64 0 rfl
def t_Tal_mostFrequent : mmT := fun as M Q => match as with
  | [.inr (.inr o)] => o = 23 ∧ Q (some (vi (amx (M 24) 63))) M
  | _ => False
set_option maxHeartbeats 4000000 in
set_option maxRecDepth 100000 in
theorem p_Tal_mostFrequent : ∀ as M Q, (∀ v ∈ as, mm_vin v) → mm_mem M → t_Tal_mostFrequent as M Q → (mm_ent as).length ≤ 3 ∧ mm_ok mb_Tal_mostFrequent [] (mm_entry 3 as) M Q := by
  intro as M Q hin hM h
  unfold t_Tal_mostFrequent at h
  split at h
  rotate_left
  · exact h.elim
  rename_i o
  refine ⟨by simp [mm_ent], (show mm_ok mb_Tal_mostFrequent [] [some (vr o), none, none] M Q from ?_)⟩
  intro J hJ
  obtain ⟨rfl, h⟩ := h
  have hl : ∀ (d k : Nat), k + d = 63 → J 4 [some (vr 23), some (vi (amx (M 24) k)), some (vi ((k + 1 : Nat) : Int))] [] M := by
    intro d
    induction d with
    | zero =>
      intro k hk
      have h33 : J 33 [some (vr 23), some (vi (amx (M 24) k)), some (vi ((k + 1 : Nat) : Int))] [] M := by
        refine hJ 33 _ _ _ (show mm_wp _ _ _ mo_Tal_mostFrequent_33 _ _ _ from ?_)
        simp only [mo_Tal_mostFrequent_33, mm_wp, mm_ldi, mm_lda, mm_ldl, mm_sti, mm_sta, mm_stl, mm_inc, mm_2i, mm_mm, mm_2l, mm_lcmp, mm_i2l, mm_l2i, mm_cast8, mm_if1, mm_if2, mm_cmp, mm_swi, mm_sw, mm_pop1, mm_dup, mm_dup2, mm_geti, mm_geta, mm_puti, mm_iald, mm_bald, mm_aald, mm_iast, mm_bast, mm_alen, mm_acpy, mm_call, mm_callv, mm_recv, mm_pop, mm_find, mm_push, mm_cats, mm_cat, mm_reti, mm_retz, mm_retl, mm_reta, mm_retv, mm_set1, mm_set2, mm_kill, List.getElem?_cons_zero, List.getElem?_cons_succ, Int.reduceToNat, ↓reduceIte, Nat.reduceEqDiff, Nat.reduceDiv, Nat.reduceAdd, Nat.reduceLeDiff, Nat.zero_le, true_and, and_true, true_or, or_true, mm_b0, mm_b1, mm_lc_lt, mm_lc_le, mm_lc_gt, mm_lc_ge, mm_lc_eq, Int.not_lt, Int.not_le, Decidable.not_not, Int.sub_neg]
        rw [show k = 63 by omega]; exact h
      refine hJ 4 _ _ _ (show mm_wp _ _ _ mo_Tal_mostFrequent_4 _ _ _ from ?_)
      simp only [mo_Tal_mostFrequent_4, mm_wp, mm_ldi, mm_lda, mm_ldl, mm_sti, mm_sta, mm_stl, mm_inc, mm_2i, mm_mm, mm_2l, mm_lcmp, mm_i2l, mm_l2i, mm_cast8, mm_if1, mm_if2, mm_cmp, mm_swi, mm_sw, mm_pop1, mm_dup, mm_dup2, mm_geti, mm_geta, mm_puti, mm_iald, mm_bald, mm_aald, mm_iast, mm_bast, mm_alen, mm_acpy, mm_call, mm_callv, mm_recv, mm_pop, mm_find, mm_push, mm_cats, mm_cat, mm_reti, mm_retz, mm_retl, mm_reta, mm_retv, mm_set1, mm_set2, mm_kill, List.getElem?_cons_zero, List.getElem?_cons_succ, Int.reduceToNat, ↓reduceIte, Nat.reduceEqDiff, Nat.reduceDiv, Nat.reduceAdd, Nat.reduceLeDiff, Nat.zero_le, true_and, and_true, true_or, or_true, mm_b0, mm_b1, mm_lc_lt, mm_lc_le, mm_lc_gt, mm_lc_ge, mm_lc_eq, Int.not_lt, Int.not_le, Decidable.not_not, Int.sub_neg]
      exact ⟨fun _ => h33, fun z => by omega⟩
    | succ d ih =>
      intro k hk
      have hb := amx_b (M 24) k
      have h27 : ∀ z, z = amx (M 24) (k + 1) → J 27 [some (vr 23), some (vi z), some (vi ((k + 1 : Nat) : Int))] [] M := by
        intro z hz
        refine hJ 27 _ _ _ (show mm_wp _ _ _ mo_Tal_mostFrequent_27 _ _ _ from ?_)
        simp only [mo_Tal_mostFrequent_27, mm_wp, mm_ldi, mm_lda, mm_ldl, mm_sti, mm_sta, mm_stl, mm_inc, mm_2i, mm_mm, mm_2l, mm_lcmp, mm_i2l, mm_l2i, mm_cast8, mm_if1, mm_if2, mm_cmp, mm_swi, mm_sw, mm_pop1, mm_dup, mm_dup2, mm_geti, mm_geta, mm_puti, mm_iald, mm_bald, mm_aald, mm_iast, mm_bast, mm_alen, mm_acpy, mm_call, mm_callv, mm_recv, mm_pop, mm_find, mm_push, mm_cats, mm_cat, mm_reti, mm_retz, mm_retl, mm_reta, mm_retv, mm_set1, mm_set2, mm_kill, List.getElem?_cons_zero, List.getElem?_cons_succ, Int.reduceToNat, ↓reduceIte, Nat.reduceEqDiff, Nat.reduceDiv, Nat.reduceAdd, Nat.reduceLeDiff, Nat.zero_le, true_and, and_true, true_or, or_true, mm_b0, mm_b1, mm_lc_lt, mm_lc_le, mm_lc_gt, mm_lc_ge, mm_lc_eq, Int.not_lt, Int.not_le, Decidable.not_not, Int.sub_neg]
        rw [hz, show ((k + 1 : Nat) : Int) + 1 = ((k + 1 + 1 : Nat) : Int) by omega]
        exact ⟨by omega, ih (k + 1) (by omega)⟩
      refine hJ 4 _ _ _ (show mm_wp _ _ _ mo_Tal_mostFrequent_4 _ _ _ from ?_)
      simp only [mo_Tal_mostFrequent_4, mm_wp, mm_ldi, mm_lda, mm_ldl, mm_sti, mm_sta, mm_stl, mm_inc, mm_2i, mm_mm, mm_2l, mm_lcmp, mm_i2l, mm_l2i, mm_cast8, mm_if1, mm_if2, mm_cmp, mm_swi, mm_sw, mm_pop1, mm_dup, mm_dup2, mm_geti, mm_geta, mm_puti, mm_iald, mm_bald, mm_aald, mm_iast, mm_bast, mm_alen, mm_acpy, mm_call, mm_callv, mm_recv, mm_pop, mm_find, mm_push, mm_cats, mm_cat, mm_reti, mm_retz, mm_retl, mm_reta, mm_retv, mm_set1, mm_set2, mm_kill, List.getElem?_cons_zero, List.getElem?_cons_succ, Int.reduceToNat, ↓reduceIte, Nat.reduceEqDiff, Nat.reduceDiv, Nat.reduceAdd, Nat.reduceLeDiff, Nat.zero_le, true_and, and_true, true_or, or_true, mm_b0, mm_b1, mm_lc_lt, mm_lc_le, mm_lc_gt, mm_lc_ge, mm_lc_eq, Int.not_lt, Int.not_le, Decidable.not_not, Int.sub_neg, c_0, c_1, c_2, l_2, c_3, c_4, l_4, c_5, l_5, c_6, l_6, c_7, l_7, c_8, c_9, l_9, c_10, l_10, c_11, l_11, c_12, l_12, c_13, c_14, l_14, c_15, l_15, c_16, l_16, c_17, l_17, c_18, c_19, l_19, c_20, l_20, c_21, l_21, c_22, l_22, c_23, c_24, l_24, c_25, l_25, c_26, c_27, c_28, l_28, c_29, c_30, l_30, c_31, c_32, l_32, c_33, l_33, c_34, l_34, c_35, l_35, c_36, l_36, c_37, l_37, c_38, l_38, c_39, l_39, c_40, c_41, l_41, c_42, c_43, c_44, l_44, c_45, c_46, l_46, c_47, c_48, l_48, c_49, l_49, c_50, l_50, c_51, l_51, c_52, l_52, c_53, l_53, c_54, l_54, c_55, l_55, c_56, l_56, c_57, l_57, c_58, l_58, c_59, l_59, c_60, l_60, c_61, l_61, c_62, c_63, l_63, c_64, l_64, c_65, l_65, c_66, l_66, c_67, l_67, c_68, l_68, c_69, l_69, c_70, l_70, c_71, l_71, c_72, l_72, c_73, l_73, c_74, l_74, c_75, l_75, c_76, l_76]
      refine ⟨fun z => by omega, fun _ => ⟨by omega, by omega, fun z => h27 _ ?_, fun z => h27 _ ?_⟩⟩
      · simp only [amx]; rw [if_neg (by omega)]
      · simp only [amx]; rw [if_pos (by omega)]
  refine hJ 0 _ _ _ (show mm_wp _ _ _ mo_Tal_mostFrequent_0 _ _ _ from ?_)
  simp only [mo_Tal_mostFrequent_0, mm_wp, mm_ldi, mm_lda, mm_ldl, mm_sti, mm_sta, mm_stl, mm_inc, mm_2i, mm_mm, mm_2l, mm_lcmp, mm_i2l, mm_l2i, mm_cast8, mm_if1, mm_if2, mm_cmp, mm_swi, mm_sw, mm_pop1, mm_dup, mm_dup2, mm_geti, mm_geta, mm_puti, mm_iald, mm_bald, mm_aald, mm_iast, mm_bast, mm_alen, mm_acpy, mm_call, mm_callv, mm_recv, mm_pop, mm_find, mm_push, mm_cats, mm_cat, mm_reti, mm_retz, mm_retl, mm_reta, mm_retv, mm_set1, mm_set2, mm_kill, List.getElem?_cons_zero, List.getElem?_cons_succ, Int.reduceToNat, ↓reduceIte, Nat.reduceEqDiff, Nat.reduceDiv, Nat.reduceAdd, Nat.reduceLeDiff, Nat.zero_le, true_and, and_true, true_or, or_true, mm_b0, mm_b1, mm_lc_lt, mm_lc_le, mm_lc_gt, mm_lc_ge, mm_lc_eq, Int.not_lt, Int.not_le, Decidable.not_not, Int.sub_neg]
  exact hl 63 0 rfl
def t_Tal_power : mmT := fun as M Q => match as with
  | [.inr (.inr o)] => o = 23 ∧ tB M ∧ Q (some (vl (sN (fun v => M 24 v * M 24 v * v) 64))) M
  | _ => False
set_option maxHeartbeats 4000000 in
set_option maxRecDepth 100000 in
theorem p_Tal_power : ∀ as M Q, (∀ v ∈ as, mm_vin v) → mm_mem M → t_Tal_power as M Q → (mm_ent as).length ≤ 4 ∧ mm_ok mb_Tal_power [] (mm_entry 4 as) M Q := by
  intro as M Q hin hM h
  unfold t_Tal_power at h
  split at h
  rotate_left
  · exact h.elim
  rename_i o
  refine ⟨by simp [mm_ent], (show mm_ok mb_Tal_power [] [some (vr o), none, none, none] M Q from ?_)⟩
  intro J hJ
  obtain ⟨rfl, hT, h⟩ := h
  have hb0 : ∀ k : Nat, k < 64 → 0 ≤ M 24 k * M 24 k ∧ M 24 k * M 24 k ≤ 60 * 60 := fun k hk => mul_b (hT k (by omega) (by omega)).1 (hT k (by omega) (by omega)).2 (hT k (by omega) (by omega)).1 (hT k (by omega) (by omega)).2
  have hb : ∀ k : Nat, k < 64 → 0 ≤ M 24 k * M 24 k * (k : Int) ∧ M 24 k * M 24 k * (k : Int) ≤ 3600 * 63 := fun k hk => mul_b (hb0 k hk).1 (hb0 k hk).2 (by omega) (by omega)
  generalize hf : (fun v => M 24 v * M 24 v * v) = f at h
  have hfv : ∀ v, f v = M 24 v * M 24 v * v := fun v => by rw [← hf]
  have hs : ∀ n : Nat, n ≤ 64 → 0 ≤ sN f n ∧ sN f n ≤ 226800 * n := fun n hn => by
    have := sN_b (f := f) (a := 0) (b := 226800) n (fun k hk => by rw [hfv]; exact hb k (by omega))
    omega
  have hl : ∀ (d k : Nat), k + d = 64 → J 4 [some (vr 23), some (vl (sN f k)), none, some (vi k)] [] M := by
    intro d
    induction d with
    | zero =>
      intro k hk
      have h37 : J 37 [some (vr 23), some (vl (sN f k)), none, some (vi k)] [] M := by
        refine hJ 37 _ _ _ (show mm_wp _ _ _ mo_Tal_power_37 _ _ _ from ?_)
        simp only [mo_Tal_power_37, mm_wp, mm_ldi, mm_lda, mm_ldl, mm_sti, mm_sta, mm_stl, mm_inc, mm_2i, mm_mm, mm_2l, mm_lcmp, mm_i2l, mm_l2i, mm_cast8, mm_if1, mm_if2, mm_cmp, mm_swi, mm_sw, mm_pop1, mm_dup, mm_dup2, mm_geti, mm_geta, mm_puti, mm_iald, mm_bald, mm_aald, mm_iast, mm_bast, mm_alen, mm_acpy, mm_call, mm_callv, mm_recv, mm_pop, mm_find, mm_push, mm_cats, mm_cat, mm_reti, mm_retz, mm_retl, mm_reta, mm_retv, mm_set1, mm_set2, mm_kill, List.getElem?_cons_zero, List.getElem?_cons_succ, Int.reduceToNat, ↓reduceIte, Nat.reduceEqDiff, Nat.reduceDiv, Nat.reduceAdd, Nat.reduceLeDiff, Nat.zero_le, true_and, and_true, true_or, or_true, mm_b0, mm_b1, mm_lc_lt, mm_lc_le, mm_lc_gt, mm_lc_ge, mm_lc_eq, Int.not_lt, Int.not_le, Decidable.not_not, Int.sub_neg]
        rw [show k = 64 by omega]; exact h
      refine hJ 4 _ _ _ (show mm_wp _ _ _ mo_Tal_power_4 _ _ _ from ?_)
      simp only [mo_Tal_power_4, mm_wp, mm_ldi, mm_lda, mm_ldl, mm_sti, mm_sta, mm_stl, mm_inc, mm_2i, mm_mm, mm_2l, mm_lcmp, mm_i2l, mm_l2i, mm_cast8, mm_if1, mm_if2, mm_cmp, mm_swi, mm_sw, mm_pop1, mm_dup, mm_dup2, mm_geti, mm_geta, mm_puti, mm_iald, mm_bald, mm_aald, mm_iast, mm_bast, mm_alen, mm_acpy, mm_call, mm_callv, mm_recv, mm_pop, mm_find, mm_push, mm_cats, mm_cat, mm_reti, mm_retz, mm_retl, mm_reta, mm_retv, mm_set1, mm_set2, mm_kill, List.getElem?_cons_zero, List.getElem?_cons_succ, Int.reduceToNat, ↓reduceIte, Nat.reduceEqDiff, Nat.reduceDiv, Nat.reduceAdd, Nat.reduceLeDiff, Nat.zero_le, true_and, and_true, true_or, or_true, mm_b0, mm_b1, mm_lc_lt, mm_lc_le, mm_lc_gt, mm_lc_ge, mm_lc_eq, Int.not_lt, Int.not_le, Decidable.not_not, Int.sub_neg]
      exact ⟨fun _ => h37, fun z => by omega⟩
    | succ d ih =>
      intro k hk
      have b0 := hb0 k (by omega)
      have b1 := hb k (by omega)
      have b2 := hs k (by omega)
      have hn := ih (k + 1) (by omega)
      simp only [sN, hfv] at hn
      refine hJ 4 _ _ _ (show mm_wp _ _ _ mo_Tal_power_4 _ _ _ from ?_)
      simp only [mo_Tal_power_4, mm_wp, mm_ldi, mm_lda, mm_ldl, mm_sti, mm_sta, mm_stl, mm_inc, mm_2i, mm_mm, mm_2l, mm_lcmp, mm_i2l, mm_l2i, mm_cast8, mm_if1, mm_if2, mm_cmp, mm_swi, mm_sw, mm_pop1, mm_dup, mm_dup2, mm_geti, mm_geta, mm_puti, mm_iald, mm_bald, mm_aald, mm_iast, mm_bast, mm_alen, mm_acpy, mm_call, mm_callv, mm_recv, mm_pop, mm_find, mm_push, mm_cats, mm_cat, mm_reti, mm_retz, mm_retl, mm_reta, mm_retv, mm_set1, mm_set2, mm_kill, List.getElem?_cons_zero, List.getElem?_cons_succ, Int.reduceToNat, ↓reduceIte, Nat.reduceEqDiff, Nat.reduceDiv, Nat.reduceAdd, Nat.reduceLeDiff, Nat.zero_le, true_and, and_true, true_or, or_true, mm_b0, mm_b1, mm_lc_lt, mm_lc_le, mm_lc_gt, mm_lc_ge, mm_lc_eq, Int.not_lt, Int.not_le, Decidable.not_not, Int.sub_neg, c_0, c_1, c_2, l_2, c_3, c_4, l_4, c_5, l_5, c_6, l_6, c_7, l_7, c_8, c_9, l_9, c_10, l_10, c_11, l_11, c_12, l_12, c_13, c_14, l_14, c_15, l_15, c_16, l_16, c_17, l_17, c_18, c_19, l_19, c_20, l_20, c_21, l_21, c_22, l_22, c_23, c_24, l_24, c_25, l_25, c_26, c_27, c_28, l_28, c_29, c_30, l_30, c_31, c_32, l_32, c_33, l_33, c_34, l_34, c_35, l_35, c_36, l_36, c_37, l_37, c_38, l_38, c_39, l_39, c_40, c_41, l_41, c_42, c_43, c_44, l_44, c_45, c_46, l_46, c_47, c_48, l_48, c_49, l_49, c_50, l_50, c_51, l_51, c_52, l_52, c_53, l_53, c_54, l_54, c_55, l_55, c_56, l_56, c_57, l_57, c_58, l_58, c_59, l_59, c_60, l_60, c_61, l_61, c_62, c_63, l_63, c_64, l_64, c_65, l_65, c_66, l_66, c_67, l_67, c_68, l_68, c_69, l_69, c_70, l_70, c_71, l_71, c_72, l_72, c_73, l_73, c_74, l_74, c_75, l_75, c_76, l_76]
      refine ⟨fun z => by omega, fun _ => ?_⟩
      repeat (refine And.intro (by omega) ?_)
      exact hn
  refine hJ 0 _ _ _ (show mm_wp _ _ _ mo_Tal_power_0 _ _ _ from ?_)
  simp only [mo_Tal_power_0, mm_wp, mm_ldi, mm_lda, mm_ldl, mm_sti, mm_sta, mm_stl, mm_inc, mm_2i, mm_mm, mm_2l, mm_lcmp, mm_i2l, mm_l2i, mm_cast8, mm_if1, mm_if2, mm_cmp, mm_swi, mm_sw, mm_pop1, mm_dup, mm_dup2, mm_geti, mm_geta, mm_puti, mm_iald, mm_bald, mm_aald, mm_iast, mm_bast, mm_alen, mm_acpy, mm_call, mm_callv, mm_recv, mm_pop, mm_find, mm_push, mm_cats, mm_cat, mm_reti, mm_retz, mm_retl, mm_reta, mm_retv, mm_set1, mm_set2, mm_kill, List.getElem?_cons_zero, List.getElem?_cons_succ, Int.reduceToNat, ↓reduceIte, Nat.reduceEqDiff, Nat.reduceDiv, Nat.reduceAdd, Nat.reduceLeDiff, Nat.zero_le, true_and, and_true, true_or, or_true, mm_b0, mm_b1, mm_lc_lt, mm_lc_le, mm_lc_gt, mm_lc_ge, mm_lc_eq, Int.not_lt, Int.not_le, Decidable.not_not, Int.sub_neg]
  exact hl 64 0 rfl
def t_Tal_missing : mmT := fun as M Q => match as with
  | [.inr (.inr o)] => o = 23 ∧ Q (some (vl (misF (M 24) 64 0))) M
  | _ => False
set_option maxHeartbeats 4000000 in
set_option maxRecDepth 100000 in
theorem p_Tal_missing : ∀ as M Q, (∀ v ∈ as, mm_vin v) → mm_mem M → t_Tal_missing as M Q → (mm_ent as).length ≤ 2 ∧ mm_ok mb_Tal_missing [] (mm_entry 2 as) M Q := by
  intro as M Q hin hM h
  unfold t_Tal_missing at h
  split at h
  rotate_left
  · exact h.elim
  rename_i o
  refine ⟨by simp [mm_ent], (show mm_ok mb_Tal_missing [] [some (vr o), none] M Q from ?_)⟩
  intro J hJ
  obtain ⟨rfl, h⟩ := h
  have h23 : ∀ k : Nat, (k : Int) = misF (M 24) 64 0 → J 23 [some (vr 23), some (vi k)] [] M := by
    intro k hk
    refine hJ 23 _ _ _ (show mm_wp _ _ _ mo_Tal_missing_23 _ _ _ from ?_)
    simp only [mo_Tal_missing_23, mm_wp, mm_ldi, mm_lda, mm_ldl, mm_sti, mm_sta, mm_stl, mm_inc, mm_2i, mm_mm, mm_2l, mm_lcmp, mm_i2l, mm_l2i, mm_cast8, mm_if1, mm_if2, mm_cmp, mm_swi, mm_sw, mm_pop1, mm_dup, mm_dup2, mm_geti, mm_geta, mm_puti, mm_iald, mm_bald, mm_aald, mm_iast, mm_bast, mm_alen, mm_acpy, mm_call, mm_callv, mm_recv, mm_pop, mm_find, mm_push, mm_cats, mm_cat, mm_reti, mm_retz, mm_retl, mm_reta, mm_retv, mm_set1, mm_set2, mm_kill, List.getElem?_cons_zero, List.getElem?_cons_succ, Int.reduceToNat, ↓reduceIte, Nat.reduceEqDiff, Nat.reduceDiv, Nat.reduceAdd, Nat.reduceLeDiff, Nat.zero_le, true_and, and_true, true_or, or_true, mm_b0, mm_b1, mm_lc_lt, mm_lc_le, mm_lc_gt, mm_lc_ge, mm_lc_eq, Int.not_lt, Int.not_le, Decidable.not_not, Int.sub_neg]
    rw [hk]; exact h
  have hl : ∀ (d k : Nat), k + d = 64 → misF (M 24) d k = misF (M 24) 64 0 → J 2 [some (vr 23), some (vi k)] [] M := by
    intro d
    induction d with
    | zero =>
      intro k hk he
      refine hJ 2 _ _ _ (show mm_wp _ _ _ mo_Tal_missing_2 _ _ _ from ?_)
      simp only [mo_Tal_missing_2, mm_wp, mm_ldi, mm_lda, mm_ldl, mm_sti, mm_sta, mm_stl, mm_inc, mm_2i, mm_mm, mm_2l, mm_lcmp, mm_i2l, mm_l2i, mm_cast8, mm_if1, mm_if2, mm_cmp, mm_swi, mm_sw, mm_pop1, mm_dup, mm_dup2, mm_geti, mm_geta, mm_puti, mm_iald, mm_bald, mm_aald, mm_iast, mm_bast, mm_alen, mm_acpy, mm_call, mm_callv, mm_recv, mm_pop, mm_find, mm_push, mm_cats, mm_cat, mm_reti, mm_retz, mm_retl, mm_reta, mm_retv, mm_set1, mm_set2, mm_kill, List.getElem?_cons_zero, List.getElem?_cons_succ, Int.reduceToNat, ↓reduceIte, Nat.reduceEqDiff, Nat.reduceDiv, Nat.reduceAdd, Nat.reduceLeDiff, Nat.zero_le, true_and, and_true, true_or, or_true, mm_b0, mm_b1, mm_lc_lt, mm_lc_le, mm_lc_gt, mm_lc_ge, mm_lc_eq, Int.not_lt, Int.not_le, Decidable.not_not, Int.sub_neg]
      exact ⟨fun _ => h23 k he, fun z => by omega⟩
    | succ d ih =>
      intro k hk he
      simp only [misF] at he
      refine hJ 2 _ _ _ (show mm_wp _ _ _ mo_Tal_missing_2 _ _ _ from ?_)
      simp only [mo_Tal_missing_2, mm_wp, mm_ldi, mm_lda, mm_ldl, mm_sti, mm_sta, mm_stl, mm_inc, mm_2i, mm_mm, mm_2l, mm_lcmp, mm_i2l, mm_l2i, mm_cast8, mm_if1, mm_if2, mm_cmp, mm_swi, mm_sw, mm_pop1, mm_dup, mm_dup2, mm_geti, mm_geta, mm_puti, mm_iald, mm_bald, mm_aald, mm_iast, mm_bast, mm_alen, mm_acpy, mm_call, mm_callv, mm_recv, mm_pop, mm_find, mm_push, mm_cats, mm_cat, mm_reti, mm_retz, mm_retl, mm_reta, mm_retv, mm_set1, mm_set2, mm_kill, List.getElem?_cons_zero, List.getElem?_cons_succ, Int.reduceToNat, ↓reduceIte, Nat.reduceEqDiff, Nat.reduceDiv, Nat.reduceAdd, Nat.reduceLeDiff, Nat.zero_le, true_and, and_true, true_or, or_true, mm_b0, mm_b1, mm_lc_lt, mm_lc_le, mm_lc_gt, mm_lc_ge, mm_lc_eq, Int.not_lt, Int.not_le, Decidable.not_not, Int.sub_neg, c_0, c_1, c_2, l_2, c_3, c_4, l_4, c_5, l_5, c_6, l_6, c_7, l_7, c_8, c_9, l_9, c_10, l_10, c_11, l_11, c_12, l_12, c_13, c_14, l_14, c_15, l_15, c_16, l_16, c_17, l_17, c_18, c_19, l_19, c_20, l_20, c_21, l_21, c_22, l_22, c_23, c_24, l_24, c_25, l_25, c_26, c_27, c_28, l_28, c_29, c_30, l_30, c_31, c_32, l_32, c_33, l_33, c_34, l_34, c_35, l_35, c_36, l_36, c_37, l_37, c_38, l_38, c_39, l_39, c_40, c_41, l_41, c_42, c_43, c_44, l_44, c_45, c_46, l_46, c_47, c_48, l_48, c_49, l_49, c_50, l_50, c_51, l_51, c_52, l_52, c_53, l_53, c_54, l_54, c_55, l_55, c_56, l_56, c_57, l_57, c_58, l_58, c_59, l_59, c_60, l_60, c_61, l_61, c_62, c_63, l_63, c_64, l_64, c_65, l_65, c_66, l_66, c_67, l_67, c_68, l_68, c_69, l_69, c_70, l_70, c_71, l_71, c_72, l_72, c_73, l_73, c_74, l_74, c_75, l_75, c_76, l_76]
      refine ⟨fun z => by omega, fun _ => ⟨by omega, fun z => h23 k ?_, fun z => ⟨by omega, ih (k + 1) (by omega) ?_⟩⟩⟩
      · rw [if_neg (by omega)] at he; exact he
      · rw [if_pos (by omega)] at he; exact he
  refine hJ 0 _ _ _ (show mm_wp _ _ _ mo_Tal_missing_0 _ _ _ from ?_)
  simp only [mo_Tal_missing_0, mm_wp, mm_ldi, mm_lda, mm_ldl, mm_sti, mm_sta, mm_stl, mm_inc, mm_2i, mm_mm, mm_2l, mm_lcmp, mm_i2l, mm_l2i, mm_cast8, mm_if1, mm_if2, mm_cmp, mm_swi, mm_sw, mm_pop1, mm_dup, mm_dup2, mm_geti, mm_geta, mm_puti, mm_iald, mm_bald, mm_aald, mm_iast, mm_bast, mm_alen, mm_acpy, mm_call, mm_callv, mm_recv, mm_pop, mm_find, mm_push, mm_cats, mm_cat, mm_reti, mm_retz, mm_retl, mm_reta, mm_retv, mm_set1, mm_set2, mm_kill, List.getElem?_cons_zero, List.getElem?_cons_succ, Int.reduceToNat, ↓reduceIte, Nat.reduceEqDiff, Nat.reduceDiv, Nat.reduceAdd, Nat.reduceLeDiff, Nat.zero_le, true_and, and_true, true_or, or_true, mm_b0, mm_b1, mm_lc_lt, mm_lc_le, mm_lc_gt, mm_lc_ge, mm_lc_eq, Int.not_lt, Int.not_le, Decidable.not_not, Int.sub_neg]
  exact hl 64 0 rfl rfl
def t_Tal_pairs : mmT := fun as M Q => match as with
  | [.inr (.inr o)] => o = 23 ∧ tB M ∧ Q (some (vl (sN (fun v => (M 24 v * (M 24 v - 1)).tdiv 2) 64))) M
  | _ => False
theorem pr_b {a : Int} (h0 : 0 ≤ a) (h1 : a ≤ 60) : 0 ≤ a * (a - 1) ∧ a * (a - 1) ≤ 3600 ∧ 0 ≤ (a * (a - 1)).tdiv 2 ∧ (a * (a - 1)).tdiv 2 ≤ 3600 := by
  have h2 : 0 ≤ a * (a - 1) ∧ a * (a - 1) ≤ 3600 := by
    by_cases c : a = 0
    · rw [c]; decide
    · have := mul_b (a := a) (b := a - 1) (A := 60) (B := 60) h0 h1 (by omega) (by omega)
      omega
  have h3 := Int.tdiv_eq_ediv_of_nonneg (b := 2) h2.1
  omega
set_option maxHeartbeats 4000000 in
set_option maxRecDepth 100000 in
theorem p_Tal_pairs : ∀ as M Q, (∀ v ∈ as, mm_vin v) → mm_mem M → t_Tal_pairs as M Q → (mm_ent as).length ≤ 4 ∧ mm_ok mb_Tal_pairs [] (mm_entry 4 as) M Q := by
  intro as M Q hin hM h
  unfold t_Tal_pairs at h
  split at h
  rotate_left
  · exact h.elim
  rename_i o
  refine ⟨by simp [mm_ent], (show mm_ok mb_Tal_pairs [] [some (vr o), none, none, none] M Q from ?_)⟩
  intro J hJ
  obtain ⟨rfl, hT, h⟩ := h
  generalize hf : (fun v => (M 24 v * (M 24 v - 1)).tdiv 2) = f at h
  have hfv : ∀ v, f v = (M 24 v * (M 24 v - 1)).tdiv 2 := fun v => by rw [← hf]
  have hb : ∀ k : Nat, k < 64 → _ := fun k hk => pr_b (hT k (by omega) (by omega)).1 (hT k (by omega) (by omega)).2
  have hs : ∀ n : Nat, n ≤ 64 → 0 ≤ sN f n ∧ sN f n ≤ 3600 * n := fun n hn => by
    have := sN_b (f := f) (a := 0) (b := 3600) n (fun k hk => by rw [hfv]; exact (hb k (by omega)).2.2)
    omega
  have hl : ∀ (d k : Nat), k + d = 64 → J 4 [some (vr 23), some (vl (sN f k)), none, some (vi k)] [] M := by
    intro d
    induction d with
    | zero =>
      intro k hk
      have h40 : J 40 [some (vr 23), some (vl (sN f k)), none, some (vi k)] [] M := by
        refine hJ 40 _ _ _ (show mm_wp _ _ _ mo_Tal_pairs_40 _ _ _ from ?_)
        simp only [mo_Tal_pairs_40, mm_wp, mm_ldi, mm_lda, mm_ldl, mm_sti, mm_sta, mm_stl, mm_inc, mm_2i, mm_mm, mm_2l, mm_lcmp, mm_i2l, mm_l2i, mm_cast8, mm_if1, mm_if2, mm_cmp, mm_swi, mm_sw, mm_pop1, mm_dup, mm_dup2, mm_geti, mm_geta, mm_puti, mm_iald, mm_bald, mm_aald, mm_iast, mm_bast, mm_alen, mm_acpy, mm_call, mm_callv, mm_recv, mm_pop, mm_find, mm_push, mm_cats, mm_cat, mm_reti, mm_retz, mm_retl, mm_reta, mm_retv, mm_set1, mm_set2, mm_kill, List.getElem?_cons_zero, List.getElem?_cons_succ, Int.reduceToNat, ↓reduceIte, Nat.reduceEqDiff, Nat.reduceDiv, Nat.reduceAdd, Nat.reduceLeDiff, Nat.zero_le, true_and, and_true, true_or, or_true, mm_b0, mm_b1, mm_lc_lt, mm_lc_le, mm_lc_gt, mm_lc_ge, mm_lc_eq, Int.not_lt, Int.not_le, Decidable.not_not, Int.sub_neg]
        rw [show k = 64 by omega]; exact h
      refine hJ 4 _ _ _ (show mm_wp _ _ _ mo_Tal_pairs_4 _ _ _ from ?_)
      simp only [mo_Tal_pairs_4, mm_wp, mm_ldi, mm_lda, mm_ldl, mm_sti, mm_sta, mm_stl, mm_inc, mm_2i, mm_mm, mm_2l, mm_lcmp, mm_i2l, mm_l2i, mm_cast8, mm_if1, mm_if2, mm_cmp, mm_swi, mm_sw, mm_pop1, mm_dup, mm_dup2, mm_geti, mm_geta, mm_puti, mm_iald, mm_bald, mm_aald, mm_iast, mm_bast, mm_alen, mm_acpy, mm_call, mm_callv, mm_recv, mm_pop, mm_find, mm_push, mm_cats, mm_cat, mm_reti, mm_retz, mm_retl, mm_reta, mm_retv, mm_set1, mm_set2, mm_kill, List.getElem?_cons_zero, List.getElem?_cons_succ, Int.reduceToNat, ↓reduceIte, Nat.reduceEqDiff, Nat.reduceDiv, Nat.reduceAdd, Nat.reduceLeDiff, Nat.zero_le, true_and, and_true, true_or, or_true, mm_b0, mm_b1, mm_lc_lt, mm_lc_le, mm_lc_gt, mm_lc_ge, mm_lc_eq, Int.not_lt, Int.not_le, Decidable.not_not, Int.sub_neg]
      exact ⟨fun _ => h40, fun z => by omega⟩
    | succ d ih =>
      intro k hk
      have b0 := hT k (by omega) (by omega)
      have b1 := hb k (by omega)
      have b2 := hs k (by omega)
      have hn := ih (k + 1) (by omega)
      simp only [sN, hfv] at hn
      refine hJ 4 _ _ _ (show mm_wp _ _ _ mo_Tal_pairs_4 _ _ _ from ?_)
      simp only [mo_Tal_pairs_4, mm_wp, mm_ldi, mm_lda, mm_ldl, mm_sti, mm_sta, mm_stl, mm_inc, mm_2i, mm_mm, mm_2l, mm_lcmp, mm_i2l, mm_l2i, mm_cast8, mm_if1, mm_if2, mm_cmp, mm_swi, mm_sw, mm_pop1, mm_dup, mm_dup2, mm_geti, mm_geta, mm_puti, mm_iald, mm_bald, mm_aald, mm_iast, mm_bast, mm_alen, mm_acpy, mm_call, mm_callv, mm_recv, mm_pop, mm_find, mm_push, mm_cats, mm_cat, mm_reti, mm_retz, mm_retl, mm_reta, mm_retv, mm_set1, mm_set2, mm_kill, List.getElem?_cons_zero, List.getElem?_cons_succ, Int.reduceToNat, ↓reduceIte, Nat.reduceEqDiff, Nat.reduceDiv, Nat.reduceAdd, Nat.reduceLeDiff, Nat.zero_le, true_and, and_true, true_or, or_true, mm_b0, mm_b1, mm_lc_lt, mm_lc_le, mm_lc_gt, mm_lc_ge, mm_lc_eq, Int.not_lt, Int.not_le, Decidable.not_not, Int.sub_neg, c_0, c_1, c_2, l_2, c_3, c_4, l_4, c_5, l_5, c_6, l_6, c_7, l_7, c_8, c_9, l_9, c_10, l_10, c_11, l_11, c_12, l_12, c_13, c_14, l_14, c_15, l_15, c_16, l_16, c_17, l_17, c_18, c_19, l_19, c_20, l_20, c_21, l_21, c_22, l_22, c_23, c_24, l_24, c_25, l_25, c_26, c_27, c_28, l_28, c_29, c_30, l_30, c_31, c_32, l_32, c_33, l_33, c_34, l_34, c_35, l_35, c_36, l_36, c_37, l_37, c_38, l_38, c_39, l_39, c_40, c_41, l_41, c_42, c_43, c_44, l_44, c_45, c_46, l_46, c_47, c_48, l_48, c_49, l_49, c_50, l_50, c_51, l_51, c_52, l_52, c_53, l_53, c_54, l_54, c_55, l_55, c_56, l_56, c_57, l_57, c_58, l_58, c_59, l_59, c_60, l_60, c_61, l_61, c_62, c_63, l_63, c_64, l_64, c_65, l_65, c_66, l_66, c_67, l_67, c_68, l_68, c_69, l_69, c_70, l_70, c_71, l_71, c_72, l_72, c_73, l_73, c_74, l_74, c_75, l_75, c_76, l_76]
      refine ⟨fun z => by omega, fun _ => ?_⟩
      repeat (refine And.intro (by omega) ?_)
      exact hn
  refine hJ 0 _ _ _ (show mm_wp _ _ _ mo_Tal_pairs_0 _ _ _ from ?_)
  simp only [mo_Tal_pairs_0, mm_wp, mm_ldi, mm_lda, mm_ldl, mm_sti, mm_sta, mm_stl, mm_inc, mm_2i, mm_mm, mm_2l, mm_lcmp, mm_i2l, mm_l2i, mm_cast8, mm_if1, mm_if2, mm_cmp, mm_swi, mm_sw, mm_pop1, mm_dup, mm_dup2, mm_geti, mm_geta, mm_puti, mm_iald, mm_bald, mm_aald, mm_iast, mm_bast, mm_alen, mm_acpy, mm_call, mm_callv, mm_recv, mm_pop, mm_find, mm_push, mm_cats, mm_cat, mm_reti, mm_retz, mm_retl, mm_reta, mm_retv, mm_set1, mm_set2, mm_kill, List.getElem?_cons_zero, List.getElem?_cons_succ, Int.reduceToNat, ↓reduceIte, Nat.reduceEqDiff, Nat.reduceDiv, Nat.reduceAdd, Nat.reduceLeDiff, Nat.zero_le, true_and, and_true, true_or, or_true, mm_b0, mm_b1, mm_lc_lt, mm_lc_le, mm_lc_gt, mm_lc_ge, mm_lc_eq, Int.not_lt, Int.not_le, Decidable.not_not, Int.sub_neg]
  exact hl 64 0 rfl
def t_Tal_join : mmT := fun as M Q => match as with
  | [.inr (.inr o), .inl a, .inl b] => o = 23 ∧ 0 ≤ a ∧ a < 8 ∧ 0 ≤ b ∧ b < 8 ∧ ∀ M', (∀ o', o' ≠ 25 → M' o' = M o') → (∀ j, 0 ≤ j → j < 8 → M' 25 j = jn (M 25) a b j) → Q (some (vi (mm_b (¬ M 25 a = M 25 b)))) M'
  | _ => False
set_option maxHeartbeats 4000000 in
set_option maxRecDepth 100000 in
theorem p_Tal_join : ∀ as M Q, (∀ v ∈ as, mm_vin v) → mm_mem M → t_Tal_join as M Q → (mm_ent as).length ≤ 6 ∧ mm_ok mb_Tal_join [] (mm_entry 6 as) M Q := by
  intro as M Q hin hM h
  unfold t_Tal_join at h
  split at h
  rotate_left
  · exact h.elim
  rename_i o a b
  have hR_a : mm_R a := hin (vi a) (by simp)
  have hR_b : mm_R b := hin (vi b) (by simp)
  refine ⟨by simp [mm_ent], (show mm_ok mb_Tal_join [] [some (vr o), some (vi a), some (vi b), none, none, none] M Q from ?_)⟩
  intro J hJ
  obtain ⟨rfl, a0, a1, b0, b1, h⟩ := h
  have hl : ∀ (d k : Nat) (M1 : mmM), k + d = 8 → (∀ o', o' ≠ 25 → M1 o' = M o') → (∀ j, 0 ≤ j → j < 8 → M1 25 j = if j < (k : Int) then jn (M 25) a b j else M 25 j) → J 18 [some (vr 23), some (vi a), some (vi b), some (vi (M 25 a)), some (vi (M 25 b)), some (vi k)] [] M1 := by
    intro d
    induction d with
    | zero =>
      intro k M1 hk f1 g1
      have hq := h M1 f1 (fun j j0 j1 => by rw [g1 j j0 j1, if_pos (by omega)])
      have h51 : J 51 [some (vr 23), some (vi a), some (vi b), some (vi (M 25 a)), some (vi (M 25 b)), some (vi k)] [] M1 := by
        repeat' first | (refine And.intro ?_ ?_) | (intro _) | (refine hJ 0 _ _ _ ?_; show mm_wp _ _ _ mo_Tal_join_0 _ _ _; simp only [mo_Tal_join_0, mm_wp, mm_ldi, mm_lda, mm_ldl, mm_sti, mm_sta, mm_stl, mm_inc, mm_2i, mm_mm, mm_2l, mm_lcmp, mm_i2l, mm_l2i, mm_cast8, mm_if1, mm_if2, mm_cmp, mm_swi, mm_sw, mm_pop1, mm_dup, mm_dup2, mm_geti, mm_geta, mm_puti, mm_iald, mm_bald, mm_aald, mm_iast, mm_bast, mm_alen, mm_acpy, mm_call, mm_callv, mm_recv, mm_pop, mm_find, mm_push, mm_cats, mm_cat, mm_reti, mm_retz, mm_retl, mm_reta, mm_retv, mm_set1, mm_set2, mm_kill, List.getElem?_cons_zero, List.getElem?_cons_succ, Int.reduceToNat, ↓reduceIte, Nat.reduceEqDiff, Nat.reduceDiv, Nat.reduceAdd, Nat.reduceLeDiff, Nat.zero_le, true_and, and_true, true_or, or_true, mm_b0, mm_b1, mm_lc_lt, mm_lc_le, mm_lc_gt, mm_lc_ge, mm_lc_eq, Int.not_lt, Int.not_le, Decidable.not_not, Int.sub_neg]) | (refine hJ 45 _ _ _ ?_; show mm_wp _ _ _ mo_Tal_join_45 _ _ _; simp only [mo_Tal_join_45, mm_wp, mm_ldi, mm_lda, mm_ldl, mm_sti, mm_sta, mm_stl, mm_inc, mm_2i, mm_mm, mm_2l, mm_lcmp, mm_i2l, mm_l2i, mm_cast8, mm_if1, mm_if2, mm_cmp, mm_swi, mm_sw, mm_pop1, mm_dup, mm_dup2, mm_geti, mm_geta, mm_puti, mm_iald, mm_bald, mm_aald, mm_iast, mm_bast, mm_alen, mm_acpy, mm_call, mm_callv, mm_recv, mm_pop, mm_find, mm_push, mm_cats, mm_cat, mm_reti, mm_retz, mm_retl, mm_reta, mm_retv, mm_set1, mm_set2, mm_kill, List.getElem?_cons_zero, List.getElem?_cons_succ, Int.reduceToNat, ↓reduceIte, Nat.reduceEqDiff, Nat.reduceDiv, Nat.reduceAdd, Nat.reduceLeDiff, Nat.zero_le, true_and, and_true, true_or, or_true, mm_b0, mm_b1, mm_lc_lt, mm_lc_le, mm_lc_gt, mm_lc_ge, mm_lc_eq, Int.not_lt, Int.not_le, Decidable.not_not, Int.sub_neg]) | (refine hJ 51 _ _ _ ?_; show mm_wp _ _ _ mo_Tal_join_51 _ _ _; simp only [mo_Tal_join_51, mm_wp, mm_ldi, mm_lda, mm_ldl, mm_sti, mm_sta, mm_stl, mm_inc, mm_2i, mm_mm, mm_2l, mm_lcmp, mm_i2l, mm_l2i, mm_cast8, mm_if1, mm_if2, mm_cmp, mm_swi, mm_sw, mm_pop1, mm_dup, mm_dup2, mm_geti, mm_geta, mm_puti, mm_iald, mm_bald, mm_aald, mm_iast, mm_bast, mm_alen, mm_acpy, mm_call, mm_callv, mm_recv, mm_pop, mm_find, mm_push, mm_cats, mm_cat, mm_reti, mm_retz, mm_retl, mm_reta, mm_retv, mm_set1, mm_set2, mm_kill, List.getElem?_cons_zero, List.getElem?_cons_succ, Int.reduceToNat, ↓reduceIte, Nat.reduceEqDiff, Nat.reduceDiv, Nat.reduceAdd, Nat.reduceLeDiff, Nat.zero_le, true_and, and_true, true_or, or_true, mm_b0, mm_b1, mm_lc_lt, mm_lc_le, mm_lc_gt, mm_lc_ge, mm_lc_eq, Int.not_lt, Int.not_le, Decidable.not_not, Int.sub_neg]) | (refine hJ 61 _ _ _ ?_; show mm_wp _ _ _ mo_Tal_join_61 _ _ _; simp only [mo_Tal_join_61, mm_wp, mm_ldi, mm_lda, mm_ldl, mm_sti, mm_sta, mm_stl, mm_inc, mm_2i, mm_mm, mm_2l, mm_lcmp, mm_i2l, mm_l2i, mm_cast8, mm_if1, mm_if2, mm_cmp, mm_swi, mm_sw, mm_pop1, mm_dup, mm_dup2, mm_geti, mm_geta, mm_puti, mm_iald, mm_bald, mm_aald, mm_iast, mm_bast, mm_alen, mm_acpy, mm_call, mm_callv, mm_recv, mm_pop, mm_find, mm_push, mm_cats, mm_cat, mm_reti, mm_retz, mm_retl, mm_reta, mm_retv, mm_set1, mm_set2, mm_kill, List.getElem?_cons_zero, List.getElem?_cons_succ, Int.reduceToNat, ↓reduceIte, Nat.reduceEqDiff, Nat.reduceDiv, Nat.reduceAdd, Nat.reduceLeDiff, Nat.zero_le, true_and, and_true, true_or, or_true, mm_b0, mm_b1, mm_lc_lt, mm_lc_le, mm_lc_gt, mm_lc_ge, mm_lc_eq, Int.not_lt, Int.not_le, Decidable.not_not, Int.sub_neg]) | (refine hJ 62 _ _ _ ?_; show mm_wp _ _ _ mo_Tal_join_62 _ _ _; simp only [mo_Tal_join_62, mm_wp, mm_ldi, mm_lda, mm_ldl, mm_sti, mm_sta, mm_stl, mm_inc, mm_2i, mm_mm, mm_2l, mm_lcmp, mm_i2l, mm_l2i, mm_cast8, mm_if1, mm_if2, mm_cmp, mm_swi, mm_sw, mm_pop1, mm_dup, mm_dup2, mm_geti, mm_geta, mm_puti, mm_iald, mm_bald, mm_aald, mm_iast, mm_bast, mm_alen, mm_acpy, mm_call, mm_callv, mm_recv, mm_pop, mm_find, mm_push, mm_cats, mm_cat, mm_reti, mm_retz, mm_retl, mm_reta, mm_retv, mm_set1, mm_set2, mm_kill, List.getElem?_cons_zero, List.getElem?_cons_succ, Int.reduceToNat, ↓reduceIte, Nat.reduceEqDiff, Nat.reduceDiv, Nat.reduceAdd, Nat.reduceLeDiff, Nat.zero_le, true_and, and_true, true_or, or_true, mm_b0, mm_b1, mm_lc_lt, mm_lc_le, mm_lc_gt, mm_lc_ge, mm_lc_eq, Int.not_lt, Int.not_le, Decidable.not_not, Int.sub_neg])
        all_goals first | assumption | (exact Or.inl rfl) | (exact Or.inr rfl) | (exact rfl) | trivial | omega | (rw [mm_bF (fun z => z (by assumption))] at hq; exact hq) | (rw [mm_bT (by assumption)] at hq; exact hq)
      refine hJ 18 _ _ _ (show mm_wp _ _ _ mo_Tal_join_18 _ _ _ from ?_)
      simp only [mo_Tal_join_18, mm_wp, mm_ldi, mm_lda, mm_ldl, mm_sti, mm_sta, mm_stl, mm_inc, mm_2i, mm_mm, mm_2l, mm_lcmp, mm_i2l, mm_l2i, mm_cast8, mm_if1, mm_if2, mm_cmp, mm_swi, mm_sw, mm_pop1, mm_dup, mm_dup2, mm_geti, mm_geta, mm_puti, mm_iald, mm_bald, mm_aald, mm_iast, mm_bast, mm_alen, mm_acpy, mm_call, mm_callv, mm_recv, mm_pop, mm_find, mm_push, mm_cats, mm_cat, mm_reti, mm_retz, mm_retl, mm_reta, mm_retv, mm_set1, mm_set2, mm_kill, List.getElem?_cons_zero, List.getElem?_cons_succ, Int.reduceToNat, ↓reduceIte, Nat.reduceEqDiff, Nat.reduceDiv, Nat.reduceAdd, Nat.reduceLeDiff, Nat.zero_le, true_and, and_true, true_or, or_true, mm_b0, mm_b1, mm_lc_lt, mm_lc_le, mm_lc_gt, mm_lc_ge, mm_lc_eq, Int.not_lt, Int.not_le, Decidable.not_not, Int.sub_neg]
      exact ⟨fun _ => h51, fun z => by omega⟩
    | succ d ih =>
      intro k M1 hk f1 g1
      have gk := g1 k (by omega) (by omega)
      rw [if_neg (by omega)] at gk
      have h45 : ∀ M2 : mmM, (∀ o', o' ≠ 25 → M2 o' = M o') → (∀ j, 0 ≤ j → j < 8 → M2 25 j = if j < ((k + 1 : Nat) : Int) then jn (M 25) a b j else M 25 j) → J 45 [some (vr 23), some (vi a), some (vi b), some (vi (M 25 a)), some (vi (M 25 b)), some (vi k)] [] M2 := by
        intro M2 f2 g2
        refine hJ 45 _ _ _ (show mm_wp _ _ _ mo_Tal_join_45 _ _ _ from ?_)
        simp only [mo_Tal_join_45, mm_wp, mm_ldi, mm_lda, mm_ldl, mm_sti, mm_sta, mm_stl, mm_inc, mm_2i, mm_mm, mm_2l, mm_lcmp, mm_i2l, mm_l2i, mm_cast8, mm_if1, mm_if2, mm_cmp, mm_swi, mm_sw, mm_pop1, mm_dup, mm_dup2, mm_geti, mm_geta, mm_puti, mm_iald, mm_bald, mm_aald, mm_iast, mm_bast, mm_alen, mm_acpy, mm_call, mm_callv, mm_recv, mm_pop, mm_find, mm_push, mm_cats, mm_cat, mm_reti, mm_retz, mm_retl, mm_reta, mm_retv, mm_set1, mm_set2, mm_kill, List.getElem?_cons_zero, List.getElem?_cons_succ, Int.reduceToNat, ↓reduceIte, Nat.reduceEqDiff, Nat.reduceDiv, Nat.reduceAdd, Nat.reduceLeDiff, Nat.zero_le, true_and, and_true, true_or, or_true, mm_b0, mm_b1, mm_lc_lt, mm_lc_le, mm_lc_gt, mm_lc_ge, mm_lc_eq, Int.not_lt, Int.not_le, Decidable.not_not, Int.sub_neg]
        exact ⟨by omega, ih (k + 1) M2 (by omega) f2 g2⟩
      refine hJ 18 _ _ _ (show mm_wp _ _ _ mo_Tal_join_18 _ _ _ from ?_)
      simp only [mo_Tal_join_18, mm_wp, mm_ldi, mm_lda, mm_ldl, mm_sti, mm_sta, mm_stl, mm_inc, mm_2i, mm_mm, mm_2l, mm_lcmp, mm_i2l, mm_l2i, mm_cast8, mm_if1, mm_if2, mm_cmp, mm_swi, mm_sw, mm_pop1, mm_dup, mm_dup2, mm_geti, mm_geta, mm_puti, mm_iald, mm_bald, mm_aald, mm_iast, mm_bast, mm_alen, mm_acpy, mm_call, mm_callv, mm_recv, mm_pop, mm_find, mm_push, mm_cats, mm_cat, mm_reti, mm_retz, mm_retl, mm_reta, mm_retv, mm_set1, mm_set2, mm_kill, List.getElem?_cons_zero, List.getElem?_cons_succ, Int.reduceToNat, ↓reduceIte, Nat.reduceEqDiff, Nat.reduceDiv, Nat.reduceAdd, Nat.reduceLeDiff, Nat.zero_le, true_and, and_true, true_or, or_true, mm_b0, mm_b1, mm_lc_lt, mm_lc_le, mm_lc_gt, mm_lc_ge, mm_lc_eq, Int.not_lt, Int.not_le, Decidable.not_not, Int.sub_neg, c_0, c_1, c_2, l_2, c_3, c_4, l_4, c_5, l_5, c_6, l_6, c_7, l_7, c_8, c_9, l_9, c_10, l_10, c_11, l_11, c_12, l_12, c_13, c_14, l_14, c_15, l_15, c_16, l_16, c_17, l_17, c_18, c_19, l_19, c_20, l_20, c_21, l_21, c_22, l_22, c_23, c_24, l_24, c_25, l_25, c_26, c_27, c_28, l_28, c_29, c_30, l_30, c_31, c_32, l_32, c_33, l_33, c_34, l_34, c_35, l_35, c_36, l_36, c_37, l_37, c_38, l_38, c_39, l_39, c_40, c_41, l_41, c_42, c_43, c_44, l_44, c_45, c_46, l_46, c_47, c_48, l_48, c_49, l_49, c_50, l_50, c_51, l_51, c_52, l_52, c_53, l_53, c_54, l_54, c_55, l_55, c_56, l_56, c_57, l_57, c_58, l_58, c_59, l_59, c_60, l_60, c_61, l_61, c_62, c_63, l_63, c_64, l_64, c_65, l_65, c_66, l_66, c_67, l_67, c_68, l_68, c_69, l_69, c_70, l_70, c_71, l_71, c_72, l_72, c_73, l_73, c_74, l_74, c_75, l_75, c_76, l_76, gk]
      refine ⟨fun z => by omega, fun _ => ⟨by omega, fun z => h45 M1 f1 (fun j j0 j1 => ?_), fun z => ⟨by omega, h45 _ (fun o' c => by rw [mm_up_o _ _ c, f1 o' c]) (fun j j0 j1 => ?_)⟩⟩⟩
      · by_cases c : j = (k : Int)
        · rw [if_pos (by omega), c, gk]; unfold jn; rw [if_neg z]
        · rw [g1 j j0 j1]
          by_cases c2 : j < (k : Int)
          · rw [if_pos c2, if_pos (by omega)]
          · rw [if_neg c2, if_neg (by omega)]
      · rw [mm_up_if]
        by_cases c : j = (k : Int)
        · rw [if_pos c, if_pos (by omega), c]; unfold jn; rw [if_pos z]
        · rw [if_neg c, g1 j j0 j1]
          by_cases c2 : j < (k : Int)
          · rw [if_pos c2, if_pos (by omega)]
          · rw [if_neg c2, if_neg (by omega)]
  refine hJ 0 _ _ _ (show mm_wp _ _ _ mo_Tal_join_0 _ _ _ from ?_)
  simp only [mo_Tal_join_0, mm_wp, mm_ldi, mm_lda, mm_ldl, mm_sti, mm_sta, mm_stl, mm_inc, mm_2i, mm_mm, mm_2l, mm_lcmp, mm_i2l, mm_l2i, mm_cast8, mm_if1, mm_if2, mm_cmp, mm_swi, mm_sw, mm_pop1, mm_dup, mm_dup2, mm_geti, mm_geta, mm_puti, mm_iald, mm_bald, mm_aald, mm_iast, mm_bast, mm_alen, mm_acpy, mm_call, mm_callv, mm_recv, mm_pop, mm_find, mm_push, mm_cats, mm_cat, mm_reti, mm_retz, mm_retl, mm_reta, mm_retv, mm_set1, mm_set2, mm_kill, List.getElem?_cons_zero, List.getElem?_cons_succ, Int.reduceToNat, ↓reduceIte, Nat.reduceEqDiff, Nat.reduceDiv, Nat.reduceAdd, Nat.reduceLeDiff, Nat.zero_le, true_and, and_true, true_or, or_true, mm_b0, mm_b1, mm_lc_lt, mm_lc_le, mm_lc_gt, mm_lc_ge, mm_lc_eq, Int.not_lt, Int.not_le, Decidable.not_not, Int.sub_neg, c_0, c_1, c_2, l_2, c_3, c_4, l_4, c_5, l_5, c_6, l_6, c_7, l_7, c_8, c_9, l_9, c_10, l_10, c_11, l_11, c_12, l_12, c_13, c_14, l_14, c_15, l_15, c_16, l_16, c_17, l_17, c_18, c_19, l_19, c_20, l_20, c_21, l_21, c_22, l_22, c_23, c_24, l_24, c_25, l_25, c_26, c_27, c_28, l_28, c_29, c_30, l_30, c_31, c_32, l_32, c_33, l_33, c_34, l_34, c_35, l_35, c_36, l_36, c_37, l_37, c_38, l_38, c_39, l_39, c_40, c_41, l_41, c_42, c_43, c_44, l_44, c_45, c_46, l_46, c_47, c_48, l_48, c_49, l_49, c_50, l_50, c_51, l_51, c_52, l_52, c_53, l_53, c_54, l_54, c_55, l_55, c_56, l_56, c_57, l_57, c_58, l_58, c_59, l_59, c_60, l_60, c_61, l_61, c_62, c_63, l_63, c_64, l_64, c_65, l_65, c_66, l_66, c_67, l_67, c_68, l_68, c_69, l_69, c_70, l_70, c_71, l_71, c_72, l_72, c_73, l_73, c_74, l_74, c_75, l_75, c_76, l_76]
  exact ⟨by omega, by omega, hl 8 0 M rfl (fun _ _ => rfl) (fun j j0 j1 => by rw [if_neg (by omega)])⟩
def t_Tal_parts : mmT := fun as M Q => match as with
  | [.inr (.inr o)] => o = 23 ∧ ∀ M', (∀ o', o' ≠ 25 → M' o' = M o') → Q (some (vl (clS (M 24) 64).2)) M'
  | _ => False
theorem clS_b (T : Int → Int) : ∀ n : Nat, 8 - (n : Int) ≤ (clS T n).2 ∧ (clS T n).2 ≤ 8
  | 0 => by simp [clS]
  | n + 1 => by
    have := clS_b T n
    simp only [clS]
    split
    · simp only
      split <;> omega
    · omega
set_option maxHeartbeats 4000000 in
set_option maxRecDepth 100000 in
theorem p_Tal_parts : ∀ as M Q, (∀ v ∈ as, mm_vin v) → mm_mem M → t_Tal_parts as M Q → (mm_ent as).length ≤ 4 ∧ mm_ok mb_Tal_parts [(709, t_Tal_join)] (mm_entry 4 as) M Q := by
  intro as M Q hin hM h
  unfold t_Tal_parts at h
  split at h
  rotate_left
  · exact h.elim
  rename_i o
  refine ⟨by simp [mm_ent], (show mm_ok mb_Tal_parts [(709, t_Tal_join)] [some (vr o), none, none, none] M Q from ?_)⟩
  intro J hJ
  obtain ⟨rfl, h⟩ := h
  have hl : ∀ (d k : Nat) (M1 : mmM), k + d = 64 → (∀ o', o' ≠ 25 → M1 o' = M o') → (∀ j, 0 ≤ j → j < 8 → M1 25 j = (clS (M 24) k).1 j) → J 27 [some (vr 23), some (vl (clS (M 24) k).2), none, some (vi k)] [] M1 := by
    intro d
    induction d with
    | zero =>
      intro k M1 hk f1 g1
      have h67 : J 67 [some (vr 23), some (vl (clS (M 24) k).2), none, some (vi k)] [] M1 := by
        refine hJ 67 _ _ _ (show mm_wp _ _ _ mo_Tal_parts_67 _ _ _ from ?_)
        simp only [mo_Tal_parts_67, mm_wp, mm_ldi, mm_lda, mm_ldl, mm_sti, mm_sta, mm_stl, mm_inc, mm_2i, mm_mm, mm_2l, mm_lcmp, mm_i2l, mm_l2i, mm_cast8, mm_if1, mm_if2, mm_cmp, mm_swi, mm_sw, mm_pop1, mm_dup, mm_dup2, mm_geti, mm_geta, mm_puti, mm_iald, mm_bald, mm_aald, mm_iast, mm_bast, mm_alen, mm_acpy, mm_call, mm_callv, mm_recv, mm_pop, mm_find, mm_push, mm_cats, mm_cat, mm_reti, mm_retz, mm_retl, mm_reta, mm_retv, mm_set1, mm_set2, mm_kill, List.getElem?_cons_zero, List.getElem?_cons_succ, Int.reduceToNat, ↓reduceIte, Nat.reduceEqDiff, Nat.reduceDiv, Nat.reduceAdd, Nat.reduceLeDiff, Nat.zero_le, true_and, and_true, true_or, or_true, mm_b0, mm_b1, mm_lc_lt, mm_lc_le, mm_lc_gt, mm_lc_ge, mm_lc_eq, Int.not_lt, Int.not_le, Decidable.not_not, Int.sub_neg]
        rw [show k = 64 by omega]; exact h M1 f1
      refine hJ 27 _ _ _ (show mm_wp _ _ _ mo_Tal_parts_27 _ _ _ from ?_)
      simp only [mo_Tal_parts_27, mm_wp, mm_ldi, mm_lda, mm_ldl, mm_sti, mm_sta, mm_stl, mm_inc, mm_2i, mm_mm, mm_2l, mm_lcmp, mm_i2l, mm_l2i, mm_cast8, mm_if1, mm_if2, mm_cmp, mm_swi, mm_sw, mm_pop1, mm_dup, mm_dup2, mm_geti, mm_geta, mm_puti, mm_iald, mm_bald, mm_aald, mm_iast, mm_bast, mm_alen, mm_acpy, mm_call, mm_callv, mm_recv, mm_pop, mm_find, mm_push, mm_cats, mm_cat, mm_reti, mm_retz, mm_retl, mm_reta, mm_retv, mm_set1, mm_set2, mm_kill, List.getElem?_cons_zero, List.getElem?_cons_succ, Int.reduceToNat, ↓reduceIte, Nat.reduceEqDiff, Nat.reduceDiv, Nat.reduceAdd, Nat.reduceLeDiff, Nat.zero_le, true_and, and_true, true_or, or_true, mm_b0, mm_b1, mm_lc_lt, mm_lc_le, mm_lc_gt, mm_lc_ge, mm_lc_eq, Int.not_lt, Int.not_le, Decidable.not_not, Int.sub_neg]
      exact ⟨fun _ => h67, fun z => by omega⟩
    | succ d ih =>
      intro k M1 hk f1 g1
      have e24 : M1 24 = M 24 := f1 24 (by decide)
      have hb := clS_b (M 24) k
      have d1 : Int.tdiv (k : Int) 8 = (k : Int) / 8 := Int.tdiv_eq_ediv_of_nonneg (by omega)
      have d2 : Int.tmod (k : Int) 8 = (k : Int) % 8 := Int.tmod_eq_emod_of_nonneg (by omega)
      have h61 : ∀ (z : Int) (M2 : mmM), z = (clS (M 24) (k + 1)).2 → (∀ o', o' ≠ 25 → M2 o' = M o') → (∀ j, 0 ≤ j → j < 8 → M2 25 j = (clS (M 24) (k + 1)).1 j) → J 61 [some (vr 23), some (vl z), none, some (vi k)] [] M2 := by
        intro z M2 hz f2 g2
        refine hJ 61 _ _ _ (show mm_wp _ _ _ mo_Tal_parts_61 _ _ _ from ?_)
        simp only [mo_Tal_parts_61, mm_wp, mm_ldi, mm_lda, mm_ldl, mm_sti, mm_sta, mm_stl, mm_inc, mm_2i, mm_mm, mm_2l, mm_lcmp, mm_i2l, mm_l2i, mm_cast8, mm_if1, mm_if2, mm_cmp, mm_swi, mm_sw, mm_pop1, mm_dup, mm_dup2, mm_geti, mm_geta, mm_puti, mm_iald, mm_bald, mm_aald, mm_iast, mm_bast, mm_alen, mm_acpy, mm_call, mm_callv, mm_recv, mm_pop, mm_find, mm_push, mm_cats, mm_cat, mm_reti, mm_retz, mm_retl, mm_reta, mm_retv, mm_set1, mm_set2, mm_kill, List.getElem?_cons_zero, List.getElem?_cons_succ, Int.reduceToNat, ↓reduceIte, Nat.reduceEqDiff, Nat.reduceDiv, Nat.reduceAdd, Nat.reduceLeDiff, Nat.zero_le, true_and, and_true, true_or, or_true, mm_b0, mm_b1, mm_lc_lt, mm_lc_le, mm_lc_gt, mm_lc_ge, mm_lc_eq, Int.not_lt, Int.not_le, Decidable.not_not, Int.sub_neg]
        rw [hz]
        exact ⟨by omega, ih (k + 1) M2 (by omega) f2 g2⟩
      have ga := g1 ((k : Int) / 8) (by omega) (by omega)
      have gb := g1 ((k : Int) % 8) (by omega) (by omega)
      refine hJ 27 _ _ _ (show mm_wp _ _ _ mo_Tal_parts_27 _ _ _ from ?_)
      simp only [mo_Tal_parts_27, mm_wp, mm_ldi, mm_lda, mm_ldl, mm_sti, mm_sta, mm_stl, mm_inc, mm_2i, mm_mm, mm_2l, mm_lcmp, mm_i2l, mm_l2i, mm_cast8, mm_if1, mm_if2, mm_cmp, mm_swi, mm_sw, mm_pop1, mm_dup, mm_dup2, mm_geti, mm_geta, mm_puti, mm_iald, mm_bald, mm_aald, mm_iast, mm_bast, mm_alen, mm_acpy, mm_call, mm_callv, mm_recv, mm_pop, mm_find, mm_push, mm_cats, mm_cat, mm_reti, mm_retz, mm_retl, mm_reta, mm_retv, mm_set1, mm_set2, mm_kill, List.getElem?_cons_zero, List.getElem?_cons_succ, Int.reduceToNat, ↓reduceIte, Nat.reduceEqDiff, Nat.reduceDiv, Nat.reduceAdd, Nat.reduceLeDiff, Nat.zero_le, true_and, and_true, true_or, or_true, mm_b0, mm_b1, mm_lc_lt, mm_lc_le, mm_lc_gt, mm_lc_ge, mm_lc_eq, Int.not_lt, Int.not_le, Decidable.not_not, Int.sub_neg, c_0, c_1, c_2, l_2, c_3, c_4, l_4, c_5, l_5, c_6, l_6, c_7, l_7, c_8, c_9, l_9, c_10, l_10, c_11, l_11, c_12, l_12, c_13, c_14, l_14, c_15, l_15, c_16, l_16, c_17, l_17, c_18, c_19, l_19, c_20, l_20, c_21, l_21, c_22, l_22, c_23, c_24, l_24, c_25, l_25, c_26, c_27, c_28, l_28, c_29, c_30, l_30, c_31, c_32, l_32, c_33, l_33, c_34, l_34, c_35, l_35, c_36, l_36, c_37, l_37, c_38, l_38, c_39, l_39, c_40, c_41, l_41, c_42, c_43, c_44, l_44, c_45, c_46, l_46, c_47, c_48, l_48, c_49, l_49, c_50, l_50, c_51, l_51, c_52, l_52, c_53, l_53, c_54, l_54, c_55, l_55, c_56, l_56, c_57, l_57, c_58, l_58, c_59, l_59, c_60, l_60, c_61, l_61, c_62, c_63, l_63, c_64, l_64, c_65, l_65, c_66, l_66, c_67, l_67, c_68, l_68, c_69, l_69, c_70, l_70, c_71, l_71, c_72, l_72, c_73, l_73, c_74, l_74, c_75, l_75, c_76, l_76, e24, d1, d2, t_Tal_join]
      refine ⟨fun z => by omega, fun _ => ⟨by omega, fun z => h61 _ M1 ?_ f1 ?_, fun z => ?_⟩⟩
      · simp only [clS]; rw [if_neg (by omega)]
      · simp only [clS]; rw [if_neg (by omega)]; exact g1
      refine ⟨by omega, by omega, by omega, by omega, by omega, by omega, fun M2 f2 g2 => ?_⟩
      have ee : (clS (M 24) (k + 1)) = (jn (clS (M 24) k).1 ((k : Int) / 8) ((k : Int) % 8), if (clS (M 24) k).1 ((k : Int) / 8) = (clS (M 24) k).1 ((k : Int) % 8) then (clS (M 24) k).2 else (clS (M 24) k).2 - 1) := by
        simp only [clS]; rw [if_pos (by omega)]
      have f3 : ∀ o', o' ≠ 25 → M2 o' = M o' := fun o' c => by rw [f2 o' c, f1 o' c]
      have g3 : ∀ j, 0 ≤ j → j < 8 → M2 25 j = (clS (M 24) (k + 1)).1 j := by
        intro j j0 j1
        rw [g2 j j0 j1, ee]
        unfold jn
        rw [ga, gb, g1 j j0 j1]
      rw [ga, gb]
      refine ⟨fun w => h61 _ M2 ?_ f3 g3, fun w => ⟨by omega, h61 _ M2 ?_ f3 g3⟩⟩
      · rw [ee]; simp only; rw [if_pos (by omega)]
      · rw [ee]; simp only; rw [if_neg (by omega)]
  have hl0 : ∀ (d k : Nat) (M1 : mmM), k + d = 8 → (∀ o', o' ≠ 25 → M1 o' = M o') → (∀ j, 0 ≤ j → j < (k : Int) → M1 25 j = j) → J 2 [some (vr 23), some (vi k), none, none] [] M1 := by
    intro d
    induction d with
    | zero =>
      intro k M1 hk f1 g1
      have h21 : J 21 [some (vr 23), some (vi k), none, none] [] M1 := by
        refine hJ 21 _ _ _ (show mm_wp _ _ _ mo_Tal_parts_21 _ _ _ from ?_)
        simp only [mo_Tal_parts_21, mm_wp, mm_ldi, mm_lda, mm_ldl, mm_sti, mm_sta, mm_stl, mm_inc, mm_2i, mm_mm, mm_2l, mm_lcmp, mm_i2l, mm_l2i, mm_cast8, mm_if1, mm_if2, mm_cmp, mm_swi, mm_sw, mm_pop1, mm_dup, mm_dup2, mm_geti, mm_geta, mm_puti, mm_iald, mm_bald, mm_aald, mm_iast, mm_bast, mm_alen, mm_acpy, mm_call, mm_callv, mm_recv, mm_pop, mm_find, mm_push, mm_cats, mm_cat, mm_reti, mm_retz, mm_retl, mm_reta, mm_retv, mm_set1, mm_set2, mm_kill, List.getElem?_cons_zero, List.getElem?_cons_succ, Int.reduceToNat, ↓reduceIte, Nat.reduceEqDiff, Nat.reduceDiv, Nat.reduceAdd, Nat.reduceLeDiff, Nat.zero_le, true_and, and_true, true_or, or_true, mm_b0, mm_b1, mm_lc_lt, mm_lc_le, mm_lc_gt, mm_lc_ge, mm_lc_eq, Int.not_lt, Int.not_le, Decidable.not_not, Int.sub_neg]
        exact hl 64 0 M1 rfl f1 (fun j j0 j1 => g1 j j0 (by omega))
      refine hJ 2 _ _ _ (show mm_wp _ _ _ mo_Tal_parts_2 _ _ _ from ?_)
      simp only [mo_Tal_parts_2, mm_wp, mm_ldi, mm_lda, mm_ldl, mm_sti, mm_sta, mm_stl, mm_inc, mm_2i, mm_mm, mm_2l, mm_lcmp, mm_i2l, mm_l2i, mm_cast8, mm_if1, mm_if2, mm_cmp, mm_swi, mm_sw, mm_pop1, mm_dup, mm_dup2, mm_geti, mm_geta, mm_puti, mm_iald, mm_bald, mm_aald, mm_iast, mm_bast, mm_alen, mm_acpy, mm_call, mm_callv, mm_recv, mm_pop, mm_find, mm_push, mm_cats, mm_cat, mm_reti, mm_retz, mm_retl, mm_reta, mm_retv, mm_set1, mm_set2, mm_kill, List.getElem?_cons_zero, List.getElem?_cons_succ, Int.reduceToNat, ↓reduceIte, Nat.reduceEqDiff, Nat.reduceDiv, Nat.reduceAdd, Nat.reduceLeDiff, Nat.zero_le, true_and, and_true, true_or, or_true, mm_b0, mm_b1, mm_lc_lt, mm_lc_le, mm_lc_gt, mm_lc_ge, mm_lc_eq, Int.not_lt, Int.not_le, Decidable.not_not, Int.sub_neg]
      exact ⟨fun _ => h21, fun z => by omega⟩
    | succ d ih =>
      intro k M1 hk f1 g1
      refine hJ 2 _ _ _ (show mm_wp _ _ _ mo_Tal_parts_2 _ _ _ from ?_)
      simp only [mo_Tal_parts_2, mm_wp, mm_ldi, mm_lda, mm_ldl, mm_sti, mm_sta, mm_stl, mm_inc, mm_2i, mm_mm, mm_2l, mm_lcmp, mm_i2l, mm_l2i, mm_cast8, mm_if1, mm_if2, mm_cmp, mm_swi, mm_sw, mm_pop1, mm_dup, mm_dup2, mm_geti, mm_geta, mm_puti, mm_iald, mm_bald, mm_aald, mm_iast, mm_bast, mm_alen, mm_acpy, mm_call, mm_callv, mm_recv, mm_pop, mm_find, mm_push, mm_cats, mm_cat, mm_reti, mm_retz, mm_retl, mm_reta, mm_retv, mm_set1, mm_set2, mm_kill, List.getElem?_cons_zero, List.getElem?_cons_succ, Int.reduceToNat, ↓reduceIte, Nat.reduceEqDiff, Nat.reduceDiv, Nat.reduceAdd, Nat.reduceLeDiff, Nat.zero_le, true_and, and_true, true_or, or_true, mm_b0, mm_b1, mm_lc_lt, mm_lc_le, mm_lc_gt, mm_lc_ge, mm_lc_eq, Int.not_lt, Int.not_le, Decidable.not_not, Int.sub_neg, c_0, c_1, c_2, l_2, c_3, c_4, l_4, c_5, l_5, c_6, l_6, c_7, l_7, c_8, c_9, l_9, c_10, l_10, c_11, l_11, c_12, l_12, c_13, c_14, l_14, c_15, l_15, c_16, l_16, c_17, l_17, c_18, c_19, l_19, c_20, l_20, c_21, l_21, c_22, l_22, c_23, c_24, l_24, c_25, l_25, c_26, c_27, c_28, l_28, c_29, c_30, l_30, c_31, c_32, l_32, c_33, l_33, c_34, l_34, c_35, l_35, c_36, l_36, c_37, l_37, c_38, l_38, c_39, l_39, c_40, c_41, l_41, c_42, c_43, c_44, l_44, c_45, c_46, l_46, c_47, c_48, l_48, c_49, l_49, c_50, l_50, c_51, l_51, c_52, l_52, c_53, l_53, c_54, l_54, c_55, l_55, c_56, l_56, c_57, l_57, c_58, l_58, c_59, l_59, c_60, l_60, c_61, l_61, c_62, c_63, l_63, c_64, l_64, c_65, l_65, c_66, l_66, c_67, l_67, c_68, l_68, c_69, l_69, c_70, l_70, c_71, l_71, c_72, l_72, c_73, l_73, c_74, l_74, c_75, l_75, c_76, l_76]
      refine ⟨fun z => by omega, fun _ => ⟨by omega, by omega, ih (k + 1) _ (by omega) (fun o' c => by rw [mm_up_o _ _ c, f1 o' c]) (fun j j0 j1 => ?_)⟩⟩
      rw [mm_up_if]
      split
      · omega
      · exact g1 j j0 (by omega)
  refine hJ 0 _ _ _ (show mm_wp _ _ _ mo_Tal_parts_0 _ _ _ from ?_)
  simp only [mo_Tal_parts_0, mm_wp, mm_ldi, mm_lda, mm_ldl, mm_sti, mm_sta, mm_stl, mm_inc, mm_2i, mm_mm, mm_2l, mm_lcmp, mm_i2l, mm_l2i, mm_cast8, mm_if1, mm_if2, mm_cmp, mm_swi, mm_sw, mm_pop1, mm_dup, mm_dup2, mm_geti, mm_geta, mm_puti, mm_iald, mm_bald, mm_aald, mm_iast, mm_bast, mm_alen, mm_acpy, mm_call, mm_callv, mm_recv, mm_pop, mm_find, mm_push, mm_cats, mm_cat, mm_reti, mm_retz, mm_retl, mm_reta, mm_retv, mm_set1, mm_set2, mm_kill, List.getElem?_cons_zero, List.getElem?_cons_succ, Int.reduceToNat, ↓reduceIte, Nat.reduceEqDiff, Nat.reduceDiv, Nat.reduceAdd, Nat.reduceLeDiff, Nat.zero_le, true_and, and_true, true_or, or_true, mm_b0, mm_b1, mm_lc_lt, mm_lc_le, mm_lc_gt, mm_lc_ge, mm_lc_eq, Int.not_lt, Int.not_le, Decidable.not_not, Int.sub_neg]
  exact hl0 8 0 M rfl (fun _ _ => rfl) (fun j j0 j1 => by omega)
def t_Tal_tell : mmT := fun as M Q => match as with
  | [.inr (.inr o), .inl k] => o = 23 ∧ tB M ∧ 0 ≤ k ∧ k ≤ 7 ∧ ∀ M', (∀ o', o' ≠ 25 → M' o' = M o') → Q (some (vl (tell (M 24) k))) M'
  | _ => False
set_option maxHeartbeats 4000000 in
set_option maxRecDepth 100000 in
theorem p_Tal_tell : ∀ as M Q, (∀ v ∈ as, mm_vin v) → mm_mem M → t_Tal_tell as M Q → (mm_ent as).length ≤ 2 ∧ mm_ok mb_Tal_tell [(703, t_Tal_sum), (704, t_Tal_unlike), (705, t_Tal_mostFrequent), (706, t_Tal_power), (707, t_Tal_missing), (708, t_Tal_parts), (710, t_Tal_pairs)] (mm_entry 2 as) M Q := by
  intro as M Q hin hM h
  unfold t_Tal_tell at h
  split at h
  rotate_left
  · exact h.elim
  rename_i o k
  have hR_k : mm_R k := hin (vi k) (by simp)
  refine ⟨by simp [mm_ent], (show mm_ok mb_Tal_tell [(703, t_Tal_sum), (704, t_Tal_unlike), (705, t_Tal_mostFrequent), (706, t_Tal_power), (707, t_Tal_missing), (708, t_Tal_parts), (710, t_Tal_pairs)] [some (vr o), some (vi k)] M Q from ?_)⟩
  intro J hJ
  obtain ⟨rfl, hT, k0, k7, h⟩ := h
  have hq := h M (fun _ _ => rfl)
  have hb := amx_b (M 24) 63
  have hk : k = 0 ∨ k = 1 ∨ k = 2 ∨ k = 3 ∨ k = 4 ∨ k = 5 ∨ k = 6 ∨ k = 7 := by omega
  rcases hk with rfl | rfl | rfl | rfl | rfl | rfl | rfl | rfl <;> simp only [tell, Int.reduceEq, ↓reduceIte] at h hq
  all_goals
    repeat' first | (refine And.intro ?_ ?_) | (intro _) | (refine hJ 0 _ _ _ ?_; show mm_wp _ _ _ mo_Tal_tell_0 _ _ _; simp only [mo_Tal_tell_0, mm_wp, mm_ldi, mm_lda, mm_ldl, mm_sti, mm_sta, mm_stl, mm_inc, mm_2i, mm_mm, mm_2l, mm_lcmp, mm_i2l, mm_l2i, mm_cast8, mm_if1, mm_if2, mm_cmp, mm_swi, mm_sw, mm_pop1, mm_dup, mm_dup2, mm_geti, mm_geta, mm_puti, mm_iald, mm_bald, mm_aald, mm_iast, mm_bast, mm_alen, mm_acpy, mm_call, mm_callv, mm_recv, mm_pop, mm_find, mm_push, mm_cats, mm_cat, mm_reti, mm_retz, mm_retl, mm_reta, mm_retv, mm_set1, mm_set2, mm_kill, List.getElem?_cons_zero, List.getElem?_cons_succ, Int.reduceToNat, ↓reduceIte, Nat.reduceEqDiff, Nat.reduceDiv, Nat.reduceAdd, Nat.reduceLeDiff, Nat.zero_le, true_and, and_true, true_or, or_true, mm_b0, mm_b1, mm_lc_lt, mm_lc_le, mm_lc_gt, mm_lc_ge, mm_lc_eq, Int.not_lt, Int.not_le, Decidable.not_not, Int.sub_neg, c_0, c_1, c_2, l_2, c_3, c_4, l_4, c_5, l_5, c_6, l_6, c_7, l_7, c_8, c_9, l_9, c_10, l_10, c_11, l_11, c_12, l_12, c_13, c_14, l_14, c_15, l_15, c_16, l_16, c_17, l_17, c_18, c_19, l_19, c_20, l_20, c_21, l_21, c_22, l_22, c_23, c_24, l_24, c_25, l_25, c_26, c_27, c_28, l_28, c_29, c_30, l_30, c_31, c_32, l_32, c_33, l_33, c_34, l_34, c_35, l_35, c_36, l_36, c_37, l_37, c_38, l_38, c_39, l_39, c_40, c_41, l_41, c_42, c_43, c_44, l_44, c_45, c_46, l_46, c_47, c_48, l_48, c_49, l_49, c_50, l_50, c_51, l_51, c_52, l_52, c_53, l_53, c_54, l_54, c_55, l_55, c_56, l_56, c_57, l_57, c_58, l_58, c_59, l_59, c_60, l_60, c_61, l_61, c_62, c_63, l_63, c_64, l_64, c_65, l_65, c_66, l_66, c_67, l_67, c_68, l_68, c_69, l_69, c_70, l_70, c_71, l_71, c_72, l_72, c_73, l_73, c_74, l_74, c_75, l_75, c_76, l_76, Int.reduceEq, not_true_eq_false, not_false_eq_true, forall_const, false_implies, implies_true, t_Tal_sum, t_Tal_unlike, t_Tal_mostFrequent, t_Tal_power, t_Tal_missing, t_Tal_parts, t_Tal_pairs]) | (refine hJ 44 _ _ _ ?_; show mm_wp _ _ _ mo_Tal_tell_44 _ _ _; simp only [mo_Tal_tell_44, mm_wp, mm_ldi, mm_lda, mm_ldl, mm_sti, mm_sta, mm_stl, mm_inc, mm_2i, mm_mm, mm_2l, mm_lcmp, mm_i2l, mm_l2i, mm_cast8, mm_if1, mm_if2, mm_cmp, mm_swi, mm_sw, mm_pop1, mm_dup, mm_dup2, mm_geti, mm_geta, mm_puti, mm_iald, mm_bald, mm_aald, mm_iast, mm_bast, mm_alen, mm_acpy, mm_call, mm_callv, mm_recv, mm_pop, mm_find, mm_push, mm_cats, mm_cat, mm_reti, mm_retz, mm_retl, mm_reta, mm_retv, mm_set1, mm_set2, mm_kill, List.getElem?_cons_zero, List.getElem?_cons_succ, Int.reduceToNat, ↓reduceIte, Nat.reduceEqDiff, Nat.reduceDiv, Nat.reduceAdd, Nat.reduceLeDiff, Nat.zero_le, true_and, and_true, true_or, or_true, mm_b0, mm_b1, mm_lc_lt, mm_lc_le, mm_lc_gt, mm_lc_ge, mm_lc_eq, Int.not_lt, Int.not_le, Decidable.not_not, Int.sub_neg, c_0, c_1, c_2, l_2, c_3, c_4, l_4, c_5, l_5, c_6, l_6, c_7, l_7, c_8, c_9, l_9, c_10, l_10, c_11, l_11, c_12, l_12, c_13, c_14, l_14, c_15, l_15, c_16, l_16, c_17, l_17, c_18, c_19, l_19, c_20, l_20, c_21, l_21, c_22, l_22, c_23, c_24, l_24, c_25, l_25, c_26, c_27, c_28, l_28, c_29, c_30, l_30, c_31, c_32, l_32, c_33, l_33, c_34, l_34, c_35, l_35, c_36, l_36, c_37, l_37, c_38, l_38, c_39, l_39, c_40, c_41, l_41, c_42, c_43, c_44, l_44, c_45, c_46, l_46, c_47, c_48, l_48, c_49, l_49, c_50, l_50, c_51, l_51, c_52, l_52, c_53, l_53, c_54, l_54, c_55, l_55, c_56, l_56, c_57, l_57, c_58, l_58, c_59, l_59, c_60, l_60, c_61, l_61, c_62, c_63, l_63, c_64, l_64, c_65, l_65, c_66, l_66, c_67, l_67, c_68, l_68, c_69, l_69, c_70, l_70, c_71, l_71, c_72, l_72, c_73, l_73, c_74, l_74, c_75, l_75, c_76, l_76, Int.reduceEq, not_true_eq_false, not_false_eq_true, forall_const, false_implies, implies_true, t_Tal_sum, t_Tal_unlike, t_Tal_mostFrequent, t_Tal_power, t_Tal_missing, t_Tal_parts, t_Tal_pairs]) | (refine hJ 49 _ _ _ ?_; show mm_wp _ _ _ mo_Tal_tell_49 _ _ _; simp only [mo_Tal_tell_49, mm_wp, mm_ldi, mm_lda, mm_ldl, mm_sti, mm_sta, mm_stl, mm_inc, mm_2i, mm_mm, mm_2l, mm_lcmp, mm_i2l, mm_l2i, mm_cast8, mm_if1, mm_if2, mm_cmp, mm_swi, mm_sw, mm_pop1, mm_dup, mm_dup2, mm_geti, mm_geta, mm_puti, mm_iald, mm_bald, mm_aald, mm_iast, mm_bast, mm_alen, mm_acpy, mm_call, mm_callv, mm_recv, mm_pop, mm_find, mm_push, mm_cats, mm_cat, mm_reti, mm_retz, mm_retl, mm_reta, mm_retv, mm_set1, mm_set2, mm_kill, List.getElem?_cons_zero, List.getElem?_cons_succ, Int.reduceToNat, ↓reduceIte, Nat.reduceEqDiff, Nat.reduceDiv, Nat.reduceAdd, Nat.reduceLeDiff, Nat.zero_le, true_and, and_true, true_or, or_true, mm_b0, mm_b1, mm_lc_lt, mm_lc_le, mm_lc_gt, mm_lc_ge, mm_lc_eq, Int.not_lt, Int.not_le, Decidable.not_not, Int.sub_neg, c_0, c_1, c_2, l_2, c_3, c_4, l_4, c_5, l_5, c_6, l_6, c_7, l_7, c_8, c_9, l_9, c_10, l_10, c_11, l_11, c_12, l_12, c_13, c_14, l_14, c_15, l_15, c_16, l_16, c_17, l_17, c_18, c_19, l_19, c_20, l_20, c_21, l_21, c_22, l_22, c_23, c_24, l_24, c_25, l_25, c_26, c_27, c_28, l_28, c_29, c_30, l_30, c_31, c_32, l_32, c_33, l_33, c_34, l_34, c_35, l_35, c_36, l_36, c_37, l_37, c_38, l_38, c_39, l_39, c_40, c_41, l_41, c_42, c_43, c_44, l_44, c_45, c_46, l_46, c_47, c_48, l_48, c_49, l_49, c_50, l_50, c_51, l_51, c_52, l_52, c_53, l_53, c_54, l_54, c_55, l_55, c_56, l_56, c_57, l_57, c_58, l_58, c_59, l_59, c_60, l_60, c_61, l_61, c_62, c_63, l_63, c_64, l_64, c_65, l_65, c_66, l_66, c_67, l_67, c_68, l_68, c_69, l_69, c_70, l_70, c_71, l_71, c_72, l_72, c_73, l_73, c_74, l_74, c_75, l_75, c_76, l_76, Int.reduceEq, not_true_eq_false, not_false_eq_true, forall_const, false_implies, implies_true, t_Tal_sum, t_Tal_unlike, t_Tal_mostFrequent, t_Tal_power, t_Tal_missing, t_Tal_parts, t_Tal_pairs]) | (refine hJ 54 _ _ _ ?_; show mm_wp _ _ _ mo_Tal_tell_54 _ _ _; simp only [mo_Tal_tell_54, mm_wp, mm_ldi, mm_lda, mm_ldl, mm_sti, mm_sta, mm_stl, mm_inc, mm_2i, mm_mm, mm_2l, mm_lcmp, mm_i2l, mm_l2i, mm_cast8, mm_if1, mm_if2, mm_cmp, mm_swi, mm_sw, mm_pop1, mm_dup, mm_dup2, mm_geti, mm_geta, mm_puti, mm_iald, mm_bald, mm_aald, mm_iast, mm_bast, mm_alen, mm_acpy, mm_call, mm_callv, mm_recv, mm_pop, mm_find, mm_push, mm_cats, mm_cat, mm_reti, mm_retz, mm_retl, mm_reta, mm_retv, mm_set1, mm_set2, mm_kill, List.getElem?_cons_zero, List.getElem?_cons_succ, Int.reduceToNat, ↓reduceIte, Nat.reduceEqDiff, Nat.reduceDiv, Nat.reduceAdd, Nat.reduceLeDiff, Nat.zero_le, true_and, and_true, true_or, or_true, mm_b0, mm_b1, mm_lc_lt, mm_lc_le, mm_lc_gt, mm_lc_ge, mm_lc_eq, Int.not_lt, Int.not_le, Decidable.not_not, Int.sub_neg, c_0, c_1, c_2, l_2, c_3, c_4, l_4, c_5, l_5, c_6, l_6, c_7, l_7, c_8, c_9, l_9, c_10, l_10, c_11, l_11, c_12, l_12, c_13, c_14, l_14, c_15, l_15, c_16, l_16, c_17, l_17, c_18, c_19, l_19, c_20, l_20, c_21, l_21, c_22, l_22, c_23, c_24, l_24, c_25, l_25, c_26, c_27, c_28, l_28, c_29, c_30, l_30, c_31, c_32, l_32, c_33, l_33, c_34, l_34, c_35, l_35, c_36, l_36, c_37, l_37, c_38, l_38, c_39, l_39, c_40, c_41, l_41, c_42, c_43, c_44, l_44, c_45, c_46, l_46, c_47, c_48, l_48, c_49, l_49, c_50, l_50, c_51, l_51, c_52, l_52, c_53, l_53, c_54, l_54, c_55, l_55, c_56, l_56, c_57, l_57, c_58, l_58, c_59, l_59, c_60, l_60, c_61, l_61, c_62, c_63, l_63, c_64, l_64, c_65, l_65, c_66, l_66, c_67, l_67, c_68, l_68, c_69, l_69, c_70, l_70, c_71, l_71, c_72, l_72, c_73, l_73, c_74, l_74, c_75, l_75, c_76, l_76, Int.reduceEq, not_true_eq_false, not_false_eq_true, forall_const, false_implies, implies_true, t_Tal_sum, t_Tal_unlike, t_Tal_mostFrequent, t_Tal_power, t_Tal_missing, t_Tal_parts, t_Tal_pairs]) | (refine hJ 65 _ _ _ ?_; show mm_wp _ _ _ mo_Tal_tell_65 _ _ _; simp only [mo_Tal_tell_65, mm_wp, mm_ldi, mm_lda, mm_ldl, mm_sti, mm_sta, mm_stl, mm_inc, mm_2i, mm_mm, mm_2l, mm_lcmp, mm_i2l, mm_l2i, mm_cast8, mm_if1, mm_if2, mm_cmp, mm_swi, mm_sw, mm_pop1, mm_dup, mm_dup2, mm_geti, mm_geta, mm_puti, mm_iald, mm_bald, mm_aald, mm_iast, mm_bast, mm_alen, mm_acpy, mm_call, mm_callv, mm_recv, mm_pop, mm_find, mm_push, mm_cats, mm_cat, mm_reti, mm_retz, mm_retl, mm_reta, mm_retv, mm_set1, mm_set2, mm_kill, List.getElem?_cons_zero, List.getElem?_cons_succ, Int.reduceToNat, ↓reduceIte, Nat.reduceEqDiff, Nat.reduceDiv, Nat.reduceAdd, Nat.reduceLeDiff, Nat.zero_le, true_and, and_true, true_or, or_true, mm_b0, mm_b1, mm_lc_lt, mm_lc_le, mm_lc_gt, mm_lc_ge, mm_lc_eq, Int.not_lt, Int.not_le, Decidable.not_not, Int.sub_neg, c_0, c_1, c_2, l_2, c_3, c_4, l_4, c_5, l_5, c_6, l_6, c_7, l_7, c_8, c_9, l_9, c_10, l_10, c_11, l_11, c_12, l_12, c_13, c_14, l_14, c_15, l_15, c_16, l_16, c_17, l_17, c_18, c_19, l_19, c_20, l_20, c_21, l_21, c_22, l_22, c_23, c_24, l_24, c_25, l_25, c_26, c_27, c_28, l_28, c_29, c_30, l_30, c_31, c_32, l_32, c_33, l_33, c_34, l_34, c_35, l_35, c_36, l_36, c_37, l_37, c_38, l_38, c_39, l_39, c_40, c_41, l_41, c_42, c_43, c_44, l_44, c_45, c_46, l_46, c_47, c_48, l_48, c_49, l_49, c_50, l_50, c_51, l_51, c_52, l_52, c_53, l_53, c_54, l_54, c_55, l_55, c_56, l_56, c_57, l_57, c_58, l_58, c_59, l_59, c_60, l_60, c_61, l_61, c_62, c_63, l_63, c_64, l_64, c_65, l_65, c_66, l_66, c_67, l_67, c_68, l_68, c_69, l_69, c_70, l_70, c_71, l_71, c_72, l_72, c_73, l_73, c_74, l_74, c_75, l_75, c_76, l_76, Int.reduceEq, not_true_eq_false, not_false_eq_true, forall_const, false_implies, implies_true, t_Tal_sum, t_Tal_unlike, t_Tal_mostFrequent, t_Tal_power, t_Tal_missing, t_Tal_parts, t_Tal_pairs]) | (refine hJ 71 _ _ _ ?_; show mm_wp _ _ _ mo_Tal_tell_71 _ _ _; simp only [mo_Tal_tell_71, mm_wp, mm_ldi, mm_lda, mm_ldl, mm_sti, mm_sta, mm_stl, mm_inc, mm_2i, mm_mm, mm_2l, mm_lcmp, mm_i2l, mm_l2i, mm_cast8, mm_if1, mm_if2, mm_cmp, mm_swi, mm_sw, mm_pop1, mm_dup, mm_dup2, mm_geti, mm_geta, mm_puti, mm_iald, mm_bald, mm_aald, mm_iast, mm_bast, mm_alen, mm_acpy, mm_call, mm_callv, mm_recv, mm_pop, mm_find, mm_push, mm_cats, mm_cat, mm_reti, mm_retz, mm_retl, mm_reta, mm_retv, mm_set1, mm_set2, mm_kill, List.getElem?_cons_zero, List.getElem?_cons_succ, Int.reduceToNat, ↓reduceIte, Nat.reduceEqDiff, Nat.reduceDiv, Nat.reduceAdd, Nat.reduceLeDiff, Nat.zero_le, true_and, and_true, true_or, or_true, mm_b0, mm_b1, mm_lc_lt, mm_lc_le, mm_lc_gt, mm_lc_ge, mm_lc_eq, Int.not_lt, Int.not_le, Decidable.not_not, Int.sub_neg, c_0, c_1, c_2, l_2, c_3, c_4, l_4, c_5, l_5, c_6, l_6, c_7, l_7, c_8, c_9, l_9, c_10, l_10, c_11, l_11, c_12, l_12, c_13, c_14, l_14, c_15, l_15, c_16, l_16, c_17, l_17, c_18, c_19, l_19, c_20, l_20, c_21, l_21, c_22, l_22, c_23, c_24, l_24, c_25, l_25, c_26, c_27, c_28, l_28, c_29, c_30, l_30, c_31, c_32, l_32, c_33, l_33, c_34, l_34, c_35, l_35, c_36, l_36, c_37, l_37, c_38, l_38, c_39, l_39, c_40, c_41, l_41, c_42, c_43, c_44, l_44, c_45, c_46, l_46, c_47, c_48, l_48, c_49, l_49, c_50, l_50, c_51, l_51, c_52, l_52, c_53, l_53, c_54, l_54, c_55, l_55, c_56, l_56, c_57, l_57, c_58, l_58, c_59, l_59, c_60, l_60, c_61, l_61, c_62, c_63, l_63, c_64, l_64, c_65, l_65, c_66, l_66, c_67, l_67, c_68, l_68, c_69, l_69, c_70, l_70, c_71, l_71, c_72, l_72, c_73, l_73, c_74, l_74, c_75, l_75, c_76, l_76, Int.reduceEq, not_true_eq_false, not_false_eq_true, forall_const, false_implies, implies_true, t_Tal_sum, t_Tal_unlike, t_Tal_mostFrequent, t_Tal_power, t_Tal_missing, t_Tal_parts, t_Tal_pairs]) | (refine hJ 76 _ _ _ ?_; show mm_wp _ _ _ mo_Tal_tell_76 _ _ _; simp only [mo_Tal_tell_76, mm_wp, mm_ldi, mm_lda, mm_ldl, mm_sti, mm_sta, mm_stl, mm_inc, mm_2i, mm_mm, mm_2l, mm_lcmp, mm_i2l, mm_l2i, mm_cast8, mm_if1, mm_if2, mm_cmp, mm_swi, mm_sw, mm_pop1, mm_dup, mm_dup2, mm_geti, mm_geta, mm_puti, mm_iald, mm_bald, mm_aald, mm_iast, mm_bast, mm_alen, mm_acpy, mm_call, mm_callv, mm_recv, mm_pop, mm_find, mm_push, mm_cats, mm_cat, mm_reti, mm_retz, mm_retl, mm_reta, mm_retv, mm_set1, mm_set2, mm_kill, List.getElem?_cons_zero, List.getElem?_cons_succ, Int.reduceToNat, ↓reduceIte, Nat.reduceEqDiff, Nat.reduceDiv, Nat.reduceAdd, Nat.reduceLeDiff, Nat.zero_le, true_and, and_true, true_or, or_true, mm_b0, mm_b1, mm_lc_lt, mm_lc_le, mm_lc_gt, mm_lc_ge, mm_lc_eq, Int.not_lt, Int.not_le, Decidable.not_not, Int.sub_neg, c_0, c_1, c_2, l_2, c_3, c_4, l_4, c_5, l_5, c_6, l_6, c_7, l_7, c_8, c_9, l_9, c_10, l_10, c_11, l_11, c_12, l_12, c_13, c_14, l_14, c_15, l_15, c_16, l_16, c_17, l_17, c_18, c_19, l_19, c_20, l_20, c_21, l_21, c_22, l_22, c_23, c_24, l_24, c_25, l_25, c_26, c_27, c_28, l_28, c_29, c_30, l_30, c_31, c_32, l_32, c_33, l_33, c_34, l_34, c_35, l_35, c_36, l_36, c_37, l_37, c_38, l_38, c_39, l_39, c_40, c_41, l_41, c_42, c_43, c_44, l_44, c_45, c_46, l_46, c_47, c_48, l_48, c_49, l_49, c_50, l_50, c_51, l_51, c_52, l_52, c_53, l_53, c_54, l_54, c_55, l_55, c_56, l_56, c_57, l_57, c_58, l_58, c_59, l_59, c_60, l_60, c_61, l_61, c_62, c_63, l_63, c_64, l_64, c_65, l_65, c_66, l_66, c_67, l_67, c_68, l_68, c_69, l_69, c_70, l_70, c_71, l_71, c_72, l_72, c_73, l_73, c_74, l_74, c_75, l_75, c_76, l_76, Int.reduceEq, not_true_eq_false, not_false_eq_true, forall_const, false_implies, implies_true, t_Tal_sum, t_Tal_unlike, t_Tal_mostFrequent, t_Tal_power, t_Tal_missing, t_Tal_parts, t_Tal_pairs]) | (refine hJ 81 _ _ _ ?_; show mm_wp _ _ _ mo_Tal_tell_81 _ _ _; simp only [mo_Tal_tell_81, mm_wp, mm_ldi, mm_lda, mm_ldl, mm_sti, mm_sta, mm_stl, mm_inc, mm_2i, mm_mm, mm_2l, mm_lcmp, mm_i2l, mm_l2i, mm_cast8, mm_if1, mm_if2, mm_cmp, mm_swi, mm_sw, mm_pop1, mm_dup, mm_dup2, mm_geti, mm_geta, mm_puti, mm_iald, mm_bald, mm_aald, mm_iast, mm_bast, mm_alen, mm_acpy, mm_call, mm_callv, mm_recv, mm_pop, mm_find, mm_push, mm_cats, mm_cat, mm_reti, mm_retz, mm_retl, mm_reta, mm_retv, mm_set1, mm_set2, mm_kill, List.getElem?_cons_zero, List.getElem?_cons_succ, Int.reduceToNat, ↓reduceIte, Nat.reduceEqDiff, Nat.reduceDiv, Nat.reduceAdd, Nat.reduceLeDiff, Nat.zero_le, true_and, and_true, true_or, or_true, mm_b0, mm_b1, mm_lc_lt, mm_lc_le, mm_lc_gt, mm_lc_ge, mm_lc_eq, Int.not_lt, Int.not_le, Decidable.not_not, Int.sub_neg, c_0, c_1, c_2, l_2, c_3, c_4, l_4, c_5, l_5, c_6, l_6, c_7, l_7, c_8, c_9, l_9, c_10, l_10, c_11, l_11, c_12, l_12, c_13, c_14, l_14, c_15, l_15, c_16, l_16, c_17, l_17, c_18, c_19, l_19, c_20, l_20, c_21, l_21, c_22, l_22, c_23, c_24, l_24, c_25, l_25, c_26, c_27, c_28, l_28, c_29, c_30, l_30, c_31, c_32, l_32, c_33, l_33, c_34, l_34, c_35, l_35, c_36, l_36, c_37, l_37, c_38, l_38, c_39, l_39, c_40, c_41, l_41, c_42, c_43, c_44, l_44, c_45, c_46, l_46, c_47, c_48, l_48, c_49, l_49, c_50, l_50, c_51, l_51, c_52, l_52, c_53, l_53, c_54, l_54, c_55, l_55, c_56, l_56, c_57, l_57, c_58, l_58, c_59, l_59, c_60, l_60, c_61, l_61, c_62, c_63, l_63, c_64, l_64, c_65, l_65, c_66, l_66, c_67, l_67, c_68, l_68, c_69, l_69, c_70, l_70, c_71, l_71, c_72, l_72, c_73, l_73, c_74, l_74, c_75, l_75, c_76, l_76, Int.reduceEq, not_true_eq_false, not_false_eq_true, forall_const, false_implies, implies_true, t_Tal_sum, t_Tal_unlike, t_Tal_mostFrequent, t_Tal_power, t_Tal_missing, t_Tal_parts, t_Tal_pairs]) | (refine hJ 86 _ _ _ ?_; show mm_wp _ _ _ mo_Tal_tell_86 _ _ _; simp only [mo_Tal_tell_86, mm_wp, mm_ldi, mm_lda, mm_ldl, mm_sti, mm_sta, mm_stl, mm_inc, mm_2i, mm_mm, mm_2l, mm_lcmp, mm_i2l, mm_l2i, mm_cast8, mm_if1, mm_if2, mm_cmp, mm_swi, mm_sw, mm_pop1, mm_dup, mm_dup2, mm_geti, mm_geta, mm_puti, mm_iald, mm_bald, mm_aald, mm_iast, mm_bast, mm_alen, mm_acpy, mm_call, mm_callv, mm_recv, mm_pop, mm_find, mm_push, mm_cats, mm_cat, mm_reti, mm_retz, mm_retl, mm_reta, mm_retv, mm_set1, mm_set2, mm_kill, List.getElem?_cons_zero, List.getElem?_cons_succ, Int.reduceToNat, ↓reduceIte, Nat.reduceEqDiff, Nat.reduceDiv, Nat.reduceAdd, Nat.reduceLeDiff, Nat.zero_le, true_and, and_true, true_or, or_true, mm_b0, mm_b1, mm_lc_lt, mm_lc_le, mm_lc_gt, mm_lc_ge, mm_lc_eq, Int.not_lt, Int.not_le, Decidable.not_not, Int.sub_neg, c_0, c_1, c_2, l_2, c_3, c_4, l_4, c_5, l_5, c_6, l_6, c_7, l_7, c_8, c_9, l_9, c_10, l_10, c_11, l_11, c_12, l_12, c_13, c_14, l_14, c_15, l_15, c_16, l_16, c_17, l_17, c_18, c_19, l_19, c_20, l_20, c_21, l_21, c_22, l_22, c_23, c_24, l_24, c_25, l_25, c_26, c_27, c_28, l_28, c_29, c_30, l_30, c_31, c_32, l_32, c_33, l_33, c_34, l_34, c_35, l_35, c_36, l_36, c_37, l_37, c_38, l_38, c_39, l_39, c_40, c_41, l_41, c_42, c_43, c_44, l_44, c_45, c_46, l_46, c_47, c_48, l_48, c_49, l_49, c_50, l_50, c_51, l_51, c_52, l_52, c_53, l_53, c_54, l_54, c_55, l_55, c_56, l_56, c_57, l_57, c_58, l_58, c_59, l_59, c_60, l_60, c_61, l_61, c_62, c_63, l_63, c_64, l_64, c_65, l_65, c_66, l_66, c_67, l_67, c_68, l_68, c_69, l_69, c_70, l_70, c_71, l_71, c_72, l_72, c_73, l_73, c_74, l_74, c_75, l_75, c_76, l_76, Int.reduceEq, not_true_eq_false, not_false_eq_true, forall_const, false_implies, implies_true, t_Tal_sum, t_Tal_unlike, t_Tal_mostFrequent, t_Tal_power, t_Tal_missing, t_Tal_parts, t_Tal_pairs])
    all_goals first | assumption | (exact Or.inl rfl) | (exact Or.inr rfl) | (exact rfl) | trivial | omega | (exact (hT _ (by assumption) (by assumption)).1) | (exact (hT _ (by assumption) (by assumption)).2) | (apply h; assumption)
