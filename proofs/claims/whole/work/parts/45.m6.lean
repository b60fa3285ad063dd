/-! the reference: the order of questions, the plan -/
def t_M_curve : mmT := fun as M Q => match as with
  | [.inl x0, .inl y0] => (0 ≤ x0 ∧ x0 < 64 ∧ 0 ≤ y0 ∧ y0 < 64) ∧ Q (some (vi (cv x0 y0))) M
  | _ => False
set_option maxHeartbeats 4000000 in
set_option maxRecDepth 100000 in
theorem p_M_curve : ∀ as M Q, (∀ v ∈ as, mm_vin v) → mm_mem M → t_M_curve as M Q → (mm_ent as).length ≤ 10 ∧ mm_ok mb_M_curve [] (mm_entry 10 as) M Q := by
  intro as M Q hin hM h
  unfold t_M_curve at h
  split at h
  rotate_left
  · exact h.elim
  rename_i x0 y0
  have hR_x0 : mm_R x0 := hin (vi x0) (by simp)
  have hR_y0 : mm_R y0 := hin (vi y0) (by simp)
  refine ⟨by simp [mm_ent], (show mm_ok mb_M_curve [] [some (vi x0), some (vi y0), none, none, none, none, none, none, none, none] M Q from ?_)⟩
  intro J hJ
  obtain ⟨hb, h⟩ := h
  have hend : ∀ (x y d : Int) (x6 x7 x8 x9 : Option mmV), Q (some (vi d)) M → J 11 [some (vi x0), some (vi y0), some (vi x), some (vi y), some (vi d), some (vi 0), x6, x7, x8, x9] [] M := by
    intro x y d x6 x7 x8 x9 hq
    have h102 : J 102 [some (vi x0), some (vi y0), some (vi x), some (vi y), some (vi d), some (vi 0), x6, x7, x8, x9] [] M := by
      refine hJ 102 _ _ _ (show mm_wp _ _ _ mo_M_curve_102 _ _ _ from ?_)
      simp only [mo_M_curve_102, mm_wp, mm_ldi, mm_lda, mm_ldl, mm_sti, mm_sta, mm_stl, mm_inc, mm_2i, mm_mm, mm_2l, mm_lcmp, mm_i2l, mm_l2i, mm_cast8, mm_if1, mm_if2, mm_cmp, mm_swi, mm_sw, mm_pop1, mm_dup, mm_dup2, mm_geti, mm_geta, mm_puti, mm_iald, mm_bald, mm_aald, mm_iast, mm_bast, mm_alen, mm_acpy, mm_call, mm_callv, mm_recv, mm_pop, mm_find, mm_push, mm_cats, mm_cat, mm_reti, mm_retz, mm_retl, mm_reta, mm_retv, mm_set1, mm_set2, mm_kill, List.getElem?_cons_zero, List.getElem?_cons_succ, Int.reduceToNat, ↓reduceIte, Nat.reduceEqDiff, Nat.reduceDiv, Nat.reduceAdd, Nat.reduceLeDiff, Nat.zero_le, true_and, and_true, true_or, or_true, mm_b0, mm_b1, mm_lc_lt, mm_lc_le, mm_lc_gt, mm_lc_ge, mm_lc_eq, Int.not_lt, Int.not_le, Decidable.not_not, Int.sub_neg]
      exact hq
    refine hJ 11 _ _ _ (show mm_wp _ _ _ mo_M_curve_11 _ _ _ from ?_)
    simp only [mo_M_curve_11, mm_wp, mm_ldi, mm_lda, mm_ldl, mm_sti, mm_sta, mm_stl, mm_inc, mm_2i, mm_mm, mm_2l, mm_lcmp, mm_i2l, mm_l2i, mm_cast8, mm_if1, mm_if2, mm_cmp, mm_swi, mm_sw, mm_pop1, mm_dup, mm_dup2, mm_geti, mm_geta, mm_puti, mm_iald, mm_bald, mm_aald, mm_iast, mm_bast, mm_alen, mm_acpy, mm_call, mm_callv, mm_recv, mm_pop, mm_find, mm_push, mm_cats, mm_cat, mm_reti, mm_retz, mm_retl, mm_reta, mm_retv, mm_set1, mm_set2, mm_kill, List.getElem?_cons_zero, List.getElem?_cons_succ, Int.reduceToNat, ↓reduceIte, Nat.reduceEqDiff, Nat.reduceDiv, Nat.reduceAdd, Nat.reduceLeDiff, Nat.zero_le, true_and, and_true, true_or, or_true, mm_b0, mm_b1, mm_lc_lt, mm_lc_le, mm_lc_gt, mm_lc_ge, mm_lc_eq, Int.not_lt, Int.not_le, Decidable.not_not, Int.sub_neg]
    exact ⟨fun _ => h102, fun q => by omega⟩
  have st : ∀ (n : Nat) (s s2 x y d : Int) (x6 x7 x8 x9 : Option mmV), 0 < s → s ≤ 32 → s / 2 = s2 → 0 ≤ x → x < 64 → 0 ≤ y → y < 64 → 0 ≤ d → d ≤ 5000 → (∀ (x' y' d' : Int) (x6 x7 x8 x9 : Option mmV), 0 ≤ x' → x' < 64 → 0 ≤ y' → y' < 64 → d ≤ d' → d' ≤ d + 3 * (s * s) → cvF n s2 x' y' d' = cvF (n + 1) s x y d → J 11 [some (vi x0), some (vi y0), some (vi x'), some (vi y'), some (vi d'), some (vi s2), x6, x7, x8, x9] [] M) → J 11 [some (vi x0), some (vi y0), some (vi x), some (vi y), some (vi d), some (vi s), x6, x7, x8, x9] [] M := by
    intro n s s2 x y d x6 x7 x8 x9 s0 s1 hs x1 x2 y1 y2 d1 d2 hn
    have ss := mul_b (a := s) (b := s) (A := 32) (B := 32) (by omega) (by omega) (by omega) (by omega)
    have t1 : Int.tdiv x s = x / s := Int.tdiv_eq_ediv_of_nonneg x1
    have t2 : Int.tdiv y s = y / s := Int.tdiv_eq_ediv_of_nonneg y1
    have p0 := Int.ediv_nonneg x1 (show 0 ≤ s by omega)
    have q0 := Int.ediv_nonneg y1 (show 0 ≤ s by omega)
    have t3 : Int.tmod (x / s) 2 = x / s % 2 := Int.tmod_eq_emod_of_nonneg p0
    have t4 : Int.tmod (y / s) 2 = y / s % 2 := Int.tmod_eq_emod_of_nonneg q0
    have t5 : Int.tdiv s 2 = s2 := by rw [Int.tdiv_eq_ediv_of_nonneg (by omega), hs]
    have h93 : ∀ (x' y' d' : Int) (x6 x7 x8 x9 : Option mmV), 0 ≤ x' → x' < 64 → 0 ≤ y' → y' < 64 → d ≤ d' → d' ≤ d + 3 * (s * s) → cvF n s2 x' y' d' = cvF (n + 1) s x y d → J 93 [some (vi x0), some (vi y0), some (vi x'), some (vi y'), some (vi d'), some (vi s), x6, x7, x8, x9] [] M := by
      intro x' y' d' x6 x7 x8 x9 a1 a2 a3 a4 a5 a6 a7
      refine hJ 93 _ _ _ (show mm_wp _ _ _ mo_M_curve_93 _ _ _ from ?_)
      simp only [mo_M_curve_93, mm_wp, mm_ldi, mm_lda, mm_ldl, mm_sti, mm_sta, mm_stl, mm_inc, mm_2i, mm_mm, mm_2l, mm_lcmp, mm_i2l, mm_l2i, mm_cast8, mm_if1, mm_if2, mm_cmp, mm_swi, mm_sw, mm_pop1, mm_dup, mm_dup2, mm_geti, mm_geta, mm_puti, mm_iald, mm_bald, mm_aald, mm_iast, mm_bast, mm_alen, mm_acpy, mm_call, mm_callv, mm_recv, mm_pop, mm_find, mm_push, mm_cats, mm_cat, mm_reti, mm_retz, mm_retl, mm_reta, mm_retv, mm_set1, mm_set2, mm_kill, List.getElem?_cons_zero, List.getElem?_cons_succ, Int.reduceToNat, ↓reduceIte, Nat.reduceEqDiff, Nat.reduceDiv, Nat.reduceAdd, Nat.reduceLeDiff, Nat.zero_le, true_and, and_true, true_or, or_true, mm_b0, mm_b1, mm_lc_lt, mm_lc_le, mm_lc_gt, mm_lc_ge, mm_lc_eq, Int.not_lt, Int.not_le, Decidable.not_not, Int.sub_neg, t5]
      exact ⟨by omega, hn x' y' d' _ _ _ _ a1 a2 a3 a4 a5 a6 a7⟩
    simp only [cvF, hs] at h93
    have hp : x / s % 2 = 0 ∨ x / s % 2 = 1 := by omega
    have hq : y / s % 2 = 0 ∨ y / s % 2 = 1 := by omega
    rcases hp with hp | hp <;> rcases hq with hq | hq <;> simp only [hp, hq, ↓reduceIte, Int.reduceEq] at h93
    · have h85 : ∀ x6 x7 x9, J 85 [some (vi x0), some (vi y0), some (vi x), some (vi y), some (vi (d + s * s * 0)), some (vi s), x6, x7, some (vi x), x9] [vi y] M := by
        intro x6 x7 x9
        refine hJ 85 _ _ _ (show mm_wp _ _ _ mo_M_curve_85 _ _ _ from ?_)
        simp only [mo_M_curve_85, mm_wp, mm_ldi, mm_lda, mm_ldl, mm_sti, mm_sta, mm_stl, mm_inc, mm_2i, mm_mm, mm_2l, mm_lcmp, mm_i2l, mm_l2i, mm_cast8, mm_if1, mm_if2, mm_cmp, mm_swi, mm_sw, mm_pop1, mm_dup, mm_dup2, mm_geti, mm_geta, mm_puti, mm_iald, mm_bald, mm_aald, mm_iast, mm_bast, mm_alen, mm_acpy, mm_call, mm_callv, mm_recv, mm_pop, mm_find, mm_push, mm_cats, mm_cat, mm_reti, mm_retz, mm_retl, mm_reta, mm_retv, mm_set1, mm_set2, mm_kill, List.getElem?_cons_zero, List.getElem?_cons_succ, Int.reduceToNat, ↓reduceIte, Nat.reduceEqDiff, Nat.reduceDiv, Nat.reduceAdd, Nat.reduceLeDiff, Nat.zero_le, true_and, and_true, true_or, or_true, mm_b0, mm_b1, mm_lc_lt, mm_lc_le, mm_lc_gt, mm_lc_ge, mm_lc_eq, Int.not_lt, Int.not_le, Decidable.not_not, Int.sub_neg]
        exact h93 y x (d + s * s * 0) _ _ _ _ (by omega) (by omega) (by omega) (by omega) (by omega) (by omega) rfl
      have h84 : ∀ x6 x7 x9, J 84 [some (vi x0), some (vi y0), some (vi x), some (vi y), some (vi (d + s * s * 0)), some (vi s), x6, x7, some (vi x), x9] [] M := by
        intro x6 x7 x9
        refine hJ 84 _ _ _ (show mm_wp _ _ _ mo_M_curve_84 _ _ _ from ?_)
        simp only [mo_M_curve_84, mm_wp, mm_ldi, mm_lda, mm_ldl, mm_sti, mm_sta, mm_stl, mm_inc, mm_2i, mm_mm, mm_2l, mm_lcmp, mm_i2l, mm_l2i, mm_cast8, mm_if1, mm_if2, mm_cmp, mm_swi, mm_sw, mm_pop1, mm_dup, mm_dup2, mm_geti, mm_geta, mm_puti, mm_iald, mm_bald, mm_aald, mm_iast, mm_bast, mm_alen, mm_acpy, mm_call, mm_callv, mm_recv, mm_pop, mm_find, mm_push, mm_cats, mm_cat, mm_reti, mm_retz, mm_retl, mm_reta, mm_retv, mm_set1, mm_set2, mm_kill, List.getElem?_cons_zero, List.getElem?_cons_succ, Int.reduceToNat, ↓reduceIte, Nat.reduceEqDiff, Nat.reduceDiv, Nat.reduceAdd, Nat.reduceLeDiff, Nat.zero_le, true_and, and_true, true_or, or_true, mm_b0, mm_b1, mm_lc_lt, mm_lc_le, mm_lc_gt, mm_lc_ge, mm_lc_eq, Int.not_lt, Int.not_le, Decidable.not_not, Int.sub_neg]
        exact h85 _ _ _
      have h69 : ∀ x7 x8 x9, J 69 [some (vi x0), some (vi y0), some (vi x), some (vi y), some (vi (d + s * s * 0)), some (vi s), some (vi 0), x7, x8, x9] [vi x] M := by
        intro x7 x8 x9
        refine hJ 69 _ _ _ (show mm_wp _ _ _ mo_M_curve_69 _ _ _ from ?_)
        simp only [mo_M_curve_69, mm_wp, mm_ldi, mm_lda, mm_ldl, mm_sti, mm_sta, mm_stl, mm_inc, mm_2i, mm_mm, mm_2l, mm_lcmp, mm_i2l, mm_l2i, mm_cast8, mm_if1, mm_if2, mm_cmp, mm_swi, mm_sw, mm_pop1, mm_dup, mm_dup2, mm_geti, mm_geta, mm_puti, mm_iald, mm_bald, mm_aald, mm_iast, mm_bast, mm_alen, mm_acpy, mm_call, mm_callv, mm_recv, mm_pop, mm_find, mm_push, mm_cats, mm_cat, mm_reti, mm_retz, mm_retl, mm_reta, mm_retv, mm_set1, mm_set2, mm_kill, List.getElem?_cons_zero, List.getElem?_cons_succ, Int.reduceToNat, ↓reduceIte, Nat.reduceEqDiff, Nat.reduceDiv, Nat.reduceAdd, Nat.reduceLeDiff, Nat.zero_le, true_and, and_true, true_or, or_true, mm_b0, mm_b1, mm_lc_lt, mm_lc_le, mm_lc_gt, mm_lc_ge, mm_lc_eq, Int.not_lt, Int.not_le, Decidable.not_not, Int.sub_neg]
        exact ⟨fun _ => h84 _ _ _, fun z => by omega⟩
      have h68 : ∀ x7 x8 x9, J 68 [some (vi x0), some (vi y0), some (vi x), some (vi y), some (vi (d + s * s * 0)), some (vi s), some (vi 0), x7, x8, x9] [] M := by
        intro x7 x8 x9
        refine hJ 68 _ _ _ (show mm_wp _ _ _ mo_M_curve_68 _ _ _ from ?_)
        simp only [mo_M_curve_68, mm_wp, mm_ldi, mm_lda, mm_ldl, mm_sti, mm_sta, mm_stl, mm_inc, mm_2i, mm_mm, mm_2l, mm_lcmp, mm_i2l, mm_l2i, mm_cast8, mm_if1, mm_if2, mm_cmp, mm_swi, mm_sw, mm_pop1, mm_dup, mm_dup2, mm_geti, mm_geta, mm_puti, mm_iald, mm_bald, mm_aald, mm_iast, mm_bast, mm_alen, mm_acpy, mm_call, mm_callv, mm_recv, mm_pop, mm_find, mm_push, mm_cats, mm_cat, mm_reti, mm_retz, mm_retl, mm_reta, mm_retv, mm_set1, mm_set2, mm_kill, List.getElem?_cons_zero, List.getElem?_cons_succ, Int.reduceToNat, ↓reduceIte, Nat.reduceEqDiff, Nat.reduceDiv, Nat.reduceAdd, Nat.reduceLeDiff, Nat.zero_le, true_and, and_true, true_or, or_true, mm_b0, mm_b1, mm_lc_lt, mm_lc_le, mm_lc_gt, mm_lc_ge, mm_lc_eq, Int.not_lt, Int.not_le, Decidable.not_not, Int.sub_neg]
        exact h69 _ _ _
      refine hJ 11 _ _ _ (show mm_wp _ _ _ mo_M_curve_11 _ _ _ from ?_)
      simp only [mo_M_curve_11, mm_wp, mm_ldi, mm_lda, mm_ldl, mm_sti, mm_sta, mm_stl, mm_inc, mm_2i, mm_mm, mm_2l, mm_lcmp, mm_i2l, mm_l2i, mm_cast8, mm_if1, mm_if2, mm_cmp, mm_swi, mm_sw, mm_pop1, mm_dup, mm_dup2, mm_geti, mm_geta, mm_puti, mm_iald, mm_bald, mm_aald, mm_iast, mm_bast, mm_alen, mm_acpy, mm_call, mm_callv, mm_recv, mm_pop, mm_find, mm_push, mm_cats, mm_cat, mm_reti, mm_retz, mm_retl, mm_reta, mm_retv, mm_set1, mm_set2, mm_kill, List.getElem?_cons_zero, List.getElem?_cons_succ, Int.reduceToNat, ↓reduceIte, Nat.reduceEqDiff, Nat.reduceDiv, Nat.reduceAdd, Nat.reduceLeDiff, Nat.zero_le, true_and, and_true, true_or, or_true, mm_b0, mm_b1, mm_lc_lt, mm_lc_le, mm_lc_gt, mm_lc_ge, mm_lc_eq, Int.not_lt, Int.not_le, Decidable.not_not, Int.sub_neg, t1, t2, t3, t4, hp, hq, xr00]
      refine ⟨fun z => by omega, fun _ => ?_⟩
      repeat (refine And.intro (by omega) ?_)
      exact ⟨fun z => by first | omega | simp at z, fun _ => ⟨fun _ => h68 _ _ _, fun z => by omega⟩⟩
    · have := h93 x y (d + s * s * 1) (some (vi 0)) (some (vi 1)) x8 x9 (by omega) (by omega) (by omega) (by omega) (by omega) (by omega) rfl
      refine hJ 11 _ _ _ (show mm_wp _ _ _ mo_M_curve_11 _ _ _ from ?_)
      simp only [mo_M_curve_11, mm_wp, mm_ldi, mm_lda, mm_ldl, mm_sti, mm_sta, mm_stl, mm_inc, mm_2i, mm_mm, mm_2l, mm_lcmp, mm_i2l, mm_l2i, mm_cast8, mm_if1, mm_if2, mm_cmp, mm_swi, mm_sw, mm_pop1, mm_dup, mm_dup2, mm_geti, mm_geta, mm_puti, mm_iald, mm_bald, mm_aald, mm_iast, mm_bast, mm_alen, mm_acpy, mm_call, mm_callv, mm_recv, mm_pop, mm_find, mm_push, mm_cats, mm_cat, mm_reti, mm_retz, mm_retl, mm_reta, mm_retv, mm_set1, mm_set2, mm_kill, List.getElem?_cons_zero, List.getElem?_cons_succ, Int.reduceToNat, ↓reduceIte, Nat.reduceEqDiff, Nat.reduceDiv, Nat.reduceAdd, Nat.reduceLeDiff, Nat.zero_le, true_and, and_true, true_or, or_true, mm_b0, mm_b1, mm_lc_lt, mm_lc_le, mm_lc_gt, mm_lc_ge, mm_lc_eq, Int.not_lt, Int.not_le, Decidable.not_not, Int.sub_neg, t1, t2, t3, t4, hp, hq, xr01]
      refine ⟨fun z => by omega, fun _ => ?_⟩
      repeat (refine And.intro (by omega) ?_)
      exact ⟨fun _ => this, fun z => by omega⟩
    · have h85 : ∀ x6 x7 x9, J 85 [some (vi x0), some (vi y0), some (vi x), some (vi y), some (vi (d + s * s * 3)), some (vi s), x6, x7, some (vi (63 - x)), x9] [vi (63 - y)] M := by
        intro x6 x7 x9
        refine hJ 85 _ _ _ (show mm_wp _ _ _ mo_M_curve_85 _ _ _ from ?_)
        simp only [mo_M_curve_85, mm_wp, mm_ldi, mm_lda, mm_ldl, mm_sti, mm_sta, mm_stl, mm_inc, mm_2i, mm_mm, mm_2l, mm_lcmp, mm_i2l, mm_l2i, mm_cast8, mm_if1, mm_if2, mm_cmp, mm_swi, mm_sw, mm_pop1, mm_dup, mm_dup2, mm_geti, mm_geta, mm_puti, mm_iald, mm_bald, mm_aald, mm_iast, mm_bast, mm_alen, mm_acpy, mm_call, mm_callv, mm_recv, mm_pop, mm_find, mm_push, mm_cats, mm_cat, mm_reti, mm_retz, mm_retl, mm_reta, mm_retv, mm_set1, mm_set2, mm_kill, List.getElem?_cons_zero, List.getElem?_cons_succ, Int.reduceToNat, ↓reduceIte, Nat.reduceEqDiff, Nat.reduceDiv, Nat.reduceAdd, Nat.reduceLeDiff, Nat.zero_le, true_and, and_true, true_or, or_true, mm_b0, mm_b1, mm_lc_lt, mm_lc_le, mm_lc_gt, mm_lc_ge, mm_lc_eq, Int.not_lt, Int.not_le, Decidable.not_not, Int.sub_neg]
        exact h93 (63 - y) (63 - x) (d + s * s * 3) _ _ _ _ (by omega) (by omega) (by omega) (by omega) (by omega) (by omega) rfl
      have h69 : ∀ x7 x8 x9, J 69 [some (vi x0), some (vi y0), some (vi x), some (vi y), some (vi (d + s * s * 3)), some (vi s), some (vi 1), x7, x8, x9] [vi (63 - x)] M := by
        intro x7 x8 x9
        refine hJ 69 _ _ _ (show mm_wp _ _ _ mo_M_curve_69 _ _ _ from ?_)
        simp only [mo_M_curve_69, mm_wp, mm_ldi, mm_lda, mm_ldl, mm_sti, mm_sta, mm_stl, mm_inc, mm_2i, mm_mm, mm_2l, mm_lcmp, mm_i2l, mm_l2i, mm_cast8, mm_if1, mm_if2, mm_cmp, mm_swi, mm_sw, mm_pop1, mm_dup, mm_dup2, mm_geti, mm_geta, mm_puti, mm_iald, mm_bald, mm_aald, mm_iast, mm_bast, mm_alen, mm_acpy, mm_call, mm_callv, mm_recv, mm_pop, mm_find, mm_push, mm_cats, mm_cat, mm_reti, mm_retz, mm_retl, mm_reta, mm_retv, mm_set1, mm_set2, mm_kill, List.getElem?_cons_zero, List.getElem?_cons_succ, Int.reduceToNat, ↓reduceIte, Nat.reduceEqDiff, Nat.reduceDiv, Nat.reduceAdd, Nat.reduceLeDiff, Nat.zero_le, true_and, and_true, true_or, or_true, mm_b0, mm_b1, mm_lc_lt, mm_lc_le, mm_lc_gt, mm_lc_ge, mm_lc_eq, Int.not_lt, Int.not_le, Decidable.not_not, Int.sub_neg]
        exact ⟨fun z => by first | omega | simp at z, fun _ => ⟨by omega, h85 _ _ _⟩⟩
      refine hJ 11 _ _ _ (show mm_wp _ _ _ mo_M_curve_11 _ _ _ from ?_)
      simp only [mo_M_curve_11, mm_wp, mm_ldi, mm_lda, mm_ldl, mm_sti, mm_sta, mm_stl, mm_inc, mm_2i, mm_mm, mm_2l, mm_lcmp, mm_i2l, mm_l2i, mm_cast8, mm_if1, mm_if2, mm_cmp, mm_swi, mm_sw, mm_pop1, mm_dup, mm_dup2, mm_geti, mm_geta, mm_puti, mm_iald, mm_bald, mm_aald, mm_iast, mm_bast, mm_alen, mm_acpy, mm_call, mm_callv, mm_recv, mm_pop, mm_find, mm_push, mm_cats, mm_cat, mm_reti, mm_retz, mm_retl, mm_reta, mm_retv, mm_set1, mm_set2, mm_kill, List.getElem?_cons_zero, List.getElem?_cons_succ, Int.reduceToNat, ↓reduceIte, Nat.reduceEqDiff, Nat.reduceDiv, Nat.reduceAdd, Nat.reduceLeDiff, Nat.zero_le, true_and, and_true, true_or, or_true, mm_b0, mm_b1, mm_lc_lt, mm_lc_le, mm_lc_gt, mm_lc_ge, mm_lc_eq, Int.not_lt, Int.not_le, Decidable.not_not, Int.sub_neg, t1, t2, t3, t4, hp, hq, xr10]
      refine ⟨fun z => by omega, fun _ => ?_⟩
      repeat (refine And.intro (by omega) ?_)
      exact ⟨fun z => by first | omega | simp at z, fun _ => ⟨fun z => by first | omega | simp at z, fun _ => ⟨by omega, h69 _ _ _⟩⟩⟩
    · have := h93 x y (d + s * s * 2) (some (vi 1)) (some (vi 1)) x8 x9 (by omega) (by omega) (by omega) (by omega) (by omega) (by omega) rfl
      refine hJ 11 _ _ _ (show mm_wp _ _ _ mo_M_curve_11 _ _ _ from ?_)
      simp only [mo_M_curve_11, mm_wp, mm_ldi, mm_lda, mm_ldl, mm_sti, mm_sta, mm_stl, mm_inc, mm_2i, mm_mm, mm_2l, mm_lcmp, mm_i2l, mm_l2i, mm_cast8, mm_if1, mm_if2, mm_cmp, mm_swi, mm_sw, mm_pop1, mm_dup, mm_dup2, mm_geti, mm_geta, mm_puti, mm_iald, mm_bald, mm_aald, mm_iast, mm_bast, mm_alen, mm_acpy, mm_call, mm_callv, mm_recv, mm_pop, mm_find, mm_push, mm_cats, mm_cat, mm_reti, mm_retz, mm_retl, mm_reta, mm_retv, mm_set1, mm_set2, mm_kill, List.getElem?_cons_zero, List.getElem?_cons_succ, Int.reduceToNat, ↓reduceIte, Nat.reduceEqDiff, Nat.reduceDiv, Nat.reduceAdd, Nat.reduceLeDiff, Nat.zero_le, true_and, and_true, true_or, or_true, mm_b0, mm_b1, mm_lc_lt, mm_lc_le, mm_lc_gt, mm_lc_ge, mm_lc_eq, Int.not_lt, Int.not_le, Decidable.not_not, Int.sub_neg, t1, t2, t3, t4, hp, hq, xr11]
      refine ⟨fun z => by omega, fun _ => ?_⟩
      repeat (refine And.intro (by omega) ?_)
      exact ⟨fun _ => this, fun z => by omega⟩
  refine hJ 0 _ _ _ (show mm_wp _ _ _ mo_M_curve_0 _ _ _ from ?_)
  simp only [mo_M_curve_0, mm_wp, mm_ldi, mm_lda, mm_ldl, mm_sti, mm_sta, mm_stl, mm_inc, mm_2i, mm_mm, mm_2l, mm_lcmp, mm_i2l, mm_l2i, mm_cast8, mm_if1, mm_if2, mm_cmp, mm_swi, mm_sw, mm_pop1, mm_dup, mm_dup2, mm_geti, mm_geta, mm_puti, mm_iald, mm_bald, mm_aald, mm_iast, mm_bast, mm_alen, mm_acpy, mm_call, mm_callv, mm_recv, mm_pop, mm_find, mm_push, mm_cats, mm_cat, mm_reti, mm_retz, mm_retl, mm_reta, mm_retv, mm_set1, mm_set2, mm_kill, List.getElem?_cons_zero, List.getElem?_cons_succ, Int.reduceToNat, ↓reduceIte, Nat.reduceEqDiff, Nat.reduceDiv, Nat.reduceAdd, Nat.reduceLeDiff, Nat.zero_le, true_and, and_true, true_or, or_true, mm_b0, mm_b1, mm_lc_lt, mm_lc_le, mm_lc_gt, mm_lc_ge, mm_lc_eq, Int.not_lt, Int.not_le, Decidable.not_not, Int.sub_neg]
  refine st 5 32 16 x0 y0 0 _ _ _ _ (by omega) (by omega) (by decide) (by omega) (by omega) (by omega) (by omega) (by omega) (by omega) (fun x1 y1 d1 _ _ _ _ a1 b1 c1 e1 f1 g1 i1 => ?_)
  refine st 4 16 8 x1 y1 d1 _ _ _ _ (by omega) (by omega) (by decide) a1 b1 c1 e1 (by omega) (by omega) (fun x2 y2 d2 _ _ _ _ a2 b2 c2 e2 f2 g2 i2 => ?_)
  refine st 3 8 4 x2 y2 d2 _ _ _ _ (by omega) (by omega) (by decide) a2 b2 c2 e2 (by omega) (by omega) (fun x3 y3 d3 _ _ _ _ a3 b3 c3 e3 f3 g3 i3 => ?_)
  refine st 2 4 2 x3 y3 d3 _ _ _ _ (by omega) (by omega) (by decide) a3 b3 c3 e3 (by omega) (by omega) (fun x4 y4 d4 _ _ _ _ a4 b4 c4 e4 f4 g4 i4 => ?_)
  refine st 1 2 1 x4 y4 d4 _ _ _ _ (by omega) (by omega) (by decide) a4 b4 c4 e4 (by omega) (by omega) (fun x5 y5 d5 _ _ _ _ a5 b5 c5 e5 f5 g5 i5 => ?_)
  refine st 0 1 0 x5 y5 d5 _ _ _ _ (by omega) (by omega) (by decide) a5 b5 c5 e5 (by omega) (by omega) (fun x6 y6 d6 _ _ _ _ a6 b6 c6 e6 f6 g6 i6 => ?_)
  refine hend x6 y6 d6 _ _ _ _ ?_
  have : d6 = cv x0 y0 := by
    unfold cv
    rw [← i1, ← i2, ← i3, ← i4, ← i5, ← i6]
    rfl
  rw [this]
  exact h
def mqB (M : mmM) : Prop := 0 ≤ M 62 8 ∧ M 62 8 ≤ 25 ∧ ∀ q, 0 ≤ q → q < M 62 8 → 0 ≤ mf M q ∧ mf M q < 60 ∧ 0 ≤ ml M q ∧ ml M q < 60 ∧ 0 ≤ mt M q ∧ mt M q ≤ 32
/-- what the reference lays a question by -/
def mwt (M : mmM) (ord b q : Int) : Int := pA ord b (mf M q) (ml M q) (mt M q) * 64 + q
def t_M_weightOf : mmT := fun as M Q => match as with
  | [.inr (.inr o), .inl q, .inl ord, .inl b] => o = 62 ∧ mqB M ∧ 0 ≤ q ∧ q < M 62 8 ∧ 0 ≤ ord ∧ ord ≤ 2 ∧ 1 ≤ b ∧ b ≤ 60 ∧ Q (some (vl (mwt M ord b q))) M
  | _ => False
set_option maxHeartbeats 4000000 in
set_option maxRecDepth 100000 in
theorem p_M_weightOf : ∀ as M Q, (∀ v ∈ as, mm_vin v) → mm_mem M → t_M_weightOf as M Q → (mm_ent as).length ≤ 12 ∧ mm_ok mb_M_weightOf [(1151, t_M_curve)] (mm_entry 12 as) M Q := by
  intro as M Q hin hM h
  unfold t_M_weightOf at h
  split at h
  rotate_left
  · exact h.elim
  rename_i o q ord b
  have hR_q : mm_R q := hin (vi q) (by simp)
  have hR_ord : mm_R ord := hin (vi ord) (by simp)
  have hR_b : mm_R b := hin (vi b) (by simp)
  refine ⟨by simp [mm_ent], (show mm_ok mb_M_weightOf [(1151, t_M_curve)] [some (vr o), some (vi q), some (vi ord), some (vi b), none, none, none, none, none, none, none, none] M Q from ?_)⟩
  intro J hJ
  obtain ⟨rfl, hB, h1, h2, h3, h4, h5, h6, h⟩ := h
  have hq := hB.2.2 q h1 h2
  have hn := hB.2.1
  unfold mwt at h
  have ef : mf M q = M 67 (4 * q + 1) := rfl
  have el : ml M q = M 67 (4 * q + 2) := rfl
  have et : mt M q = M 67 (4 * q + 3) := rfl
  rw [ef, el, et] at hq h
  obtain ⟨q1, q2, q3, q4, q5, q6⟩ := hq
  obtain ⟨x1, x2, x3, x4⟩ := dB (b := b) q1 (by omega) h5
  obtain ⟨y1, y2, y3, y4⟩ := dB (b := b) q3 (by omega) h5
  have c1 := cv_b (M 67 (4 * q + 1) / b) (M 67 (4 * q + 2) / b)
  have t1 := tb_b (o := M 67 (4 * q + 1) / b) y1 y2
  have t2 := tb_b (o := M 67 (4 * q + 2) / b) q5 (by omega)
  unfold pA at h
  generalize M 67 (4 * q + 1) / b = x at x1 x2 x3 x4 c1 t1 h ⊢
  generalize M 67 (4 * q + 2) / b = y at y1 y2 y3 y4 c1 t1 t2 h ⊢
  generalize ht : M 67 (4 * q + 3) = t at q5 q6 t2 h ⊢
  have mx : Int.tmod x 2 = x % 2 := Int.tmod_eq_emod_of_nonneg x1
  have my : Int.tmod y 2 = y % 2 := Int.tmod_eq_emod_of_nonneg y1
  have h69 : ¬ ord = 2 → J 69 [some (vr 62), some (vi q), some (vi ord), some (vi b), some (vi x), some (vi y), some (vi t), none, none, none, none, none] [] M := by
    intro g2
    have h133 : ∀ (z la ti : Int), 0 ≤ la → la < 64 → 0 ≤ ti → ti < 64 → (la = if ord = 0 then y else tb x y) → (ti = if ord = 0 then t else tb y t) → J 133 [some (vr 62), some (vi q), some (vi ord), some (vi b), some (vi x), some (vi y), some (vi t), some (vi z), some (vl la), none, none, none] [vl ti] M := by
      intro z la ti a1 a2 a3 a4 e1 e2
      refine hJ 133 _ _ _ (show mm_wp _ _ _ mo_M_weightOf_133 _ _ _ from ?_)
      simp only [mo_M_weightOf_133, mm_wp, mm_ldi, mm_lda, mm_ldl, mm_sti, mm_sta, mm_stl, mm_inc, mm_2i, mm_mm, mm_2l, mm_lcmp, mm_i2l, mm_l2i, mm_cast8, mm_if1, mm_if2, mm_cmp, mm_swi, mm_sw, mm_pop1, mm_dup, mm_dup2, mm_geti, mm_geta, mm_puti, mm_iald, mm_bald, mm_aald, mm_iast, mm_bast, mm_alen, mm_acpy, mm_call, mm_callv, mm_recv, mm_pop, mm_find, mm_push, mm_cats, mm_cat, mm_reti, mm_retz, mm_retl, mm_reta, mm_retv, mm_set1, mm_set2, mm_kill, List.getElem?_cons_zero, List.getElem?_cons_succ, Int.reduceToNat, ↓reduceIte, Nat.reduceEqDiff, Nat.reduceDiv, Nat.reduceAdd, Nat.reduceLeDiff, Nat.zero_le, true_and, and_true, true_or, or_true, mm_b0, mm_b1, mm_lc_lt, mm_lc_le, mm_lc_gt, mm_lc_ge, mm_lc_eq, Int.not_lt, Int.not_le, Decidable.not_not, Int.sub_neg]
      repeat (refine And.intro (by omega) ?_)
      by_cases c : ord = 0
      · rw [if_pos c] at e1 e2 h
        rw [e1, e2]
        exact h
      · rw [if_neg c] at e1 e2 h
        rw [if_neg g2] at h
        rw [e1, e2]
        exact h
    have h106 : ∀ (la : Int), 0 ≤ la → la < 64 → (la = if ord = 0 then y else tb x y) → J 106 [some (vr 62), some (vi q), some (vi ord), some (vi b), some (vi x), some (vi y), some (vi t), some (vi (if ord = 1 then 1 else 0)), none, none, none, none] [vl la] M := by
      intro la a1 a2 e1
      have h130 : (t = if ord = 0 then t else tb y t) → J 130 [some (vr 62), some (vi q), some (vi ord), some (vi b), some (vi x), some (vi y), some (vi t), some (vi (if ord = 1 then 1 else 0)), some (vl la), none, none, none] [] M := by
        intro e2
        refine hJ 130 _ _ _ (show mm_wp _ _ _ mo_M_weightOf_130 _ _ _ from ?_)
        simp only [mo_M_weightOf_130, mm_wp, mm_ldi, mm_lda, mm_ldl, mm_sti, mm_sta, mm_stl, mm_inc, mm_2i, mm_mm, mm_2l, mm_lcmp, mm_i2l, mm_l2i, mm_cast8, mm_if1, mm_if2, mm_cmp, mm_swi, mm_sw, mm_pop1, mm_dup, mm_dup2, mm_geti, mm_geta, mm_puti, mm_iald, mm_bald, mm_aald, mm_iast, mm_bast, mm_alen, mm_acpy, mm_call, mm_callv, mm_recv, mm_pop, mm_find, mm_push, mm_cats, mm_cat, mm_reti, mm_retz, mm_retl, mm_reta, mm_retv, mm_set1, mm_set2, mm_kill, List.getElem?_cons_zero, List.getElem?_cons_succ, Int.reduceToNat, ↓reduceIte, Nat.reduceEqDiff, Nat.reduceDiv, Nat.reduceAdd, Nat.reduceLeDiff, Nat.zero_le, true_and, and_true, true_or, or_true, mm_b0, mm_b1, mm_lc_lt, mm_lc_le, mm_lc_gt, mm_lc_ge, mm_lc_eq, Int.not_lt, Int.not_le, Decidable.not_not, Int.sub_neg]
        exact h133 _ _ _ a1 a2 (by omega) (by omega) e1 e2
      refine hJ 106 _ _ _ (show mm_wp _ _ _ mo_M_weightOf_106 _ _ _ from ?_)
      simp only [mo_M_weightOf_106, mm_wp, mm_ldi, mm_lda, mm_ldl, mm_sti, mm_sta, mm_stl, mm_inc, mm_2i, mm_mm, mm_2l, mm_lcmp, mm_i2l, mm_l2i, mm_cast8, mm_if1, mm_if2, mm_cmp, mm_swi, mm_sw, mm_pop1, mm_dup, mm_dup2, mm_geti, mm_geta, mm_puti, mm_iald, mm_bald, mm_aald, mm_iast, mm_bast, mm_alen, mm_acpy, mm_call, mm_callv, mm_recv, mm_pop, mm_find, mm_push, mm_cats, mm_cat, mm_reti, mm_retz, mm_retl, mm_reta, mm_retv, mm_set1, mm_set2, mm_kill, List.getElem?_cons_zero, List.getElem?_cons_succ, Int.reduceToNat, ↓reduceIte, Nat.reduceEqDiff, Nat.reduceDiv, Nat.reduceAdd, Nat.reduceLeDiff, Nat.zero_le, true_and, and_true, true_or, or_true, mm_b0, mm_b1, mm_lc_lt, mm_lc_le, mm_lc_gt, mm_lc_ge, mm_lc_eq, Int.not_lt, Int.not_le, Decidable.not_not, Int.sub_neg, my]
      refine ⟨fun z => h130 ?_, fun z => ⟨by omega, fun z2 => h130 ?_, fun z2 => ⟨by omega, h133 _ _ _ a1 a2 (by omega) (by omega) e1 ?_⟩⟩⟩
      · by_cases c : ord = 1
        · rw [if_pos c] at z; omega
        · rw [if_pos (by omega)]
      · by_cases c : ord = 0
        · rw [if_pos c]
        · rw [if_neg c]; unfold tb; rw [if_pos (by omega)]
      · by_cases c : ord = 0
        · rw [if_neg (by omega)] at z; omega
        · rw [if_neg c]; unfold tb; rw [if_neg (by omega)]
    have h103 : (y = if ord = 0 then y else tb x y) → J 103 [some (vr 62), some (vi q), some (vi ord), some (vi b), some (vi x), some (vi y), some (vi t), some (vi (if ord = 1 then 1 else 0)), none, none, none, none] [] M := by
      intro e1
      refine hJ 103 _ _ _ (show mm_wp _ _ _ mo_M_weightOf_103 _ _ _ from ?_)
      simp only [mo_M_weightOf_103, mm_wp, mm_ldi, mm_lda, mm_ldl, mm_sti, mm_sta, mm_stl, mm_inc, mm_2i, mm_mm, mm_2l, mm_lcmp, mm_i2l, mm_l2i, mm_cast8, mm_if1, mm_if2, mm_cmp, mm_swi, mm_sw, mm_pop1, mm_dup, mm_dup2, mm_geti, mm_geta, mm_puti, mm_iald, mm_bald, mm_aald, mm_iast, mm_bast, mm_alen, mm_acpy, mm_call, mm_callv, mm_recv, mm_pop, mm_find, mm_push, mm_cats, mm_cat, mm_reti, mm_retz, mm_retl, mm_reta, mm_retv, mm_set1, mm_set2, mm_kill, List.getElem?_cons_zero, List.getElem?_cons_succ, Int.reduceToNat, ↓reduceIte, Nat.reduceEqDiff, Nat.reduceDiv, Nat.reduceAdd, Nat.reduceLeDiff, Nat.zero_le, true_and, and_true, true_or, or_true, mm_b0, mm_b1, mm_lc_lt, mm_lc_le, mm_lc_gt, mm_lc_ge, mm_lc_eq, Int.not_lt, Int.not_le, Decidable.not_not, Int.sub_neg]
      exact h106 _ y1 y2 e1
    have h79 : J 79 [some (vr 62), some (vi q), some (vi ord), some (vi b), some (vi x), some (vi y), some (vi t), none, none, none, none, none] [vi (if ord = 1 then 1 else 0)] M := by
      refine hJ 79 _ _ _ (show mm_wp _ _ _ mo_M_weightOf_79 _ _ _ from ?_)
      simp only [mo_M_weightOf_79, mm_wp, mm_ldi, mm_lda, mm_ldl, mm_sti, mm_sta, mm_stl, mm_inc, mm_2i, mm_mm, mm_2l, mm_lcmp, mm_i2l, mm_l2i, mm_cast8, mm_if1, mm_if2, mm_cmp, mm_swi, mm_sw, mm_pop1, mm_dup, mm_dup2, mm_geti, mm_geta, mm_puti, mm_iald, mm_bald, mm_aald, mm_iast, mm_bast, mm_alen, mm_acpy, mm_call, mm_callv, mm_recv, mm_pop, mm_find, mm_push, mm_cats, mm_cat, mm_reti, mm_retz, mm_retl, mm_reta, mm_retv, mm_set1, mm_set2, mm_kill, List.getElem?_cons_zero, List.getElem?_cons_succ, Int.reduceToNat, ↓reduceIte, Nat.reduceEqDiff, Nat.reduceDiv, Nat.reduceAdd, Nat.reduceLeDiff, Nat.zero_le, true_and, and_true, true_or, or_true, mm_b0, mm_b1, mm_lc_lt, mm_lc_le, mm_lc_gt, mm_lc_ge, mm_lc_eq, Int.not_lt, Int.not_le, Decidable.not_not, Int.sub_neg, mx]
      refine ⟨fun z => h103 ?_, fun z => ⟨by omega, fun z2 => h103 ?_, fun z2 => ⟨by omega, h106 _ (by omega) (by omega) ?_⟩⟩⟩
      · by_cases c : ord = 1
        · rw [if_pos c] at z; omega
        · rw [if_pos (by omega)]
      · by_cases c : ord = 0
        · rw [if_pos c]
        · rw [if_neg c]; unfold tb; rw [if_pos (by omega)]
      · by_cases c : ord = 0
        · rw [if_neg (by omega)] at z; omega
        · rw [if_neg c]; unfold tb; rw [if_neg (by omega)]
    have h78 : ¬ ord = 1 → J 78 [some (vr 62), some (vi q), some (vi ord), some (vi b), some (vi x), some (vi y), some (vi t), none, none, none, none, none] [] M := by
      intro c
      rw [if_neg c] at h79
      refine hJ 78 _ _ _ (show mm_wp _ _ _ mo_M_weightOf_78 _ _ _ from ?_)
      simp only [mo_M_weightOf_78, mm_wp, mm_ldi, mm_lda, mm_ldl, mm_sti, mm_sta, mm_stl, mm_inc, mm_2i, mm_mm, mm_2l, mm_lcmp, mm_i2l, mm_l2i, mm_cast8, mm_if1, mm_if2, mm_cmp, mm_swi, mm_sw, mm_pop1, mm_dup, mm_dup2, mm_geti, mm_geta, mm_puti, mm_iald, mm_bald, mm_aald, mm_iast, mm_bast, mm_alen, mm_acpy, mm_call, mm_callv, mm_recv, mm_pop, mm_find, mm_push, mm_cats, mm_cat, mm_reti, mm_retz, mm_retl, mm_reta, mm_retv, mm_set1, mm_set2, mm_kill, List.getElem?_cons_zero, List.getElem?_cons_succ, Int.reduceToNat, ↓reduceIte, Nat.reduceEqDiff, Nat.reduceDiv, Nat.reduceAdd, Nat.reduceLeDiff, Nat.zero_le, true_and, and_true, true_or, or_true, mm_b0, mm_b1, mm_lc_lt, mm_lc_le, mm_lc_gt, mm_lc_ge, mm_lc_eq, Int.not_lt, Int.not_le, Decidable.not_not, Int.sub_neg]
      exact h79
    refine hJ 69 _ _ _ (show mm_wp _ _ _ mo_M_weightOf_69 _ _ _ from ?_)
    simp only [mo_M_weightOf_69, mm_wp, mm_ldi, mm_lda, mm_ldl, mm_sti, mm_sta, mm_stl, mm_inc, mm_2i, mm_mm, mm_2l, mm_lcmp, mm_i2l, mm_l2i, mm_cast8, mm_if1, mm_if2, mm_cmp, mm_swi, mm_sw, mm_pop1, mm_dup, mm_dup2, mm_geti, mm_geta, mm_puti, mm_iald, mm_bald, mm_aald, mm_iast, mm_bast, mm_alen, mm_acpy, mm_call, mm_callv, mm_recv, mm_pop, mm_find, mm_push, mm_cats, mm_cat, mm_reti, mm_retz, mm_retl, mm_reta, mm_retv, mm_set1, mm_set2, mm_kill, List.getElem?_cons_zero, List.getElem?_cons_succ, Int.reduceToNat, ↓reduceIte, Nat.reduceEqDiff, Nat.reduceDiv, Nat.reduceAdd, Nat.reduceLeDiff, Nat.zero_le, true_and, and_true, true_or, or_true, mm_b0, mm_b1, mm_lc_lt, mm_lc_le, mm_lc_gt, mm_lc_ge, mm_lc_eq, Int.not_lt, Int.not_le, Decidable.not_not, Int.sub_neg]
    refine ⟨fun c => h78 c, fun c => ?_⟩
    rw [if_pos c] at h79
    exact h79
  refine hJ 0 _ _ _ (show mm_wp _ _ _ mo_M_weightOf_0 _ _ _ from ?_)
  simp only [mo_M_weightOf_0, mm_wp, mm_ldi, mm_lda, mm_ldl, mm_sti, mm_sta, mm_stl, mm_inc, mm_2i, mm_mm, mm_2l, mm_lcmp, mm_i2l, mm_l2i, mm_cast8, mm_if1, mm_if2, mm_cmp, mm_swi, mm_sw, mm_pop1, mm_dup, mm_dup2, mm_geti, mm_geta, mm_puti, mm_iald, mm_bald, mm_aald, mm_iast, mm_bast, mm_alen, mm_acpy, mm_call, mm_callv, mm_recv, mm_pop, mm_find, mm_push, mm_cats, mm_cat, mm_reti, mm_retz, mm_retl, mm_reta, mm_retv, mm_set1, mm_set2, mm_kill, List.getElem?_cons_zero, List.getElem?_cons_succ, Int.reduceToNat, ↓reduceIte, Nat.reduceEqDiff, Nat.reduceDiv, Nat.reduceAdd, Nat.reduceLeDiff, Nat.zero_le, true_and, and_true, true_or, or_true, mm_b0, mm_b1, mm_lc_lt, mm_lc_le, mm_lc_gt, mm_lc_ge, mm_lc_eq, Int.not_lt, Int.not_le, Decidable.not_not, Int.sub_neg, c_0, c_1, c_2, l_2, c_3, c_4, l_4, c_5, l_5, c_6, l_6, c_7, l_7, c_8, c_9, l_9, c_10, l_10, c_11, l_11, c_12, l_12, c_13, c_14, l_14, c_15, l_15, c_16, l_16, c_17, l_17, c_18, c_19, l_19, c_20, l_20, c_21, l_21, c_22, l_22, c_23, c_24, l_24, c_25, l_25, c_26, c_27, c_28, l_28, c_29, c_30, l_30, c_31, c_32, l_32, c_33, l_33, c_34, l_34, c_35, l_35, c_36, l_36, c_37, l_37, c_38, l_38, c_39, l_39, c_40, c_41, l_41, c_42, c_43, c_44, l_44, c_45, c_46, l_46, c_47, c_48, l_48, c_49, l_49, c_50, l_50, c_51, l_51, c_52, l_52, c_53, l_53, c_54, l_54, c_55, l_55, c_56, l_56, c_57, l_57, c_58, l_58, c_59, l_59, c_60, l_60, c_61, l_61, c_62, c_63, l_63, c_64, l_64, c_65, l_65, c_66, l_66, c_67, l_67, c_68, l_68, c_69, l_69, c_70, l_70, c_71, l_71, c_72, l_72, c_73, l_73, c_74, l_74, c_75, l_75, c_76, l_76, x4, y4, t_M_curve, ht]
  iterate 11 (refine And.intro (by omega) ?_)
  refine ⟨fun z => h69 z, fun z => ?_⟩
  rw [if_neg (by omega), if_pos z] at h
  repeat (refine And.intro (by omega) ?_)
  exact h
