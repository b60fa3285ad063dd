/-! the planner's Window -/
def isW (o : Nat) : Prop := mm_cls o = 9 ∧ mm_cls (o + 1) = 100 ∧ mm_len (o + 1) = 6
def t_Win_begin : mmT := fun as M Q => match as with
  | [.inr (.inr o)] => isW o ∧ ∀ M', (∀ o', o' ≠ o → M' o' = M o') → M' o 1 = 0 → M' o 2 = -1 → M' o 3 = 0 → M' o 4 = 0 → M' o 5 = 0 → M' o 6 = 0 → Q none M'
  | _ => False
set_option maxHeartbeats 4000000 in
set_option maxRecDepth 100000 in
theorem p_Win_begin : ∀ as M Q, (∀ v ∈ as, mm_vin v) → mm_mem M → t_Win_begin as M Q → (mm_ent as).length ≤ 1 ∧ mm_ok mb_Win_begin [] (mm_entry 1 as) M Q := by
  intro as M Q hin hM h
  unfold t_Win_begin at h
  split at h
  rotate_left
  · exact h.elim
  rename_i o
  refine ⟨by simp [mm_ent], (show mm_ok mb_Win_begin [] [some (vr o)] M Q from ?_)⟩
  intro J hJ
  obtain ⟨⟨ho, h1, h2⟩, h⟩ := h
  refine hJ 0 _ _ _ (show mm_wp _ _ _ mo_Win_begin_0 _ _ _ from ?_)
  simp only [mo_Win_begin_0, mm_wp, mm_ldi, mm_lda, mm_ldl, mm_sti, mm_sta, mm_stl, mm_inc, mm_2i, mm_mm, mm_2l, mm_lcmp, mm_i2l, mm_l2i, mm_cast8, mm_if1, mm_if2, mm_cmp, mm_swi, mm_sw, mm_pop1, mm_dup, mm_dup2, mm_geti, mm_geta, mm_puti, mm_iald, mm_bald, mm_aald, mm_iast, mm_bast, mm_alen, mm_acpy, mm_call, mm_callv, mm_recv, mm_pop, mm_find, mm_push, mm_cats, mm_cat, mm_reti, mm_retz, mm_retl, mm_reta, mm_retv, mm_set1, mm_set2, mm_kill, List.getElem?_cons_zero, List.getElem?_cons_succ, Int.reduceToNat, ↓reduceIte, Nat.reduceEqDiff, Nat.reduceDiv, Nat.reduceAdd, Nat.reduceLeDiff, Nat.zero_le, true_and, and_true, true_or, or_true, mm_b0, mm_b1, mm_lc_lt, mm_lc_le, mm_lc_gt, mm_lc_ge, mm_lc_eq, Int.not_lt, Int.not_le, Decidable.not_not, Int.sub_neg]
  refine ⟨ho, ho, ho, ho, ho, ho, h _ (fun o' h' => ?_) ?_ ?_ ?_ ?_ ?_ ?_⟩
  · simp only [mm_up_o _ _ h']
  all_goals simp [mm_up]
def t_Win_has : mmT := fun as M Q => match as with
  | [.inr (.inr o), .inl i] => isW o ∧ Q (some (vi (mm_b (M o 1 ≤ i ∧ i ≤ M o 2)))) M
  | _ => False
set_option maxHeartbeats 4000000 in
set_option maxRecDepth 100000 in
theorem p_Win_has : ∀ as M Q, (∀ v ∈ as, mm_vin v) → mm_mem M → t_Win_has as M Q → (mm_ent as).length ≤ 2 ∧ mm_ok mb_Win_has [] (mm_entry 2 as) M Q := by
  intro as M Q hin hM h
  unfold t_Win_has at h
  split at h
  rotate_left
  · exact h.elim
  rename_i o i
  have hR_i : mm_R i := hin (vi i) (by simp)
  refine ⟨by simp [mm_ent], (show mm_ok mb_Win_has [] [some (vr o), some (vi i)] M Q from ?_)⟩
  intro J hJ
  obtain ⟨⟨ho, h1, h2⟩, h⟩ := h
  repeat' first | (refine And.intro ?_ ?_) | (intro _) | (refine hJ 0 _ _ _ (show mm_wp _ _ _ mo_Win_has_0 _ _ _ from ?_); simp only [mo_Win_has_0, mm_wp, mm_ldi, mm_lda, mm_ldl, mm_sti, mm_sta, mm_stl, mm_inc, mm_2i, mm_mm, mm_2l, mm_lcmp, mm_i2l, mm_l2i, mm_cast8, mm_if1, mm_if2, mm_cmp, mm_swi, mm_sw, mm_pop1, mm_dup, mm_dup2, mm_geti, mm_geta, mm_puti, mm_iald, mm_bald, mm_aald, mm_iast, mm_bast, mm_alen, mm_acpy, mm_call, mm_callv, mm_recv, mm_pop, mm_find, mm_push, mm_cats, mm_cat, mm_reti, mm_retz, mm_retl, mm_reta, mm_retv, mm_set1, mm_set2, mm_kill, List.getElem?_cons_zero, List.getElem?_cons_succ, Int.reduceToNat, ↓reduceIte, Nat.reduceEqDiff, Nat.reduceDiv, Nat.reduceAdd, Nat.reduceLeDiff, Nat.zero_le, true_and, and_true, true_or, or_true, mm_b0, mm_b1, mm_lc_lt, mm_lc_le, mm_lc_gt, mm_lc_ge, mm_lc_eq, Int.not_lt, Int.not_le, Decidable.not_not, Int.sub_neg]) | (refine hJ 20 _ _ _ (show mm_wp _ _ _ mo_Win_has_20 _ _ _ from ?_); simp only [mo_Win_has_20, mm_wp, mm_ldi, mm_lda, mm_ldl, mm_sti, mm_sta, mm_stl, mm_inc, mm_2i, mm_mm, mm_2l, mm_lcmp, mm_i2l, mm_l2i, mm_cast8, mm_if1, mm_if2, mm_cmp, mm_swi, mm_sw, mm_pop1, mm_dup, mm_dup2, mm_geti, mm_geta, mm_puti, mm_iald, mm_bald, mm_aald, mm_iast, mm_bast, mm_alen, mm_acpy, mm_call, mm_callv, mm_recv, mm_pop, mm_find, mm_push, mm_cats, mm_cat, mm_reti, mm_retz, mm_retl, mm_reta, mm_retv, mm_set1, mm_set2, mm_kill, List.getElem?_cons_zero, List.getElem?_cons_succ, Int.reduceToNat, ↓reduceIte, Nat.reduceEqDiff, Nat.reduceDiv, Nat.reduceAdd, Nat.reduceLeDiff, Nat.zero_le, true_and, and_true, true_or, or_true, mm_b0, mm_b1, mm_lc_lt, mm_lc_le, mm_lc_gt, mm_lc_ge, mm_lc_eq, Int.not_lt, Int.not_le, Decidable.not_not, Int.sub_neg]) | (refine hJ 21 _ _ _ (show mm_wp _ _ _ mo_Win_has_21 _ _ _ from ?_); simp only [mo_Win_has_21, mm_wp, mm_ldi, mm_lda, mm_ldl, mm_sti, mm_sta, mm_stl, mm_inc, mm_2i, mm_mm, mm_2l, mm_lcmp, mm_i2l, mm_l2i, mm_cast8, mm_if1, mm_if2, mm_cmp, mm_swi, mm_sw, mm_pop1, mm_dup, mm_dup2, mm_geti, mm_geta, mm_puti, mm_iald, mm_bald, mm_aald, mm_iast, mm_bast, mm_alen, mm_acpy, mm_call, mm_callv, mm_recv, mm_pop, mm_find, mm_push, mm_cats, mm_cat, mm_reti, mm_retz, mm_retl, mm_reta, mm_retv, mm_set1, mm_set2, mm_kill, List.getElem?_cons_zero, List.getElem?_cons_succ, Int.reduceToNat, ↓reduceIte, Nat.reduceEqDiff, Nat.reduceDiv, Nat.reduceAdd, Nat.reduceLeDiff, Nat.zero_le, true_and, and_true, true_or, or_true, mm_b0, mm_b1, mm_lc_lt, mm_lc_le, mm_lc_gt, mm_lc_ge, mm_lc_eq, Int.not_lt, Int.not_le, Decidable.not_not, Int.sub_neg])
  all_goals first | assumption | (exact Or.inl rfl) | (exact Or.inr rfl) | (exact rfl) | trivial | omega | (rw [mm_bF (by omega)] at h; exact h) | (rw [mm_bT (by omega)] at h; exact h)
def t_Win_cost : mmT := fun as M Q => match as with
  | [.inr (.inr o), .inl w] => isW o ∧ 0 ≤ w ∧ w ≤ 9 ∧ 0 ≤ M o 4 ∧ M o 4 ≤ 100000000 ∧ 0 ≤ M o 5 ∧ M o 5 ≤ 100000000 ∧ Q (some (vi (M o 4 + w * M o 5))) M
  | _ => False
set_option maxHeartbeats 4000000 in
set_option maxRecDepth 100000 in
theorem p_Win_cost : ∀ as M Q, (∀ v ∈ as, mm_vin v) → mm_mem M → t_Win_cost as M Q → (mm_ent as).length ≤ 2 ∧ mm_ok mb_Win_cost [] (mm_entry 2 as) M Q := by
  intro as M Q hin hM h
  unfold t_Win_cost at h
  split at h
  rotate_left
  · exact h.elim
  rename_i o w
  have hR_w : mm_R w := hin (vi w) (by simp)
  refine ⟨by simp [mm_ent], (show mm_ok mb_Win_cost [] [some (vr o), some (vi w)] M Q from ?_)⟩
  intro J hJ
  obtain ⟨⟨ho, h1, h2⟩, a1, a2, a3, a4, a5, a6, h⟩ := h
  have b1 : 0 ≤ w * M o 5 := Int.mul_nonneg a1 a5
  have b2 : w * M o 5 ≤ 9 * 100000000 := Int.mul_le_mul a2 a6 a5 (by omega)
  repeat' first | (refine And.intro ?_ ?_) | (intro _) | (refine hJ 0 _ _ _ (show mm_wp _ _ _ mo_Win_cost_0 _ _ _ from ?_); simp only [mo_Win_cost_0, mm_wp, mm_ldi, mm_lda, mm_ldl, mm_sti, mm_sta, mm_stl, mm_inc, mm_2i, mm_mm, mm_2l, mm_lcmp, mm_i2l, mm_l2i, mm_cast8, mm_if1, mm_if2, mm_cmp, mm_swi, mm_sw, mm_pop1, mm_dup, mm_dup2, mm_geti, mm_geta, mm_puti, mm_iald, mm_bald, mm_aald, mm_iast, mm_bast, mm_alen, mm_acpy, mm_call, mm_callv, mm_recv, mm_pop, mm_find, mm_push, mm_cats, mm_cat, mm_reti, mm_retz, mm_retl, mm_reta, mm_retv, mm_set1, mm_set2, mm_kill, List.getElem?_cons_zero, List.getElem?_cons_succ, Int.reduceToNat, ↓reduceIte, Nat.reduceEqDiff, Nat.reduceDiv, Nat.reduceAdd, Nat.reduceLeDiff, Nat.zero_le, true_and, and_true, true_or, or_true, mm_b0, mm_b1, mm_lc_lt, mm_lc_le, mm_lc_gt, mm_lc_ge, mm_lc_eq, Int.not_lt, Int.not_le, Decidable.not_not, Int.sub_neg])
  all_goals first | assumption | (exact Or.inl rfl) | (exact Or.inr rfl) | (exact rfl) | trivial | omega
/-- where a window stands, within bounds -/
def wB (M : mmM) (o : Nat) : Prop := 0 ≤ M o 1 ∧ M o 1 ≤ 60 ∧ -1 ≤ M o 2 ∧ M o 2 ≤ 60 ∧ 0 ≤ M o 3 ∧ M o 3 ≤ 32
def t_Win_aim : mmT := fun as M Q => match as with
  | [.inr (.inr o), .inl f, .inl l, .inl t] => isW o ∧ wB M o ∧ (0 ≤ f ∧ f ≤ 60 ∧ 0 ≤ l ∧ l ≤ 60 ∧ 0 ≤ t ∧ t ≤ 32) ∧ ∀ M', (∀ o', o' ≠ o + 1 → M' o' = M o') → M' (o + 1) 0 = max 0 (M o 1 - f) → M' (o + 1) 1 = max 0 (l - M o 2) → M' (o + 1) 2 = max 0 (f - M o 1) → M' (o + 1) 3 = max 0 (M o 2 - l) → M' (o + 1) 4 = max 0 (t - M o 3) → M' (o + 1) 5 = max 0 (M o 3 - t) → Q none M'
  | _ => False
set_option maxHeartbeats 4000000 in
set_option maxRecDepth 100000 in
theorem p_Win_aim : ∀ as M Q, (∀ v ∈ as, mm_vin v) → mm_mem M → t_Win_aim as M Q → (mm_ent as).length ≤ 4 ∧ mm_ok mb_Win_aim [] (mm_entry 4 as) M Q := by
  intro as M Q hin hM h
  unfold t_Win_aim at h
  split at h
  rotate_left
  · exact h.elim
  rename_i o f l t
  have hR_f : mm_R f := hin (vi f) (by simp)
  have hR_l : mm_R l := hin (vi l) (by simp)
  have hR_t : mm_R t := hin (vi t) (by simp)
  refine ⟨by simp [mm_ent], (show mm_ok mb_Win_aim [] [some (vr o), some (vi f), some (vi l), some (vi t)] M Q from ?_)⟩
  intro J hJ
  obtain ⟨⟨ho, h1, h2⟩, hw, hb, h⟩ := h
  obtain ⟨w1, w2, w3, w4, w5, w6⟩ := hw
  have e : ∀ (M1 : mmM) (i v : Int), mm_up M1 (o + 1) i v o = M1 o := fun M1 i v => mm_up_o _ _ (by omega)
  refine hJ 0 _ _ _ (show mm_wp _ _ _ mo_Win_aim_0 _ _ _ from ?_)
  simp only [mo_Win_aim_0, mm_wp, mm_ldi, mm_lda, mm_ldl, mm_sti, mm_sta, mm_stl, mm_inc, mm_2i, mm_mm, mm_2l, mm_lcmp, mm_i2l, mm_l2i, mm_cast8, mm_if1, mm_if2, mm_cmp, mm_swi, mm_sw, mm_pop1, mm_dup, mm_dup2, mm_geti, mm_geta, mm_puti, mm_iald, mm_bald, mm_aald, mm_iast, mm_bast, mm_alen, mm_acpy, mm_call, mm_callv, mm_recv, mm_pop, mm_find, mm_push, mm_cats, mm_cat, mm_reti, mm_retz, mm_retl, mm_reta, mm_retv, mm_set1, mm_set2, mm_kill, List.getElem?_cons_zero, List.getElem?_cons_succ, Int.reduceToNat, ↓reduceIte, Nat.reduceEqDiff, Nat.reduceDiv, Nat.reduceAdd, Nat.reduceLeDiff, Nat.zero_le, true_and, and_true, true_or, or_true, mm_b0, mm_b1, mm_lc_lt, mm_lc_le, mm_lc_gt, mm_lc_ge, mm_lc_eq, Int.not_lt, Int.not_le, Decidable.not_not, Int.sub_neg, e, ho, h1, h2]
  refine ⟨by omega, by omega, by omega, by omega, by omega, by omega, by omega, by omega, by omega, by omega, by omega, by omega, h _ (fun o' h' => ?_) ?_ ?_ ?_ ?_ ?_ ?_⟩
  · simp only [mm_up_o _ _ h']
  all_goals simp [mm_up]
/-- what shift does: the field that kind names, and ends or turns -/
def wSh (M : mmM) (o : Nat) (k n : Int) : mmM :=
  if k = 0 then mm_up (mm_up M o 1 (M o 1 - n)) o 4 (M o 4 + n)
  else if k = 1 then mm_up (mm_up M o 2 (M o 2 + n)) o 4 (M o 4 + n)
  else if k = 2 then mm_up (mm_up M o 1 (M o 1 + n)) o 4 (M o 4 + n)
  else if k = 3 then mm_up (mm_up M o 2 (M o 2 - n)) o 4 (M o 4 + n)
  else if k = 4 then mm_up (mm_up M o 3 (M o 3 + n)) o 5 (M o 5 + n)
  else mm_up (mm_up M o 3 (M o 3 - n)) o 5 (M o 5 + n)
def t_Win_shift : mmT := fun as M Q => match as with
  | [.inr (.inr o), .inl k, .inl n] => isW o ∧ (0 ≤ k ∧ k ≤ 5 ∧ -100 ≤ n ∧ n ≤ 100 ∧ -100 ≤ M o 1 ∧ M o 1 ≤ 100 ∧ -100 ≤ M o 2 ∧ M o 2 ≤ 100 ∧ -100 ≤ M o 3 ∧ M o 3 ≤ 100 ∧ 0 ≤ M o 4 ∧ M o 4 ≤ 100000000 ∧ 0 ≤ M o 5 ∧ M o 5 ≤ 100000000) ∧ Q (some (vi n)) (wSh M o k n)
  | _ => False
set_option maxHeartbeats 4000000 in
set_option maxRecDepth 100000 in
theorem p_Win_shift : ∀ as M Q, (∀ v ∈ as, mm_vin v) → mm_mem M → t_Win_shift as M Q → (mm_ent as).length ≤ 3 ∧ mm_ok mb_Win_shift [] (mm_entry 3 as) M Q := by
  intro as M Q hin hM h
  unfold t_Win_shift at h
  split at h
  rotate_left
  · exact h.elim
  rename_i o k n
  have hR_k : mm_R k := hin (vi k) (by simp)
  have hR_n : mm_R n := hin (vi n) (by simp)
  refine ⟨by simp [mm_ent], (show mm_ok mb_Win_shift [] [some (vr o), some (vi k), some (vi n)] M Q from ?_)⟩
  intro J hJ
  obtain ⟨⟨ho, h1, h2⟩, hb, h⟩ := h
  have e4 : ∀ v : Int, mm_up M o 1 v o 4 = M o 4 ∧ mm_up M o 2 v o 4 = M o 4 ∧ mm_up M o 3 v o 5 = M o 5 := fun v => ⟨mm_up_i _ (by decide), mm_up_i _ (by decide), mm_up_i _ (by decide)⟩
  have hk : k = 0 ∨ k = 1 ∨ k = 2 ∨ k = 3 ∨ k = 4 ∨ k = 5 := by omega
  rcases hk with rfl | rfl | rfl | rfl | rfl | rfl <;> simp only [wSh, Int.reduceEq, ↓reduceIte] at h
  all_goals
    repeat' first | (refine And.intro ?_ ?_) | (intro _) | (refine hJ 0 _ _ _ (show mm_wp _ _ _ mo_Win_shift_0 _ _ _ from ?_); simp only [mo_Win_shift_0, mm_wp, mm_ldi, mm_lda, mm_ldl, mm_sti, mm_sta, mm_stl, mm_inc, mm_2i, mm_mm, mm_2l, mm_lcmp, mm_i2l, mm_l2i, mm_cast8, mm_if1, mm_if2, mm_cmp, mm_swi, mm_sw, mm_pop1, mm_dup, mm_dup2, mm_geti, mm_geta, mm_puti, mm_iald, mm_bald, mm_aald, mm_iast, mm_bast, mm_alen, mm_acpy, mm_call, mm_callv, mm_recv, mm_pop, mm_find, mm_push, mm_cats, mm_cat, mm_reti, mm_retz, mm_retl, mm_reta, mm_retv, mm_set1, mm_set2, mm_kill, List.getElem?_cons_zero, List.getElem?_cons_succ, Int.reduceToNat, ↓reduceIte, Nat.reduceEqDiff, Nat.reduceDiv, Nat.reduceAdd, Nat.reduceLeDiff, Nat.zero_le, true_and, and_true, true_or, or_true, mm_b0, mm_b1, mm_lc_lt, mm_lc_le, mm_lc_gt, mm_lc_ge, mm_lc_eq, Int.not_lt, Int.not_le, Decidable.not_not, Int.sub_neg, ho, (e4 _).1, (e4 _).2.1, (e4 _).2.2, Int.reduceEq, not_true_eq_false, not_false_eq_true, forall_const, false_implies, implies_true]) | (refine hJ 36 _ _ _ (show mm_wp _ _ _ mo_Win_shift_36 _ _ _ from ?_); simp only [mo_Win_shift_36, mm_wp, mm_ldi, mm_lda, mm_ldl, mm_sti, mm_sta, mm_stl, mm_inc, mm_2i, mm_mm, mm_2l, mm_lcmp, mm_i2l, mm_l2i, mm_cast8, mm_if1, mm_if2, mm_cmp, mm_swi, mm_sw, mm_pop1, mm_dup, mm_dup2, mm_geti, mm_geta, mm_puti, mm_iald, mm_bald, mm_aald, mm_iast, mm_bast, mm_alen, mm_acpy, mm_call, mm_callv, mm_recv, mm_pop, mm_find, mm_push, mm_cats, mm_cat, mm_reti, mm_retz, mm_retl, mm_reta, mm_retv, mm_set1, mm_set2, mm_kill, List.getElem?_cons_zero, List.getElem?_cons_succ, Int.reduceToNat, ↓reduceIte, Nat.reduceEqDiff, Nat.reduceDiv, Nat.reduceAdd, Nat.reduceLeDiff, Nat.zero_le, true_and, and_true, true_or, or_true, mm_b0, mm_b1, mm_lc_lt, mm_lc_le, mm_lc_gt, mm_lc_ge, mm_lc_eq, Int.not_lt, Int.not_le, Decidable.not_not, Int.sub_neg, ho, (e4 _).1, (e4 _).2.1, (e4 _).2.2, Int.reduceEq, not_true_eq_false, not_false_eq_true, forall_const, false_implies, implies_true]) | (refine hJ 49 _ _ _ (show mm_wp _ _ _ mo_Win_shift_49 _ _ _ from ?_); simp only [mo_Win_shift_49, mm_wp, mm_ldi, mm_lda, mm_ldl, mm_sti, mm_sta, mm_stl, mm_inc, mm_2i, mm_mm, mm_2l, mm_lcmp, mm_i2l, mm_l2i, mm_cast8, mm_if1, mm_if2, mm_cmp, mm_swi, mm_sw, mm_pop1, mm_dup, mm_dup2, mm_geti, mm_geta, mm_puti, mm_iald, mm_bald, mm_aald, mm_iast, mm_bast, mm_alen, mm_acpy, mm_call, mm_callv, mm_recv, mm_pop, mm_find, mm_push, mm_cats, mm_cat, mm_reti, mm_retz, mm_retl, mm_reta, mm_retv, mm_set1, mm_set2, mm_kill, List.getElem?_cons_zero, List.getElem?_cons_succ, Int.reduceToNat, ↓reduceIte, Nat.reduceEqDiff, Nat.reduceDiv, Nat.reduceAdd, Nat.reduceLeDiff, Nat.zero_le, true_and, and_true, true_or, or_true, mm_b0, mm_b1, mm_lc_lt, mm_lc_le, mm_lc_gt, mm_lc_ge, mm_lc_eq, Int.not_lt, Int.not_le, Decidable.not_not, Int.sub_neg, ho, (e4 _).1, (e4 _).2.1, (e4 _).2.2, Int.reduceEq, not_true_eq_false, not_false_eq_true, forall_const, false_implies, implies_true]) | (refine hJ 62 _ _ _ (show mm_wp _ _ _ mo_Win_shift_62 _ _ _ from ?_); simp only [mo_Win_shift_62, mm_wp, mm_ldi, mm_lda, mm_ldl, mm_sti, mm_sta, mm_stl, mm_inc, mm_2i, mm_mm, mm_2l, mm_lcmp, mm_i2l, mm_l2i, mm_cast8, mm_if1, mm_if2, mm_cmp, mm_swi, mm_sw, mm_pop1, mm_dup, mm_dup2, mm_geti, mm_geta, mm_puti, mm_iald, mm_bald, mm_aald, mm_iast, mm_bast, mm_alen, mm_acpy, mm_call, mm_callv, mm_recv, mm_pop, mm_find, mm_push, mm_cats, mm_cat, mm_reti, mm_retz, mm_retl, mm_reta, mm_retv, mm_set1, mm_set2, mm_kill, List.getElem?_cons_zero, List.getElem?_cons_succ, Int.reduceToNat, ↓reduceIte, Nat.reduceEqDiff, Nat.reduceDiv, Nat.reduceAdd, Nat.reduceLeDiff, Nat.zero_le, true_and, and_true, true_or, or_true, mm_b0, mm_b1, mm_lc_lt, mm_lc_le, mm_lc_gt, mm_lc_ge, mm_lc_eq, Int.not_lt, Int.not_le, Decidable.not_not, Int.sub_neg, ho, (e4 _).1, (e4 _).2.1, (e4 _).2.2, Int.reduceEq, not_true_eq_false, not_false_eq_true, forall_const, false_implies, implies_true]) | (refine hJ 75 _ _ _ (show mm_wp _ _ _ mo_Win_shift_75 _ _ _ from ?_); simp only [mo_Win_shift_75, mm_wp, mm_ldi, mm_lda, mm_ldl, mm_sti, mm_sta, mm_stl, mm_inc, mm_2i, mm_mm, mm_2l, mm_lcmp, mm_i2l, mm_l2i, mm_cast8, mm_if1, mm_if2, mm_cmp, mm_swi, mm_sw, mm_pop1, mm_dup, mm_dup2, mm_geti, mm_geta, mm_puti, mm_iald, mm_bald, mm_aald, mm_iast, mm_bast, mm_alen, mm_acpy, mm_call, mm_callv, mm_recv, mm_pop, mm_find, mm_push, mm_cats, mm_cat, mm_reti, mm_retz, mm_retl, mm_reta, mm_retv, mm_set1, mm_set2, mm_kill, List.getElem?_cons_zero, List.getElem?_cons_succ, Int.reduceToNat, ↓reduceIte, Nat.reduceEqDiff, Nat.reduceDiv, Nat.reduceAdd, Nat.reduceLeDiff, Nat.zero_le, true_and, and_true, true_or, or_true, mm_b0, mm_b1, mm_lc_lt, mm_lc_le, mm_lc_gt, mm_lc_ge, mm_lc_eq, Int.not_lt, Int.not_le, Decidable.not_not, Int.sub_neg, ho, (e4 _).1, (e4 _).2.1, (e4 _).2.2, Int.reduceEq, not_true_eq_false, not_false_eq_true, forall_const, false_implies, implies_true]) | (refine hJ 88 _ _ _ (show mm_wp _ _ _ mo_Win_shift_88 _ _ _ from ?_); simp only [mo_Win_shift_88, mm_wp, mm_ldi, mm_lda, mm_ldl, mm_sti, mm_sta, mm_stl, mm_inc, mm_2i, mm_mm, mm_2l, mm_lcmp, mm_i2l, mm_l2i, mm_cast8, mm_if1, mm_if2, mm_cmp, mm_swi, mm_sw, mm_pop1, mm_dup, mm_dup2, mm_geti, mm_geta, mm_puti, mm_iald, mm_bald, mm_aald, mm_iast, mm_bast, mm_alen, mm_acpy, mm_call, mm_callv, mm_recv, mm_pop, mm_find, mm_push, mm_cats, mm_cat, mm_reti, mm_retz, mm_retl, mm_reta, mm_retv, mm_set1, mm_set2, mm_kill, List.getElem?_cons_zero, List.getElem?_cons_succ, Int.reduceToNat, ↓reduceIte, Nat.reduceEqDiff, Nat.reduceDiv, Nat.reduceAdd, Nat.reduceLeDiff, Nat.zero_le, true_and, and_true, true_or, or_true, mm_b0, mm_b1, mm_lc_lt, mm_lc_le, mm_lc_gt, mm_lc_ge, mm_lc_eq, Int.not_lt, Int.not_le, Decidable.not_not, Int.sub_neg, ho, (e4 _).1, (e4 _).2.1, (e4 _).2.2, Int.reduceEq, not_true_eq_false, not_false_eq_true, forall_const, false_implies, implies_true]) | (refine hJ 101 _ _ _ (show mm_wp _ _ _ mo_Win_shift_101 _ _ _ from ?_); simp only [mo_Win_shift_101, mm_wp, mm_ldi, mm_lda, mm_ldl, mm_sti, mm_sta, mm_stl, mm_inc, mm_2i, mm_mm, mm_2l, mm_lcmp, mm_i2l, mm_l2i, mm_cast8, mm_if1, mm_if2, mm_cmp, mm_swi, mm_sw, mm_pop1, mm_dup, mm_dup2, mm_geti, mm_geta, mm_puti, mm_iald, mm_bald, mm_aald, mm_iast, mm_bast, mm_alen, mm_acpy, mm_call, mm_callv, mm_recv, mm_pop, mm_find, mm_push, mm_cats, mm_cat, mm_reti, mm_retz, mm_retl, mm_reta, mm_retv, mm_set1, mm_set2, mm_kill, List.getElem?_cons_zero, List.getElem?_cons_succ, Int.reduceToNat, ↓reduceIte, Nat.reduceEqDiff, Nat.reduceDiv, Nat.reduceAdd, Nat.reduceLeDiff, Nat.zero_le, true_and, and_true, true_or, or_true, mm_b0, mm_b1, mm_lc_lt, mm_lc_le, mm_lc_gt, mm_lc_ge, mm_lc_eq, Int.not_lt, Int.not_le, Decidable.not_not, Int.sub_neg, ho, (e4 _).1, (e4 _).2.1, (e4 _).2.2, Int.reduceEq, not_true_eq_false, not_false_eq_true, forall_const, false_implies, implies_true]) | (refine hJ 111 _ _ _ (show mm_wp _ _ _ mo_Win_shift_111 _ _ _ from ?_); simp only [mo_Win_shift_111, mm_wp, mm_ldi, mm_lda, mm_ldl, mm_sti, mm_sta, mm_stl, mm_inc, mm_2i, mm_mm, mm_2l, mm_lcmp, mm_i2l, mm_l2i, mm_cast8, mm_if1, mm_if2, mm_cmp, mm_swi, mm_sw, mm_pop1, mm_dup, mm_dup2, mm_geti, mm_geta, mm_puti, mm_iald, mm_bald, mm_aald, mm_iast, mm_bast, mm_alen, mm_acpy, mm_call, mm_callv, mm_recv, mm_pop, mm_find, mm_push, mm_cats, mm_cat, mm_reti, mm_retz, mm_retl, mm_reta, mm_retv, mm_set1, mm_set2, mm_kill, List.getElem?_cons_zero, List.getElem?_cons_succ, Int.reduceToNat, ↓reduceIte, Nat.reduceEqDiff, Nat.reduceDiv, Nat.reduceAdd, Nat.reduceLeDiff, Nat.zero_le, true_and, and_true, true_or, or_true, mm_b0, mm_b1, mm_lc_lt, mm_lc_le, mm_lc_gt, mm_lc_ge, mm_lc_eq, Int.not_lt, Int.not_le, Decidable.not_not, Int.sub_neg, ho, (e4 _).1, (e4 _).2.1, (e4 _).2.2, Int.reduceEq, not_true_eq_false, not_false_eq_true, forall_const, false_implies, implies_true]) | (refine hJ 121 _ _ _ (show mm_wp _ _ _ mo_Win_shift_121 _ _ _ from ?_); simp only [mo_Win_shift_121, mm_wp, mm_ldi, mm_lda, mm_ldl, mm_sti, mm_sta, mm_stl, mm_inc, mm_2i, mm_mm, mm_2l, mm_lcmp, mm_i2l, mm_l2i, mm_cast8, mm_if1, mm_if2, mm_cmp, mm_swi, mm_sw, mm_pop1, mm_dup, mm_dup2, mm_geti, mm_geta, mm_puti, mm_iald, mm_bald, mm_aald, mm_iast, mm_bast, mm_alen, mm_acpy, mm_call, mm_callv, mm_recv, mm_pop, mm_find, mm_push, mm_cats, mm_cat, mm_reti, mm_retz, mm_retl, mm_reta, mm_retv, mm_set1, mm_set2, mm_kill, List.getElem?_cons_zero, List.getElem?_cons_succ, Int.reduceToNat, ↓reduceIte, Nat.reduceEqDiff, Nat.reduceDiv, Nat.reduceAdd, Nat.reduceLeDiff, Nat.zero_le, true_and, and_true, true_or, or_true, mm_b0, mm_b1, mm_lc_lt, mm_lc_le, mm_lc_gt, mm_lc_ge, mm_lc_eq, Int.not_lt, Int.not_le, Decidable.not_not, Int.sub_neg, ho, (e4 _).1, (e4 _).2.1, (e4 _).2.2, Int.reduceEq, not_true_eq_false, not_false_eq_true, forall_const, false_implies, implies_true]) | (refine hJ 134 _ _ _ (show mm_wp _ _ _ mo_Win_shift_134 _ _ _ from ?_); simp only [mo_Win_shift_134, mm_wp, mm_ldi, mm_lda, mm_ldl, mm_sti, mm_sta, mm_stl, mm_inc, mm_2i, mm_mm, mm_2l, mm_lcmp, mm_i2l, mm_l2i, mm_cast8, mm_if1, mm_if2, mm_cmp, mm_swi, mm_sw, mm_pop1, mm_dup, mm_dup2, mm_geti, mm_geta, mm_puti, mm_iald, mm_bald, mm_aald, mm_iast, mm_bast, mm_alen, mm_acpy, mm_call, mm_callv, mm_recv, mm_pop, mm_find, mm_push, mm_cats, mm_cat, mm_reti, mm_retz, mm_retl, mm_reta, mm_retv, mm_set1, mm_set2, mm_kill, List.getElem?_cons_zero, List.getElem?_cons_succ, Int.reduceToNat, ↓reduceIte, Nat.reduceEqDiff, Nat.reduceDiv, Nat.reduceAdd, Nat.reduceLeDiff, Nat.zero_le, true_and, and_true, true_or, or_true, mm_b0, mm_b1, mm_lc_lt, mm_lc_le, mm_lc_gt, mm_lc_ge, mm_lc_eq, Int.not_lt, Int.not_le, Decidable.not_not, Int.sub_neg, ho, (e4 _).1, (e4 _).2.1, (e4 _).2.2, Int.reduceEq, not_true_eq_false, not_false_eq_true, forall_const, false_implies, implies_true]) | (refine hJ 144 _ _ _ (show mm_wp _ _ _ mo_Win_shift_144 _ _ _ from ?_); simp only [mo_Win_shift_144, mm_wp, mm_ldi, mm_lda, mm_ldl, mm_sti, mm_sta, mm_stl, mm_inc, mm_2i, mm_mm, mm_2l, mm_lcmp, mm_i2l, mm_l2i, mm_cast8, mm_if1, mm_if2, mm_cmp, mm_swi, mm_sw, mm_pop1, mm_dup, mm_dup2, mm_geti, mm_geta, mm_puti, mm_iald, mm_bald, mm_aald, mm_iast, mm_bast, mm_alen, mm_acpy, mm_call, mm_callv, mm_recv, mm_pop, mm_find, mm_push, mm_cats, mm_cat, mm_reti, mm_retz, mm_retl, mm_reta, mm_retv, mm_set1, mm_set2, mm_kill, List.getElem?_cons_zero, List.getElem?_cons_succ, Int.reduceToNat, ↓reduceIte, Nat.reduceEqDiff, Nat.reduceDiv, Nat.reduceAdd, Nat.reduceLeDiff, Nat.zero_le, true_and, and_true, true_or, or_true, mm_b0, mm_b1, mm_lc_lt, mm_lc_le, mm_lc_gt, mm_lc_ge, mm_lc_eq, Int.not_lt, Int.not_le, Decidable.not_not, Int.sub_neg, ho, (e4 _).1, (e4 _).2.1, (e4 _).2.2, Int.reduceEq, not_true_eq_false, not_false_eq_true, forall_const, false_implies, implies_true])
    all_goals first | assumption | (exact Or.inl rfl) | (exact Or.inr rfl) | (exact rfl) | trivial | omega
def t_Win_distance : mmT := fun as M Q => match as with
  | [.inr (.inr o)] => isW o ∧ (∀ k, 0 ≤ k → k < 6 → 0 ≤ M (o + 1) k ∧ M (o + 1) k ≤ 100) ∧ Q (some (vi (M (o + 1) 0 + M (o + 1) 1 + M (o + 1) 2 + M (o + 1) 3 + M (o + 1) 4 + M (o + 1) 5))) M
  | _ => False
set_option maxHeartbeats 4000000 in
set_option maxRecDepth 100000 in
theorem p_Win_distance : ∀ as M Q, (∀ v ∈ as, mm_vin v) → mm_mem M → t_Win_distance as M Q → (mm_ent as).length ≤ 3 ∧ mm_ok mb_Win_distance [] (mm_entry 3 as) M Q := by
  intro as M Q hin hM h
  unfold t_Win_distance at h
  split at h
  rotate_left
  · exact h.elim
  rename_i o
  refine ⟨by simp [mm_ent], (show mm_ok mb_Win_distance [] [some (vr o), none, none] M Q from ?_)⟩
  intro J hJ
  obtain ⟨⟨ho, h1, h2⟩, hb, h⟩ := h
  have b0 := hb 0 (by decide) (by decide)
  have b1 := hb 1 (by decide) (by decide)
  have b2 := hb 2 (by decide) (by decide)
  have b3 := hb 3 (by decide) (by decide)
  have b4 := hb 4 (by decide) (by decide)
  have b5 := hb 5 (by decide) (by decide)
  repeat' first | (refine And.intro ?_ ?_) | (intro _) | (refine hJ 0 _ _ _ (show mm_wp _ _ _ mo_Win_distance_0 _ _ _ from ?_); simp only [mo_Win_distance_0, mm_wp, mm_ldi, mm_lda, mm_ldl, mm_sti, mm_sta, mm_stl, mm_inc, mm_2i, mm_mm, mm_2l, mm_lcmp, mm_i2l, mm_l2i, mm_cast8, mm_if1, mm_if2, mm_cmp, mm_swi, mm_sw, mm_pop1, mm_dup, mm_dup2, mm_geti, mm_geta, mm_puti, mm_iald, mm_bald, mm_aald, mm_iast, mm_bast, mm_alen, mm_acpy, mm_call, mm_callv, mm_recv, mm_pop, mm_find, mm_push, mm_cats, mm_cat, mm_reti, mm_retz, mm_retl, mm_reta, mm_retv, mm_set1, mm_set2, mm_kill, List.getElem?_cons_zero, List.getElem?_cons_succ, Int.reduceToNat, ↓reduceIte, Nat.reduceEqDiff, Nat.reduceDiv, Nat.reduceAdd, Nat.reduceLeDiff, Nat.zero_le, true_and, and_true, true_or, or_true, mm_b0, mm_b1, mm_lc_lt, mm_lc_le, mm_lc_gt, mm_lc_ge, mm_lc_eq, Int.not_lt, Int.not_le, Decidable.not_not, Int.sub_neg, ho, h1, h2, Int.reduceLT, Int.reduceLE, Int.reduceAdd, Int.zero_add, not_true_eq_false, not_false_eq_true, forall_const, false_implies, implies_true, Int.reduceNeg]) | (refine hJ 4 _ _ _ (show mm_wp _ _ _ mo_Win_distance_4 _ _ _ from ?_); simp only [mo_Win_distance_4, mm_wp, mm_ldi, mm_lda, mm_ldl, mm_sti, mm_sta, mm_stl, mm_inc, mm_2i, mm_mm, mm_2l, mm_lcmp, mm_i2l, mm_l2i, mm_cast8, mm_if1, mm_if2, mm_cmp, mm_swi, mm_sw, mm_pop1, mm_dup, mm_dup2, mm_geti, mm_geta, mm_puti, mm_iald, mm_bald, mm_aald, mm_iast, mm_bast, mm_alen, mm_acpy, mm_call, mm_callv, mm_recv, mm_pop, mm_find, mm_push, mm_cats, mm_cat, mm_reti, mm_retz, mm_retl, mm_reta, mm_retv, mm_set1, mm_set2, mm_kill, List.getElem?_cons_zero, List.getElem?_cons_succ, Int.reduceToNat, ↓reduceIte, Nat.reduceEqDiff, Nat.reduceDiv, Nat.reduceAdd, Nat.reduceLeDiff, Nat.zero_le, true_and, and_true, true_or, or_true, mm_b0, mm_b1, mm_lc_lt, mm_lc_le, mm_lc_gt, mm_lc_ge, mm_lc_eq, Int.not_lt, Int.not_le, Decidable.not_not, Int.sub_neg, ho, h1, h2, Int.reduceLT, Int.reduceLE, Int.reduceAdd, Int.zero_add, not_true_eq_false, not_false_eq_true, forall_const, false_implies, implies_true, Int.reduceNeg]) | (refine hJ 25 _ _ _ (show mm_wp _ _ _ mo_Win_distance_25 _ _ _ from ?_); simp only [mo_Win_distance_25, mm_wp, mm_ldi, mm_lda, mm_ldl, mm_sti, mm_sta, mm_stl, mm_inc, mm_2i, mm_mm, mm_2l, mm_lcmp, mm_i2l, mm_l2i, mm_cast8, mm_if1, mm_if2, mm_cmp, mm_swi, mm_sw, mm_pop1, mm_dup, mm_dup2, mm_geti, mm_geta, mm_puti, mm_iald, mm_bald, mm_aald, mm_iast, mm_bast, mm_alen, mm_acpy, mm_call, mm_callv, mm_recv, mm_pop, mm_find, mm_push, mm_cats, mm_cat, mm_reti, mm_retz, mm_retl, mm_reta, mm_retv, mm_set1, mm_set2, mm_kill, List.getElem?_cons_zero, List.getElem?_cons_succ, Int.reduceToNat, ↓reduceIte, Nat.reduceEqDiff, Nat.reduceDiv, Nat.reduceAdd, Nat.reduceLeDiff, Nat.zero_le, true_and, and_true, true_or, or_true, mm_b0, mm_b1, mm_lc_lt, mm_lc_le, mm_lc_gt, mm_lc_ge, mm_lc_eq, Int.not_lt, Int.not_le, Decidable.not_not, Int.sub_neg, ho, h1, h2, Int.reduceLT, Int.reduceLE, Int.reduceAdd, Int.zero_add, not_true_eq_false, not_false_eq_true, forall_const, false_implies, implies_true, Int.reduceNeg])
  all_goals first | assumption | (exact Or.inl rfl) | (exact Or.inr rfl) | (exact rfl) | trivial | omega
