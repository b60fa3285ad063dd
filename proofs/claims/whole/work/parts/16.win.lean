/-! the planner's Window -/
def isW (o : Nat) : Prop := mm_cls o = 9 ∧ mm_cls (o + 1) = 100 ∧ mm_len (o + 1) = 6
def t_Win_begin : mmT := fun as M Q => match as with
  | [.inr (.inr o)] => isW o ∧ ∀ M', (∀ o', o' ≠ o → M' o' = M o') → M' o 1 = 0 → M' o 2 = -1 → M' o 3 = 0 → M' o 4 = 0 → M' o 5 = 0 → M' o 6 = 0 → Q none M'
  | _ => False
set_option maxHeartbeats 4000000 in
set_option maxRecDepth 100000 in
theorem p_Win_begin : ∀ as M Q, (∀ v ∈ as, mm_vin v) → mm_mem M → t_Win_begin as M Q → (mm_ent as).length ≤ 1 ∧ mm_ok mb_Win_begin [] (mm_entry 1 as) M Q := by
  intro as M Q hin hM h
  unfold t_Win_begin at h
  split at h
  rotate_left
  · exact h.elim
  rename_i o
  refine ⟨by simp [mm_ent], (show mm_ok mb_Win_begin [] [some (vr o)] M Q from ?_)⟩
  intro J hJ
  obtain ⟨⟨ho, h1, h2⟩, h⟩ := h
  refine hJ 0 _ _ _ (show mm_wp _ _ _ mo_Win_begin_0 _ _ _ from ?_)
  simp only [mo_Win_begin_0, mm_wp, mm_ldi, mm_lda, mm_ldl, mm_sti, mm_sta, mm_stl, mm_inc, mm_2i, mm_mm, mm_2l, mm_lcmp, mm_i2l, mm_l2i, mm_cast8, mm_if1, mm_if2, mm_cmp, mm_swi, mm_sw, mm_pop1, mm_dup, mm_dup2, mm_geti, mm_geta, mm_puti, mm_iald, mm_bald, mm_aald, mm_iast, mm_bast, mm_alen, mm_acpy, mm_call, mm_callv, mm_recv, mm_pop, mm_find, mm_push, mm_cats, mm_cat, mm_reti, mm_retz, mm_retl, mm_reta, mm_retv, mm_set1, mm_set2, mm_kill, List.getElem?_cons_zero, List.getElem?_cons_succ, Int.reduceToNat, ↓reduceIte, Nat.reduceEqDiff, Nat.reduceDiv, Nat.reduceAdd, Nat.reduceLeDiff, Nat.zero_le, true_and, and_true, true_or, or_true, mm_b0, mm_b1, mm_lc_lt, mm_lc_le, mm_lc_gt, mm_lc_ge, mm_lc_eq, Int.not_lt, Int.not_le, Decidable.not_not, Int.sub_neg]
  refine ⟨ho, ho, ho, ho, ho, ho, h _ (fun o' h' => ?_) ?_ ?_ ?_ ?_ ?_ ?_⟩
  · simp only [mm_up_o _ _ h']
  all_goals simp [mm_up]
def t_Win_has : mmT := fun as M Q => match as with
  | [.inr (.inr o), .inl i] => isW o ∧ Q (some (vi (mm_b (M o 1 ≤ i ∧ i ≤ M o 2)))) M
  | _ => False
set_option maxHeartbeats 4000000 in
set_option maxRecDepth 100000 in
theorem p_Win_has : ∀ as M Q, (∀ v ∈ as, mm_vin v) → mm_mem M → t_Win_has as M Q → (mm_ent as).length ≤ 2 ∧ mm_ok mb_Win_has [] (mm_entry 2 as) M Q := by
  intro as M Q hin hM h
  unfold t_Win_has at h
  split at h
  rotate_left
  · exact h.elim
  rename_i o i
  have hR_i : mm_R i := hin (vi i) (by simp)
  refine ⟨by simp [mm_ent], (show mm_ok mb_Win_has [] [some (vr o), some (vi i)] M Q from ?_)⟩
  intro J hJ
  obtain ⟨⟨ho, h1, h2⟩, h⟩ := h
  repeat' first | (refine And.intro ?_ ?_) | (intro _) | (refine hJ 0 _ _ _ ?_; show mm_wp _ _ _ mo_Win_has_0 _ _ _; simp only [mo_Win_has_0, mm_wp, mm_ldi, mm_lda, mm_ldl, mm_sti, mm_sta, mm_stl, mm_inc, mm_2i, mm_mm, mm_2l, mm_lcmp, mm_i2l, mm_l2i, mm_cast8, mm_if1, mm_if2, mm_cmp, mm_swi, mm_sw, mm_pop1, mm_dup, mm_dup2, mm_geti, mm_geta, mm_puti, mm_iald, mm_bald, mm_aald, mm_iast, mm_bast, mm_alen, mm_acpy, mm_call, mm_callv, mm_recv, mm_pop, mm_find, mm_push, mm_cats, mm_cat, mm_reti, mm_retz, mm_retl, mm_reta, mm_retv, mm_set1, mm_set2, mm_kill, List.getElem?_cons_zero, List.getElem?_cons_succ, Int.reduceToNat, ↓reduceIte, Nat.reduceEqDiff, Nat.reduceDiv, Nat.reduceAdd, Nat.reduceLeDiff, Nat.zero_le, true_and, and_true, true_or, or_true, mm_b0, mm_b1, mm_lc_lt, mm_lc_le, mm_lc_gt, mm_lc_ge, mm_lc_eq, Int.not_lt, Int.not_le, Decidable.not_not, Int.sub_neg]) | (refine hJ 20 _ _ _ ?_; show mm_wp _ _ _ mo_Win_has_20 _ _ _; simp only [mo_Win_has_20, mm_wp, mm_ldi, mm_lda, mm_ldl, mm_sti, mm_sta, mm_stl, mm_inc, mm_2i, mm_mm, mm_2l, mm_lcmp, mm_i2l, mm_l2i, mm_cast8, mm_if1, mm_if2, mm_cmp, mm_swi, mm_sw, mm_pop1, mm_dup, mm_dup2, mm_geti, mm_geta, mm_puti, mm_iald, mm_bald, mm_aald, mm_iast, mm_bast, mm_alen, mm_acpy, mm_call, mm_callv, mm_recv, mm_pop, mm_find, mm_push, mm_cats, mm_cat, mm_reti, mm_retz, mm_retl, mm_reta, mm_retv, mm_set1, mm_set2, mm_kill, List.getElem?_cons_zero, List.getElem?_cons_succ, Int.reduceToNat, ↓reduceIte, Nat.reduceEqDiff, Nat.reduceDiv, Nat.reduceAdd, Nat.reduceLeDiff, Nat.zero_le, true_and, and_true, true_or, or_true, mm_b0, mm_b1, mm_lc_lt, mm_lc_le, mm_lc_gt, mm_lc_ge, mm_lc_eq, Int.not_lt, Int.not_le, Decidable.not_not, Int.sub_neg]) | (refine hJ 21 _ _ _ ?_; show mm_wp _ _ _ mo_Win_has_21 _ _ _; simp only [mo_Win_has_21, mm_wp, mm_ldi, mm_lda, mm_ldl, mm_sti, mm_sta, mm_stl, mm_inc, mm_2i, mm_mm, mm_2l, mm_lcmp, mm_i2l, mm_l2i, mm_cast8, mm_if1, mm_if2, mm_cmp, mm_swi, mm_sw, mm_pop1, mm_dup, mm_dup2, mm_geti, mm_geta, mm_puti, mm_iald, mm_bald, mm_aald, mm_iast, mm_bast, mm_alen, mm_acpy, mm_call, mm_callv, mm_recv, mm_pop, mm_find, mm_push, mm_cats, mm_cat, mm_reti, mm_retz, mm_retl, mm_reta, mm_retv, mm_set1, mm_set2, mm_kill, List.getElem?_cons_zero, List.getElem?_cons_succ, Int.reduceToNat, ↓reduceIte, Nat.reduceEqDiff, Nat.reduceDiv, Nat.reduceAdd, Nat.reduceLeDiff, Nat.zero_le, true_and, and_true, true_or, or_true, mm_b0, mm_b1, mm_lc_lt, mm_lc_le, mm_lc_gt, mm_lc_ge, mm_lc_eq, Int.not_lt, Int.not_le, Decidable.not_not, Int.sub_neg])
  all_goals first | assumption | (exact Or.inl rfl) | (exact Or.inr rfl) | (exact rfl) | trivial | omega | (rw [mm_bF (by omega)] at h; exact h) | (rw [mm_bT (by omega)] at h; exact h)
def t_Win_cost : mmT := fun as M Q => match as with
  | [.inr (.inr o), .inl w] => isW o ∧ 0 ≤ w ∧ w ≤ 9 ∧ 0 ≤ M o 4 ∧ M o 4 ≤ 100000000 ∧ 0 ≤ M o 5 ∧ M o 5 ≤ 100000000 ∧ Q (some (vi (M o 4 + w * M o 5))) M
  | _ => False
set_option maxHeartbeats 4000000 in
set_option maxRecDepth 100000 in
theorem p_Win_cost : ∀ as M Q, (∀ v ∈ as, mm_vin v) → mm_mem M → t_Win_cost as M Q → (mm_ent as).length ≤ 2 ∧ mm_ok mb_Win_cost [] (mm_entry 2 as) M Q := by
  intro as M Q hin hM h
  unfold t_Win_cost at h
  split at h
  rotate_left
  · exact h.elim
  rename_i o w
  have hR_w : mm_R w := hin (vi w) (by simp)
  refine ⟨by simp [mm_ent], (show mm_ok mb_Win_cost [] [some (vr o), some (vi w)] M Q from ?_)⟩
  intro J hJ
  obtain ⟨⟨ho, h1, h2⟩, a1, a2, a3, a4, a5, a6, h⟩ := h
  have b1 : 0 ≤ w * M o 5 := Int.mul_nonneg a1 a5
  have b2 : w * M o 5 ≤ 9 * 100000000 := Int.mul_le_mul a2 a6 a5 (by omega)
  repeat' first | (refine And.intro ?_ ?_) | (intro _) | (refine hJ 0 _ _ _ ?_; show mm_wp _ _ _ mo_Win_cost_0 _ _ _; simp only [mo_Win_cost_0, mm_wp, mm_ldi, mm_lda, mm_ldl, mm_sti, mm_sta, mm_stl, mm_inc, mm_2i, mm_mm, mm_2l, mm_lcmp, mm_i2l, mm_l2i, mm_cast8, mm_if1, mm_if2, mm_cmp, mm_swi, mm_sw, mm_pop1, mm_dup, mm_dup2, mm_geti, mm_geta, mm_puti, mm_iald, mm_bald, mm_aald, mm_iast, mm_bast, mm_alen, mm_acpy, mm_call, mm_callv, mm_recv, mm_pop, mm_find, mm_push, mm_cats, mm_cat, mm_reti, mm_retz, mm_retl, mm_reta, mm_retv, mm_set1, mm_set2, mm_kill, List.getElem?_cons_zero, List.getElem?_cons_succ, Int.reduceToNat, ↓reduceIte, Nat.reduceEqDiff, Nat.reduceDiv, Nat.reduceAdd, Nat.reduceLeDiff, Nat.zero_le, true_and, and_true, true_or, or_true, mm_b0, mm_b1, mm_lc_lt, mm_lc_le, mm_lc_gt, mm_lc_ge, mm_lc_eq, Int.not_lt, Int.not_le, Decidable.not_not, Int.sub_neg])
  all_goals first | assumption | (exact Or.inl rfl) | (exact Or.inr rfl) | (exact rfl) | trivial | omega
/-- where a window stands, within bounds -/
def wB (M : mmM) (o : Nat) : Prop := 0 ≤ M o 1 ∧ M o 1 ≤ 60 ∧ -1 ≤ M o 2 ∧ M o 2 ≤ 60 ∧ 0 ≤ M o 3 ∧ M o 3 ≤ 32
def t_Win_aim : mmT := fun as M Q => match as with
  | [.inr (.inr o), .inl f, .inl l, .inl t] => isW o ∧ wB M o ∧ (0 ≤ f ∧ f ≤ 60 ∧ 0 ≤ l ∧ l ≤ 60 ∧ 0 ≤ t ∧ t ≤ 32) ∧ ∀ M', (∀ o', o' ≠ o + 1 → M' o' = M o') → M' (o + 1) 0 = max 0 (M o 1 - f) → M' (o + 1) 1 = max 0 (l - M o 2) → M' (o + 1) 2 = max 0 (f - M o 1) → M' (o + 1) 3 = max 0 (M o 2 - l) → M' (o + 1) 4 = max 0 (t - M o 3) → M' (o + 1) 5 = max 0 (M o 3 - t) → Q none M'
  | _ => False
set_option maxHeartbeats 4000000 in
set_option maxRecDepth 100000 in
theorem p_Win_aim : ∀ as M Q, (∀ v ∈ as, mm_vin v) → mm_mem M → t_Win_aim as M Q → (mm_ent as).length ≤ 4 ∧ mm_ok mb_Win_aim [] (mm_entry 4 as) M Q := by
  intro as M Q hin hM h
  unfold t_Win_aim at h
  split at h
  rotate_left
  · exact h.elim
  rename_i o f l t
  have hR_f : mm_R f := hin (vi f) (by simp)
  have hR_l : mm_R l := hin (vi l) (by simp)
  have hR_t : mm_R t := hin (vi t) (by simp)
  refine ⟨by simp [mm_ent], (show mm_ok mb_Win_aim [] [some (vr o), some (vi f), some (vi l), some (vi t)] M Q from ?_)⟩
  intro J hJ
  obtain ⟨⟨ho, h1, h2⟩, hw, hb, h⟩ := h
  obtain ⟨w1, w2, w3, w4, w5, w6⟩ := hw
  have e : ∀ (M1 : mmM) (i v : Int), mm_up M1 (o + 1) i v o = M1 o := fun M1 i v => mm_up_o _ _ (by omega)
  refine hJ 0 _ _ _ (show mm_wp _ _ _ mo_Win_aim_0 _ _ _ from ?_)
  simp only [mo_Win_aim_0, mm_wp, mm_ldi, mm_lda, mm_ldl, mm_sti, mm_sta, mm_stl, mm_inc, mm_2i, mm_mm, mm_2l, mm_lcmp, mm_i2l, mm_l2i, mm_cast8, mm_if1, mm_if2, mm_cmp, mm_swi, mm_sw, mm_pop1, mm_dup, mm_dup2, mm_geti, mm_geta, mm_puti, mm_iald, mm_bald, mm_aald, mm_iast, mm_bast, mm_alen, mm_acpy, mm_call, mm_callv, mm_recv, mm_pop, mm_find, mm_push, mm_cats, mm_cat, mm_reti, mm_retz, mm_retl, mm_reta, mm_retv, mm_set1, mm_set2, mm_kill, List.getElem?_cons_zero, List.getElem?_cons_succ, Int.reduceToNat, ↓reduceIte, Nat.reduceEqDiff, Nat.reduceDiv, Nat.reduceAdd, Nat.reduceLeDiff, Nat.zero_le, true_and, and_true, true_or, or_true, mm_b0, mm_b1, mm_lc_lt, mm_lc_le, mm_lc_gt, mm_lc_ge, mm_lc_eq, Int.not_lt, Int.not_le, Decidable.not_not, Int.sub_neg, e, ho, h1, h2]
  refine ⟨by omega, by omega, by omega, by omega, by omega, by omega, by omega, by omega, by omega, by omega, by omega, by omega, h _ (fun o' h' => ?_) ?_ ?_ ?_ ?_ ?_ ?_⟩
  · simp only [mm_up_o _ _ h']
  all_goals simp [mm_up]
/-- what shift does: the field that kind names, and ends or turns -/
def wSh (M : mmM) (o : Nat) (k n : Int) : mmM :=
  if k = 0 then mm_up (mm_up M o 1 (M o 1 - n)) o 4 (M o 4 + n)
  else if k = 1 then mm_up (mm_up M o 2 (M o 2 + n)) o 4 (M o 4 + n)
  else if k = 2 then mm_up (mm_up M o 1 (M o 1 + n)) o 4 (M o 4 + n)
  else if k = 3 then mm_up (mm_up M o 2 (M o 2 - n)) o 4 (M o 4 + n)
  else if k = 4 then mm_up (mm_up M o 3 (M o 3 + n)) o 5 (M o 5 + n)
  else mm_up (mm_up M o 3 (M o 3 - n)) o 5 (M o 5 + n)
def t_Win_shift : mmT := fun as M Q => match as with
  | [.inr (.inr o), .inl k, .inl n] => isW o ∧ (0 ≤ k ∧ k ≤ 5 ∧ -100 ≤ n ∧ n ≤ 100 ∧ -100 ≤ M o 1 ∧ M o 1 ≤ 100 ∧ -100 ≤ M o 2 ∧ M o 2 ≤ 100 ∧ -100 ≤ M o 3 ∧ M o 3 ≤ 100 ∧ 0 ≤ M o 4 ∧ M o 4 ≤ 100000000 ∧ 0 ≤ M o 5 ∧ M o 5 ≤ 100000000) ∧ Q (some (vi n)) (wSh M o k n)
  | _ => False
set_option maxHeartbeats 4000000 in
set_option maxRecDepth 100000 in
theorem p_Win_shift : ∀ as M Q, (∀ v ∈ as, mm_vin v) → mm_mem M → t_Win_shift as M Q → (mm_ent as).length ≤ 3 ∧ mm_ok mb_Win_shift [] (mm_entry 3 as) M Q := by
  intro as M Q hin hM h
  unfold t_Win_shift at h
  split at h
  rotate_left
  · exact h.elim
  rename_i o k n
  have hR_k : mm_R k := hin (vi k) (by simp)
  have hR_n : mm_R n := hin (vi n) (by simp)
  refine ⟨by simp [mm_ent], (show mm_ok mb_Win_shift [] [some (vr o), some (vi k), some (vi n)] M Q from ?_)⟩
  intro J hJ
  obtain ⟨⟨ho, h1, h2⟩, hb, h⟩ := h
  have e4 : ∀ v : Int, mm_up M o 1 v o 4 = M o 4 ∧ mm_up M o 2 v o 4 = M o 4 ∧ mm_up M o 3 v o 5 = M o 5 := fun v => ⟨mm_up_i _ (by decide), mm_up_i _ (by decide), mm_up_i _ (by decide)⟩
  have hk : k = 0 ∨ k = 1 ∨ k = 2 ∨ k = 3 ∨ k = 4 ∨ k = 5 := by omega
  rcases hk with rfl | rfl | rfl | rfl | rfl | rfl <;> simp only [wSh, Int.reduceEq, ↓reduceIte] at h
  all_goals
    repeat' first | (refine And.intro ?_ ?_) | (intro _) | (refine hJ 0 _ _ _ ?_; show mm_wp _ _ _ mo_Win_shift_0 _ _ _; simp only [mo_Win_shift_0, mm_wp, mm_ldi, mm_lda, mm_ldl, mm_sti, mm_sta, mm_stl, mm_inc, mm_2i, mm_mm, mm_2l, mm_lcmp, mm_i2l, mm_l2i, mm_cast8, mm_if1, mm_if2, mm_cmp, mm_swi, mm_sw, mm_pop1, mm_dup, mm_dup2, mm_geti, mm_geta, mm_puti, mm_iald, mm_bald, mm_aald, mm_iast, mm_bast, mm_alen, mm_acpy, mm_call, mm_callv, mm_recv, mm_pop, mm_find, mm_push, mm_cats, mm_cat, mm_reti, mm_retz, mm_retl, mm_reta, mm_retv, mm_set1, mm_set2, mm_kill, List.getElem?_cons_zero, List.getElem?_cons_succ, Int.reduceToNat, ↓reduceIte, Nat.reduceEqDiff, Nat.reduceDiv, Nat.reduceAdd, Nat.reduceLeDiff, Nat.zero_le, true_and, and_true, true_or, or_true, mm_b0, mm_b1, mm_lc_lt, mm_lc_le, mm_lc_gt, mm_lc_ge, mm_lc_eq, Int.not_lt, Int.not_le, Decidable.not_not, Int.sub_neg, ho, (e4 _).1, (e4 _).2.1, (e4 _).2.2, Int.reduceEq, not_true_eq_false, not_false_eq_true, forall_const, false_implies, implies_true]) | (refine hJ 36 _ _ _ ?_; show mm_wp _ _ _ mo_Win_shift_36 _ _ _; simp only [mo_Win_shift_36, mm_wp, mm_ldi, mm_lda, mm_ldl, mm_sti, mm_sta, mm_stl, mm_inc, mm_2i, mm_mm, mm_2l, mm_lcmp, mm_i2l, mm_l2i, mm_cast8, mm_if1, mm_if2, mm_cmp, mm_swi, mm_sw, mm_pop1, mm_dup, mm_dup2, mm_geti, mm_geta, mm_puti, mm_iald, mm_bald, mm_aald, mm_iast, mm_bast, mm_alen, mm_acpy, mm_call, mm_callv, mm_recv, mm_pop, mm_find, mm_push, mm_cats, mm_cat, mm_reti, mm_retz, mm_retl, mm_reta, mm_retv, mm_set1, mm_set2, mm_kill, List.getElem?_cons_zero, List.getElem?_cons_succ, Int.reduceToNat, ↓reduceIte, Nat.reduceEqDiff, Nat.reduceDiv, Nat.reduceAdd, Nat.reduceLeDiff, Nat.zero_le, true_and, and_true, true_or, or_true, mm_b0, mm_b1, mm_lc_lt, mm_lc_le, mm_lc_gt, mm_lc_ge, mm_lc_eq, Int.not_lt, Int.not_le, Decidable.not_not, Int.sub_neg, ho, (e4 _).1, (e4 _).2.1, (e4 _).2.2, Int.reduceEq, not_true_eq_false, not_false_eq_true, forall_const, false_implies, implies_true]) | (refine hJ 49 _ _ _ ?_; show mm_wp _ _ _ mo_Win_shift_49 _ _ _; simp only [mo_Win_shift_49, mm_wp, mm_ldi, mm_lda, mm_ldl, mm_sti, mm_sta, mm_stl, mm_inc, mm_2i, mm_mm, mm_2l, mm_lcmp, mm_i2l, mm_l2i, mm_cast8, mm_if1, mm_if2, mm_cmp, mm_swi, mm_sw, mm_pop1, mm_dup, mm_dup2, mm_geti, mm_geta, mm_puti, mm_iald, mm_bald, mm_aald, mm_iast, mm_bast, mm_alen, mm_acpy, mm_call, mm_callv, mm_recv, mm_pop, mm_find, mm_push, mm_cats, mm_cat, mm_reti, mm_retz, mm_retl, mm_reta, mm_retv, mm_set1, mm_set2, mm_kill, List.getElem?_cons_zero, List.getElem?_cons_succ, Int.reduceToNat, ↓reduceIte, Nat.reduceEqDiff, Nat.reduceDiv, Nat.reduceAdd, Nat.reduceLeDiff, Nat.zero_le, true_and, and_true, true_or, or_true, mm_b0, mm_b1, mm_lc_lt, mm_lc_le, mm_lc_gt, mm_lc_ge, mm_lc_eq, Int.not_lt, Int.not_le, Decidable.not_not, Int.sub_neg, ho, (e4 _).1, (e4 _).2.1, (e4 _).2.2, Int.reduceEq, not_true_eq_false, not_false_eq_true, forall_const, false_implies, implies_true]) | (refine hJ 62 _ _ _ ?_; show mm_wp _ _ _ mo_Win_shift_62 _ _ _; simp only [mo_Win_shift_62, mm_wp, mm_ldi, mm_lda, mm_ldl, mm_sti, mm_sta, mm_stl, mm_inc, mm_2i, mm_mm, mm_2l, mm_lcmp, mm_i2l, mm_l2i, mm_cast8, mm_if1, mm_if2, mm_cmp, mm_swi, mm_sw, mm_pop1, mm_dup, mm_dup2, mm_geti, mm_geta, mm_puti, mm_iald, mm_bald, mm_aald, mm_iast, mm_bast, mm_alen, mm_acpy, mm_call, mm_callv, mm_recv, mm_pop, mm_find, mm_push, mm_cats, mm_cat, mm_reti, mm_retz, mm_retl, mm_reta, mm_retv, mm_set1, mm_set2, mm_kill, List.getElem?_cons_zero, List.getElem?_cons_succ, Int.reduceToNat, ↓reduceIte, Nat.reduceEqDiff, Nat.reduceDiv, Nat.reduceAdd, Nat.reduceLeDiff, Nat.zero_le, true_and, and_true, true_or, or_true, mm_b0, mm_b1, mm_lc_lt, mm_lc_le, mm_lc_gt, mm_lc_ge, mm_lc_eq, Int.not_lt, Int.not_le, Decidable.not_not, Int.sub_neg, ho, (e4 _).1, (e4 _).2.1, (e4 _).2.2, Int.reduceEq, not_true_eq_false, not_false_eq_true, forall_const, false_implies, implies_true]) | (refine hJ 75 _ _ _ ?_; show mm_wp _ _ _ mo_Win_shift_75 _ _ _; simp only [mo_Win_shift_75, mm_wp, mm_ldi, mm_lda, mm_ldl, mm_sti, mm_sta, mm_stl, mm_inc, mm_2i, mm_mm, mm_2l, mm_lcmp, mm_i2l, mm_l2i, mm_cast8, mm_if1, mm_if2, mm_cmp, mm_swi, mm_sw, mm_pop1, mm_dup, mm_dup2, mm_geti, mm_geta, mm_puti, mm_iald, mm_bald, mm_aald, mm_iast, mm_bast, mm_alen, mm_acpy, mm_call, mm_callv, mm_recv, mm_pop, mm_find, mm_push, mm_cats, mm_cat, mm_reti, mm_retz, mm_retl, mm_reta, mm_retv, mm_set1, mm_set2, mm_kill, List.getElem?_cons_zero, List.getElem?_cons_succ, Int.reduceToNat, ↓reduceIte, Nat.reduceEqDiff, Nat.reduceDiv, Nat.reduceAdd, Nat.reduceLeDiff, Nat.zero_le, true_and, and_true, true_or, or_true, mm_b0, mm_b1, mm_lc_lt, mm_lc_le, mm_lc_gt, mm_lc_ge, mm_lc_eq, Int.not_lt, Int.not_le, Decidable.not_not, Int.sub_neg, ho, (e4 _).1, (e4 _).2.1, (e4 _).2.2, Int.reduceEq, not_true_eq_false, not_false_eq_true, forall_const, false_implies, implies_true]) | (refine hJ 88 _ _ _ ?_; show mm_wp _ _ _ mo_Win_shift_88 _ _ _; simp only [mo_Win_shift_88, mm_wp, mm_ldi, mm_lda, mm_ldl, mm_sti, mm_sta, mm_stl, mm_inc, mm_2i, mm_mm, mm_2l, mm_lcmp, mm_i2l, mm_l2i, mm_cast8, mm_if1, mm_if2, mm_cmp, mm_swi, mm_sw, mm_pop1, mm_dup, mm_dup2, mm_geti, mm_geta, mm_puti, mm_iald, mm_bald, mm_aald, mm_iast, mm_bast, mm_alen, mm_acpy, mm_call, mm_callv, mm_recv, mm_pop, mm_find, mm_push, mm_cats, mm_cat, mm_reti, mm_retz, mm_retl, mm_reta, mm_retv, mm_set1, mm_set2, mm_kill, List.getElem?_cons_zero, List.getElem?_cons_succ, Int.reduceToNat, ↓reduceIte, Nat.reduceEqDiff, Nat.reduceDiv, Nat.reduceAdd, Nat.reduceLeDiff, Nat.zero_le, true_and, and_true, true_or, or_true, mm_b0, mm_b1, mm_lc_lt, mm_lc_le, mm_lc_gt, mm_lc_ge, mm_lc_eq, Int.not_lt, Int.not_le, Decidable.not_not, Int.sub_neg, ho, (e4 _).1, (e4 _).2.1, (e4 _).2.2, Int.reduceEq, not_true_eq_false, not_false_eq_true, forall_const, false_implies, implies_true]) | (refine hJ 101 _ _ _ ?_; show mm_wp _ _ _ mo_Win_shift_101 _ _ _; simp only [mo_Win_shift_101, mm_wp, mm_ldi, mm_lda, mm_ldl, mm_sti, mm_sta, mm_stl, mm_inc, mm_2i, mm_mm, mm_2l, mm_lcmp, mm_i2l, mm_l2i, mm_cast8, mm_if1, mm_if2, mm_cmp, mm_swi, mm_sw, mm_pop1, mm_dup, mm_dup2, mm_geti, mm_geta, mm_puti, mm_iald, mm_bald, mm_aald, mm_iast, mm_bast, mm_alen, mm_acpy, mm_call, mm_callv, mm_recv, mm_pop, mm_find, mm_push, mm_cats, mm_cat, mm_reti, mm_retz, mm_retl, mm_reta, mm_retv, mm_set1, mm_set2, mm_kill, List.getElem?_cons_zero, List.getElem?_cons_succ, Int.reduceToNat, ↓reduceIte, Nat.reduceEqDiff, Nat.reduceDiv, Nat.reduceAdd, Nat.reduceLeDiff, Nat.zero_le, true_and, and_true, true_or, or_true, mm_b0, mm_b1, mm_lc_lt, mm_lc_le, mm_lc_gt, mm_lc_ge, mm_lc_eq, Int.not_lt, Int.not_le, Decidable.not_not, Int.sub_neg, ho, (e4 _).1, (e4 _).2.1, (e4 _).2.2, Int.reduceEq, not_true_eq_false, not_false_eq_true, forall_const, false_implies, implies_true]) | (refine hJ 111 _ _ _ ?_; show mm_wp _ _ _ mo_Win_shift_111 _ _ _; simp only [mo_Win_shift_111, mm_wp, mm_ldi, mm_lda, mm_ldl, mm_sti, mm_sta, mm_stl, mm_inc, mm_2i, mm_mm, mm_2l, mm_lcmp, mm_i2l, mm_l2i, mm_cast8, mm_if1, mm_if2, mm_cmp, mm_swi, mm_sw, mm_pop1, mm_dup, mm_dup2, mm_geti, mm_geta, mm_puti, mm_iald, mm_bald, mm_aald, mm_iast, mm_bast, mm_alen, mm_acpy, mm_call, mm_callv, mm_recv, mm_pop, mm_find, mm_push, mm_cats, mm_cat, mm_reti, mm_retz, mm_retl, mm_reta, mm_retv, mm_set1, mm_set2, mm_kill, List.getElem?_cons_zero, List.getElem?_cons_succ, Int.reduceToNat, ↓reduceIte, Nat.reduceEqDiff, Nat.reduceDiv, Nat.reduceAdd, Nat.reduceLeDiff, Nat.zero_le, true_and, and_true, true_or, or_true, mm_b0, mm_b1, mm_lc_lt, mm_lc_le, mm_lc_gt, mm_lc_ge, mm_lc_eq, Int.not_lt, Int.not_le, Decidable.not_not, Int.sub_neg, ho, (e4 _).1, (e4 _).2.1, (e4 _).2.2, Int.reduceEq, not_true_eq_false, not_false_eq_true, forall_const, false_implies, implies_true]) | (refine hJ 121 _ _ _ ?_; show mm_wp _ _ _ mo_Win_shift_121 _ _ _; simp only [mo_Win_shift_121, mm_wp, mm_ldi, mm_lda, mm_ldl, mm_sti, mm_sta, mm_stl, mm_inc, mm_2i, mm_mm, mm_2l, mm_lcmp, mm_i2l, mm_l2i, mm_cast8, mm_if1, mm_if2, mm_cmp, mm_swi, mm_sw, mm_pop1, mm_dup, mm_dup2, mm_geti, mm_geta, mm_puti, mm_iald, mm_bald, mm_aald, mm_iast, mm_bast, mm_alen, mm_acpy, mm_call, mm_callv, mm_recv, mm_pop, mm_find, mm_push, mm_cats, mm_cat, mm_reti, mm_retz, mm_retl, mm_reta, mm_retv, mm_set1, mm_set2, mm_kill, List.getElem?_cons_zero, List.getElem?_cons_succ, Int.reduceToNat, ↓reduceIte, Nat.reduceEqDiff, Nat.reduceDiv, Nat.reduceAdd, Nat.reduceLeDiff, Nat.zero_le, true_and, and_true, true_or, or_true, mm_b0, mm_b1, mm_lc_lt, mm_lc_le, mm_lc_gt, mm_lc_ge, mm_lc_eq, Int.not_lt, Int.not_le, Decidable.not_not, Int.sub_neg, ho, (e4 _).1, (e4 _).2.1, (e4 _).2.2, Int.reduceEq, not_true_eq_false, not_false_eq_true, forall_const, false_implies, implies_true]) | (refine hJ 134 _ _ _ ?_; show mm_wp _ _ _ mo_Win_shift_134 _ _ _; simp only [mo_Win_shift_134, mm_wp, mm_ldi, mm_lda, mm_ldl, mm_sti, mm_sta, mm_stl, mm_inc, mm_2i, mm_mm, mm_2l, mm_lcmp, mm_i2l, mm_l2i, mm_cast8, mm_if1, mm_if2, mm_cmp, mm_swi, mm_sw, mm_pop1, mm_dup, mm_dup2, mm_geti, mm_geta, mm_puti, mm_iald, mm_bald, mm_aald, mm_iast, mm_bast, mm_alen, mm_acpy, mm_call, mm_callv, mm_recv, mm_pop, mm_find, mm_push, mm_cats, mm_cat, mm_reti, mm_retz, mm_retl, mm_reta, mm_retv, mm_set1, mm_set2, mm_kill, List.getElem?_cons_zero, List.getElem?_cons_succ, Int.reduceToNat, ↓reduceIte, Nat.reduceEqDiff, Nat.reduceDiv, Nat.reduceAdd, Nat.reduceLeDiff, Nat.zero_le, true_and, and_true, true_or, or_true, mm_b0, mm_b1, mm_lc_lt, mm_lc_le, mm_lc_gt, mm_lc_ge, mm_lc_eq, Int.not_lt, Int.not_le, Decidable.not_not, Int.sub_neg, ho, (e4 _).1, (e4 _).2.1, (e4 _).2.2, Int.reduceEq, not_true_eq_false, not_false_eq_true, forall_const, false_implies, implies_true]) | (refine hJ 144 _ _ _ ?_; show mm_wp _ _ _ mo_Win_shift_144 _ _ _; simp only [mo_Win_shift_144, mm_wp, mm_ldi, mm_lda, mm_ldl, mm_sti, mm_sta, mm_stl, mm_inc, mm_2i, mm_mm, mm_2l, mm_lcmp, mm_i2l, mm_l2i, mm_cast8, mm_if1, mm_if2, mm_cmp, mm_swi, mm_sw, mm_pop1, mm_dup, mm_dup2, mm_geti, mm_geta, mm_puti, mm_iald, mm_bald, mm_aald, mm_iast, mm_bast, mm_alen, mm_acpy, mm_call, mm_callv, mm_recv, mm_pop, mm_find, mm_push, mm_cats, mm_cat, mm_reti, mm_retz, mm_retl, mm_reta, mm_retv, mm_set1, mm_set2, mm_kill, List.getElem?_cons_zero, List.getElem?_cons_succ, Int.reduceToNat, ↓reduceIte, Nat.reduceEqDiff, Nat.reduceDiv, Nat.reduceAdd, Nat.reduceLeDiff, Nat.zero_le, true_and, and_true, true_or, or_true, mm_b0, mm_b1, mm_lc_lt, mm_lc_le, mm_lc_gt, mm_lc_ge, mm_lc_eq, Int.not_lt, Int.not_le, Decidable.not_not, Int.sub_neg, ho, (e4 _).1, (e4 _).2.1, (e4 _).2.2, Int.reduceEq, not_true_eq_false, not_false_eq_true, forall_const, false_implies, implies_true])
    all_goals first | assumption | (exact Or.inl rfl) | (exact Or.inr rfl) | (exact rfl) | trivial | omega
def t_Win_distance : mmT := fun as M Q => match as with
  | [.inr (.inr o)] => isW o ∧ (∀ k, 0 ≤ k → k < 6 → 0 ≤ M (o + 1) k ∧ M (o + 1) k ≤ 100) ∧ Q (some (vi (M (o + 1) 0 + M (o + 1) 1 + M (o + 1) 2 + M (o + 1) 3 + M (o + 1) 4 + M (o + 1) 5))) M
  | _ => False
set_option maxHeartbeats 4000000 in
set_option maxRecDepth 100000 in
theorem p_Win_distance : ∀ as M Q, (∀ v ∈ as, mm_vin v) → mm_mem M → t_Win_distance as M Q → (mm_ent as).length ≤ 3 ∧ mm_ok mb_Win_distance [] (mm_entry 3 as) M Q := by
  intro as M Q hin hM h
  unfold t_Win_distance at h
  split at h
  rotate_left
  · exact h.elim
  rename_i o
  refine ⟨by simp [mm_ent], (show mm_ok mb_Win_distance [] [some (vr o), none, none] M Q from ?_)⟩
  intro J hJ
  obtain ⟨⟨ho, h1, h2⟩, hb, h⟩ := h
  have b0 := hb 0 (by decide) (by decide)
  have b1 := hb 1 (by decide) (by decide)
  have b2 := hb 2 (by decide) (by decide)
  have b3 := hb 3 (by decide) (by decide)
  have b4 := hb 4 (by decide) (by decide)
  have b5 := hb 5 (by decide) (by decide)
  repeat' first | (refine And.intro ?_ ?_) | (intro _) | (refine hJ 0 _ _ _ ?_; show mm_wp _ _ _ mo_Win_distance_0 _ _ _; simp only [mo_Win_distance_0, mm_wp, mm_ldi, mm_lda, mm_ldl, mm_sti, mm_sta, mm_stl, mm_inc, mm_2i, mm_mm, mm_2l, mm_lcmp, mm_i2l, mm_l2i, mm_cast8, mm_if1, mm_if2, mm_cmp, mm_swi, mm_sw, mm_pop1, mm_dup, mm_dup2, mm_geti, mm_geta, mm_puti, mm_iald, mm_bald, mm_aald, mm_iast, mm_bast, mm_alen, mm_acpy, mm_call, mm_callv, mm_recv, mm_pop, mm_find, mm_push, mm_cats, mm_cat, mm_reti, mm_retz, mm_retl, mm_reta, mm_retv, mm_set1, mm_set2, mm_kill, List.getElem?_cons_zero, List.getElem?_cons_succ, Int.reduceToNat, ↓reduceIte, Nat.reduceEqDiff, Nat.reduceDiv, Nat.reduceAdd, Nat.reduceLeDiff, Nat.zero_le, true_and, and_true, true_or, or_true, mm_b0, mm_b1, mm_lc_lt, mm_lc_le, mm_lc_gt, mm_lc_ge, mm_lc_eq, Int.not_lt, Int.not_le, Decidable.not_not, Int.sub_neg, ho, h1, h2, Int.reduceLT, Int.reduceLE, Int.reduceAdd, Int.zero_add, not_true_eq_false, not_false_eq_true, forall_const, false_implies, implies_true, Int.reduceNeg]) | (refine hJ 4 _ _ _ ?_; show mm_wp _ _ _ mo_Win_distance_4 _ _ _; simp only [mo_Win_distance_4, mm_wp, mm_ldi, mm_lda, mm_ldl, mm_sti, mm_sta, mm_stl, mm_inc, mm_2i, mm_mm, mm_2l, mm_lcmp, mm_i2l, mm_l2i, mm_cast8, mm_if1, mm_if2, mm_cmp, mm_swi, mm_sw, mm_pop1, mm_dup, mm_dup2, mm_geti, mm_geta, mm_puti, mm_iald, mm_bald, mm_aald, mm_iast, mm_bast, mm_alen, mm_acpy, mm_call, mm_callv, mm_recv, mm_pop, mm_find, mm_push, mm_cats, mm_cat, mm_reti, mm_retz, mm_retl, mm_reta, mm_retv, mm_set1, mm_set2, mm_kill, List.getElem?_cons_zero, List.getElem?_cons_succ, Int.reduceToNat, ↓reduceIte, Nat.reduceEqDiff, Nat.reduceDiv, Nat.reduceAdd, Nat.reduceLeDiff, Nat.zero_le, true_and, and_true, true_or, or_true, mm_b0, mm_b1, mm_lc_lt, mm_lc_le, mm_lc_gt, mm_lc_ge, mm_lc_eq, Int.not_lt, Int.not_le, Decidable.not_not, Int.sub_neg, ho, h1, h2, Int.reduceLT, Int.reduceLE, Int.reduceAdd, Int.zero_add, not_true_eq_false, not_false_eq_true, forall_const, false_implies, implies_true, Int.reduceNeg]) | (refine hJ 25 _ _ _ ?_; show mm_wp _ _ _ mo_Win_distance_25 _ _ _; simp only [mo_Win_distance_25, mm_wp, mm_ldi, mm_lda, mm_ldl, mm_sti, mm_sta, mm_stl, mm_inc, mm_2i, mm_mm, mm_2l, mm_lcmp, mm_i2l, mm_l2i, mm_cast8, mm_if1, mm_if2, mm_cmp, mm_swi, mm_sw, mm_pop1, mm_dup, mm_dup2, mm_geti, mm_geta, mm_puti, mm_iald, mm_bald, mm_aald, mm_iast, mm_bast, mm_alen, mm_acpy, mm_call, mm_callv, mm_recv, mm_pop, mm_find, mm_push, mm_cats, mm_cat, mm_reti, mm_retz, mm_retl, mm_reta, mm_retv, mm_set1, mm_set2, mm_kill, List.getElem?_cons_zero, List.getElem?_cons_succ, Int.reduceToNat, ↓reduceIte, Nat.reduceEqDiff, Nat.reduceDiv, Nat.reduceAdd, Nat.reduceLeDiff, Nat.zero_le, true_and, and_true, true_or, or_true, mm_b0, mm_b1, mm_lc_lt, mm_lc_le, mm_lc_gt, mm_lc_ge, mm_lc_eq, Int.not_lt, Int.not_le, Decidable.not_not, Int.sub_neg, ho, h1, h2, Int.reduceLT, Int.reduceLE, Int.reduceAdd, Int.zero_add, not_true_eq_false, not_false_eq_true, forall_const, false_implies, implies_true, Int.reduceNeg])
  all_goals first | assumption | (exact Or.inl rfl) | (exact Or.inr rfl) | (exact rfl) | trivial | omega
def mm_hid (P : Prop) : Prop := P
/-- one more kind's moves p, from M1 to M2 -/
def wStep (o : Nat) (k p : Int) (M1 M2 : mmM) : Prop := (∀ o', o' ≠ o → o' ≠ o + 1 → M2 o' = M1 o') ∧ (∀ j, j ≠ k → M2 (o + 1) j = M1 (o + 1) j) ∧ M2 (o + 1) k = M1 (o + 1) k - p ∧ M2 o 1 = M1 o 1 + (if k = 0 then -p else if k = 2 then p else 0) ∧ M2 o 2 = M1 o 2 + (if k = 1 then p else if k = 3 then -p else 0) ∧ M2 o 3 = M1 o 3 + (if k = 4 then p else if k = 5 then -p else 0) ∧ M2 o 4 = M1 o 4 + (if k ≤ 3 then p else 0) ∧ M2 o 5 = M1 o 5 + (if k ≤ 3 then 0 else p) ∧ M2 o 6 = M1 o 6
theorem wSh_step (M : mmM) (o : Nat) (k p : Int) (h0 : 0 ≤ k) (h5 : k ≤ 5) : wStep o k p M (wSh (mm_up M (o + 1) k (M (o + 1) k - p)) o k p) := by
  have e1 : mm_up M (o + 1) k (M (o + 1) k - p) o = M o := mm_up_o _ _ (by omega)
  have e2 : ∀ (M1 : mmM) (i v : Int), mm_up M1 o i v (o + 1) = M1 (o + 1) := fun M1 i v => mm_up_o _ _ (by omega)
  have hk : k = 0 ∨ k = 1 ∨ k = 2 ∨ k = 3 ∨ k = 4 ∨ k = 5 := by omega
  refine ⟨fun o' g1 g2 => ?_, fun j hj => ?_, ?_, ?_, ?_, ?_, ?_, ?_, ?_⟩
  · rcases hk with rfl | rfl | rfl | rfl | rfl | rfl <;> simp [wSh, mm_up_o _ _ g1, mm_up_o _ _ g2]
  · rcases hk with rfl | rfl | rfl | rfl | rfl | rfl <;> simp [wSh, e2, mm_up_i _ hj]
  · rcases hk with rfl | rfl | rfl | rfl | rfl | rfl <;> simp [wSh, e2, mm_up_s]
  all_goals rcases hk with rfl | rfl | rfl | rfl | rfl | rfl <;> simp [wSh, mm_up_if, e1] <;> omega
/-- how many moves of each kind: as many as lie ahead, as long as the limit lasts -/
def wParts (a0 a1 a2 a3 a4 a5 lim p0 p1 p2 p3 p4 p5 : Int) : Prop := p0 = min a0 lim ∧ p1 = min a1 (lim - p0) ∧ p2 = min a2 (lim - (p0 + p1)) ∧ p3 = min a3 (lim - (p0 + p1 + p2)) ∧ p4 = min a4 (lim - (p0 + p1 + p2 + p3)) ∧ p5 = min a5 (lim - (p0 + p1 + p2 + p3 + p4))
def wMade (o : Nat) (M M' : mmM) (p0 p1 p2 p3 p4 p5 : Int) : Prop := (∀ o', o' ≠ o → o' ≠ o + 1 → M' o' = M o') ∧ M' o 1 = M o 1 - p0 + p2 ∧ M' o 2 = M o 2 + p1 - p3 ∧ M' o 3 = M o 3 + p4 - p5 ∧ M' o 4 = M o 4 + p0 + p1 + p2 + p3 ∧ M' o 5 = M o 5 + p4 + p5 ∧ M' o 6 = M o 6 ∧ M' (o + 1) 0 = M (o + 1) 0 - p0 ∧ M' (o + 1) 1 = M (o + 1) 1 - p1 ∧ M' (o + 1) 2 = M (o + 1) 2 - p2 ∧ M' (o + 1) 3 = M (o + 1) 3 - p3 ∧ M' (o + 1) 4 = M (o + 1) 4 - p4 ∧ M' (o + 1) 5 = M (o + 1) 5 - p5
def t_Win_make : mmT := fun as M Q => match as with
  | [.inr (.inr o), .inl lim] => isW o ∧ 0 ≤ lim ∧ (0 ≤ M (o + 1) 0 ∧ M (o + 1) 0 ≤ 61 ∧ 0 ≤ M (o + 1) 1 ∧ M (o + 1) 1 ≤ 61 ∧ 0 ≤ M (o + 1) 2 ∧ M (o + 1) 2 ≤ 61 ∧ 0 ≤ M (o + 1) 3 ∧ M (o + 1) 3 ≤ 61 ∧ 0 ≤ M (o + 1) 4 ∧ M (o + 1) 4 ≤ 61 ∧ 0 ≤ M (o + 1) 5 ∧ M (o + 1) 5 ≤ 61) ∧ (M (o + 1) 0 ≤ M o 1 ∧ M o 1 + M (o + 1) 2 ≤ 61 ∧ -1 ≤ M o 2 - M (o + 1) 3 ∧ M o 2 + M (o + 1) 1 ≤ 61 ∧ 0 ≤ M o 3 - M (o + 1) 5 ∧ M o 3 + M (o + 1) 4 ≤ 61 ∧ 0 ≤ M o 4 ∧ M o 4 ≤ 10000000 ∧ 0 ≤ M o 5 ∧ M o 5 ≤ 10000000) ∧ ∀ M' p0 p1 p2 p3 p4 p5, wParts (M (o + 1) 0) (M (o + 1) 1) (M (o + 1) 2) (M (o + 1) 3) (M (o + 1) 4) (M (o + 1) 5) lim p0 p1 p2 p3 p4 p5 → wMade o M M' p0 p1 p2 p3 p4 p5 → Q (some (vi (p0 + p1 + p2 + p3 + p4 + p5))) M'
  | _ => False
set_option maxHeartbeats 4000000 in
set_option maxRecDepth 100000 in
theorem p_Win_make : ∀ as M Q, (∀ v ∈ as, mm_vin v) → mm_mem M → t_Win_make as M Q → (mm_ent as).length ≤ 5 ∧ mm_ok mb_Win_make [(908, t_Win_shift)] (mm_entry 5 as) M Q := by
  intro as M Q hin hM h
  unfold t_Win_make at h
  split at h
  rotate_left
  · exact h.elim
  rename_i o lim
  have hR_lim : mm_R lim := hin (vi lim) (by simp)
  refine ⟨by simp [mm_ent], (show mm_ok mb_Win_make [(908, t_Win_shift)] [some (vr o), some (vi lim), none, none, none] M Q from ?_)⟩
  intro J hJ
  obtain ⟨hw, hlim, ha, hb, h⟩ := h
  have ho : mm_cls o = 9 := hw.1
  have h1 := hw.2.1
  have h2 := hw.2.2
  have step : ∀ (k m : Int) (M1 : mmM), 0 ≤ k → k ≤ 5 → 0 ≤ m → m ≤ lim → m ≤ 600 → 0 ≤ M1 (o + 1) k → M1 (o + 1) k ≤ 61 → (-100 ≤ M1 o 1 ∧ M1 o 1 ≤ 100 ∧ -100 ≤ M1 o 2 ∧ M1 o 2 ≤ 100 ∧ -100 ≤ M1 o 3 ∧ M1 o 3 ≤ 100 ∧ 0 ≤ M1 o 4 ∧ M1 o 4 ≤ 100000000 ∧ 0 ≤ M1 o 5 ∧ M1 o 5 ≤ 100000000) → (∀ p M2, mm_hid (p = min (M1 (o + 1) k) (lim - m)) → 0 ≤ p → p ≤ M1 (o + 1) k → p ≤ lim - m → wStep o k p M1 M2 → J 4 [some (vr o), some (vi lim), some (vi (m + p)), some (vi (k + 1)), some (vi p)] [] M2) → ∀ x4, J 4 [some (vr o), some (vi lim), some (vi m), some (vi k), x4] [] M1 := by
    intro k m M1 k0 k5 m0 ml m6 a0 a1 hB hN x4
    have e1 : ∀ (i v : Int), mm_up M1 (o + 1) i v o = M1 o := fun i v => mm_up_o _ _ (by omega)
    have hst := wSh_step M1 o k (min (M1 (o + 1) k) (lim - m)) k0 k5
    have hN2 := hN _ _ rfl (by omega) (by omega) (by omega) hst
    refine hJ 4 _ _ _ (show mm_wp _ _ _ mo_Win_make_4 _ _ _ from ?_)
    simp only [mo_Win_make_4, mm_wp, mm_ldi, mm_lda, mm_ldl, mm_sti, mm_sta, mm_stl, mm_inc, mm_2i, mm_mm, mm_2l, mm_lcmp, mm_i2l, mm_l2i, mm_cast8, mm_if1, mm_if2, mm_cmp, mm_swi, mm_sw, mm_pop1, mm_dup, mm_dup2, mm_geti, mm_geta, mm_puti, mm_iald, mm_bald, mm_aald, mm_iast, mm_bast, mm_alen, mm_acpy, mm_call, mm_callv, mm_recv, mm_pop, mm_find, mm_push, mm_cats, mm_cat, mm_reti, mm_retz, mm_retl, mm_reta, mm_retv, mm_set1, mm_set2, mm_kill, List.getElem?_cons_zero, List.getElem?_cons_succ, Int.reduceToNat, ↓reduceIte, Nat.reduceEqDiff, Nat.reduceDiv, Nat.reduceAdd, Nat.reduceLeDiff, Nat.zero_le, true_and, and_true, true_or, or_true, mm_b0, mm_b1, mm_lc_lt, mm_lc_le, mm_lc_gt, mm_lc_ge, mm_lc_eq, Int.not_lt, Int.not_le, Decidable.not_not, Int.sub_neg, ho, h1, h2, t_Win_shift, Nat.reduceMul, e1]
    exact ⟨fun q => by omega, fun _ => ⟨by omega, by omega, by omega, by omega, by omega, hw, by omega, by omega, by omega, hN2⟩⟩
  have fin : ∀ (m : Int) (M1 : mmM) x4, Q (some (vi m)) M1 → J 4 [some (vr o), some (vi lim), some (vi m), some (vi 6), x4] [] M1 := by
    intro m M1 x4 hq
    have h51 : J 51 [some (vr o), some (vi lim), some (vi m), some (vi 6), x4] [] M1 := by
      refine hJ 51 _ _ _ (show mm_wp _ _ _ mo_Win_make_51 _ _ _ from ?_)
      simp only [mo_Win_make_51, mm_wp, mm_ldi, mm_lda, mm_ldl, mm_sti, mm_sta, mm_stl, mm_inc, mm_2i, mm_mm, mm_2l, mm_lcmp, mm_i2l, mm_l2i, mm_cast8, mm_if1, mm_if2, mm_cmp, mm_swi, mm_sw, mm_pop1, mm_dup, mm_dup2, mm_geti, mm_geta, mm_puti, mm_iald, mm_bald, mm_aald, mm_iast, mm_bast, mm_alen, mm_acpy, mm_call, mm_callv, mm_recv, mm_pop, mm_find, mm_push, mm_cats, mm_cat, mm_reti, mm_retz, mm_retl, mm_reta, mm_retv, mm_set1, mm_set2, mm_kill, List.getElem?_cons_zero, List.getElem?_cons_succ, Int.reduceToNat, ↓reduceIte, Nat.reduceEqDiff, Nat.reduceDiv, Nat.reduceAdd, Nat.reduceLeDiff, Nat.zero_le, true_and, and_true, true_or, or_true, mm_b0, mm_b1, mm_lc_lt, mm_lc_le, mm_lc_gt, mm_lc_ge, mm_lc_eq, Int.not_lt, Int.not_le, Decidable.not_not, Int.sub_neg]
      exact hq
    refine hJ 4 _ _ _ (show mm_wp _ _ _ mo_Win_make_4 _ _ _ from ?_)
    simp only [mo_Win_make_4, mm_wp, mm_ldi, mm_lda, mm_ldl, mm_sti, mm_sta, mm_stl, mm_inc, mm_2i, mm_mm, mm_2l, mm_lcmp, mm_i2l, mm_l2i, mm_cast8, mm_if1, mm_if2, mm_cmp, mm_swi, mm_sw, mm_pop1, mm_dup, mm_dup2, mm_geti, mm_geta, mm_puti, mm_iald, mm_bald, mm_aald, mm_iast, mm_bast, mm_alen, mm_acpy, mm_call, mm_callv, mm_recv, mm_pop, mm_find, mm_push, mm_cats, mm_cat, mm_reti, mm_retz, mm_retl, mm_reta, mm_retv, mm_set1, mm_set2, mm_kill, List.getElem?_cons_zero, List.getElem?_cons_succ, Int.reduceToNat, ↓reduceIte, Nat.reduceEqDiff, Nat.reduceDiv, Nat.reduceAdd, Nat.reduceLeDiff, Nat.zero_le, true_and, and_true, true_or, or_true, mm_b0, mm_b1, mm_lc_lt, mm_lc_le, mm_lc_gt, mm_lc_ge, mm_lc_eq, Int.not_lt, Int.not_le, Decidable.not_not, Int.sub_neg]
    exact ⟨fun _ => h51, fun q => by omega⟩
  refine hJ 0 _ _ _ (show mm_wp _ _ _ mo_Win_make_0 _ _ _ from ?_)
  simp only [mo_Win_make_0, mm_wp, mm_ldi, mm_lda, mm_ldl, mm_sti, mm_sta, mm_stl, mm_inc, mm_2i, mm_mm, mm_2l, mm_lcmp, mm_i2l, mm_l2i, mm_cast8, mm_if1, mm_if2, mm_cmp, mm_swi, mm_sw, mm_pop1, mm_dup, mm_dup2, mm_geti, mm_geta, mm_puti, mm_iald, mm_bald, mm_aald, mm_iast, mm_bast, mm_alen, mm_acpy, mm_call, mm_callv, mm_recv, mm_pop, mm_find, mm_push, mm_cats, mm_cat, mm_reti, mm_retz, mm_retl, mm_reta, mm_retv, mm_set1, mm_set2, mm_kill, List.getElem?_cons_zero, List.getElem?_cons_succ, Int.reduceToNat, ↓reduceIte, Nat.reduceEqDiff, Nat.reduceDiv, Nat.reduceAdd, Nat.reduceLeDiff, Nat.zero_le, true_and, and_true, true_or, or_true, mm_b0, mm_b1, mm_lc_lt, mm_lc_le, mm_lc_gt, mm_lc_ge, mm_lc_eq, Int.not_lt, Int.not_le, Decidable.not_not, Int.sub_neg]
  refine step 0 0 M (by omega) (by omega) (by omega) (by omega) (by omega) (by omega) (by omega) (by omega) (fun p0 M1 hp0 u0 v0 w0 s1 => ?_) _
  obtain ⟨f1, g1, g2, g3, g4, g5, g6, g7, g8⟩ := s1
  simp only [↓reduceIte, Int.reduceEq, Int.reduceLE] at g3 g4 g5 g6 g7
  refine step 1 _ M1 (by omega) (by omega) (by omega) (by omega) (by omega) (by rw [g1 1 (by decide)]; omega) (by rw [g1 1 (by decide)]; omega) (by omega) (fun p1 M2 hp1 u1 v1 w1 s2 => ?_) _
  obtain ⟨f2, i1, i2, i3, i4, i5, i6, i7, i8⟩ := s2
  rw [g1 1 (by decide)] at hp1 i2 v1
  simp only [↓reduceIte, Int.reduceEq, Int.reduceLE] at i3 i4 i5 i6 i7
  have j2 : M2 (o + 1) 2 = M (o + 1) 2 := by rw [i1 2 (by decide), g1 2 (by decide)]
  refine step 2 _ M2 (by omega) (by omega) (by omega) (by omega) (by omega) (by omega) (by omega) (by omega) (fun p2 M3 hp2 u2 v2 w2 s3 => ?_) _
  obtain ⟨f3, k1, k2, k3, k4, k5, k6, k7, k8⟩ := s3
  rw [j2] at hp2 k2 v2
  simp only [↓reduceIte, Int.reduceEq, Int.reduceLE] at k3 k4 k5 k6 k7
  have j3 : M3 (o + 1) 3 = M (o + 1) 3 := by rw [k1 3 (by decide), i1 3 (by decide), g1 3 (by decide)]
  refine step 3 _ M3 (by omega) (by omega) (by omega) (by omega) (by omega) (by omega) (by omega) (by omega) (fun p3 M4 hp3 u3 v3 w3 s4 => ?_) _
  obtain ⟨f4, l1, l2, l3, l4, l5, l6, l7, l8⟩ := s4
  rw [j3] at hp3 l2 v3
  simp only [↓reduceIte, Int.reduceEq, Int.reduceLE] at l3 l4 l5 l6 l7
  have j4 : M4 (o + 1) 4 = M (o + 1) 4 := by rw [l1 4 (by decide), k1 4 (by decide), i1 4 (by decide), g1 4 (by decide)]
  refine step 4 _ M4 (by omega) (by omega) (by omega) (by omega) (by omega) (by omega) (by omega) (by omega) (fun p4 M5 hp4 u4 v4 w4 s5 => ?_) _
  obtain ⟨f5, n1, n2, n3, n4, n5, n6, n7, n8⟩ := s5
  rw [j4] at hp4 n2 v4
  simp only [↓reduceIte, Int.reduceEq, Int.reduceLE] at n3 n4 n5 n6 n7
  have j5 : M5 (o + 1) 5 = M (o + 1) 5 := by rw [n1 5 (by decide), l1 5 (by decide), k1 5 (by decide), i1 5 (by decide), g1 5 (by decide)]
  refine step 5 _ M5 (by omega) (by omega) (by omega) (by omega) (by omega) (by omega) (by omega) (by omega) (fun p5 M6 hp5 u5 v5 w5 s6 => ?_) _
  obtain ⟨f6, r1, r2, r3, r4, r5, r6, r7, r8⟩ := s6
  rw [j5] at hp5 r2 v5
  simp only [↓reduceIte, Int.reduceEq, Int.reduceLE] at r3 r4 r5 r6 r7
  refine fin _ M6 _ ?_
  rw [show 0 + p0 + p1 + p2 + p3 + p4 + p5 = p0 + p1 + p2 + p3 + p4 + p5 by omega]
  refine h M6 p0 p1 p2 p3 p4 p5 ?_ ⟨fun o' c1 c2 => by rw [f6 o' c1 c2, f5 o' c1 c2, f4 o' c1 c2, f3 o' c1 c2, f2 o' c1 c2, f1 o' c1 c2], by omega, by omega, by omega, by omega, by omega, by omega, ?_, ?_, ?_, ?_, ?_, by omega⟩
  · rw [Int.sub_zero] at hp0
    rw [Int.zero_add] at hp1 hp2 hp3 hp4 hp5
    exact ⟨hp0, hp1, hp2, hp3, hp4, hp5⟩
  · rw [r1 0 (by decide), n1 0 (by decide), l1 0 (by decide), k1 0 (by decide), i1 0 (by decide)]; omega
  · rw [r1 1 (by decide), n1 1 (by decide), l1 1 (by decide), k1 1 (by decide)]; omega
  · rw [r1 2 (by decide), n1 2 (by decide), l1 2 (by decide)]; omega
  · rw [r1 3 (by decide), n1 3 (by decide)]; omega
  · rw [r1 4 (by decide)]; omega
def t_Win_nextKind : mmT := fun as M Q => match as with
  | [.inr (.inr o)] => isW o ∧ Q (some (vi (if 0 < M (o + 1) 0 then 0 else if 0 < M (o + 1) 1 then 1 else if 0 < M (o + 1) 2 then 2 else if 0 < M (o + 1) 3 then 3 else if 0 < M (o + 1) 4 then 4 else if 0 < M (o + 1) 5 then 5 else -1))) M
  | _ => False
set_option maxHeartbeats 4000000 in
set_option maxRecDepth 100000 in
theorem p_Win_nextKind : ∀ as M Q, (∀ v ∈ as, mm_vin v) → mm_mem M → t_Win_nextKind as M Q → (mm_ent as).length ≤ 2 ∧ mm_ok mb_Win_nextKind [] (mm_entry 2 as) M Q := by
  intro as M Q hin hM h
  unfold t_Win_nextKind at h
  split at h
  rotate_left
  · exact h.elim
  rename_i o
  refine ⟨by simp [mm_ent], (show mm_ok mb_Win_nextKind [] [some (vr o), none] M Q from ?_)⟩
  intro J hJ
  obtain ⟨⟨ho, h1, h2⟩, h⟩ := h
  repeat' first | (refine And.intro ?_ ?_) | (intro _) | (refine hJ 0 _ _ _ ?_; show mm_wp _ _ _ mo_Win_nextKind_0 _ _ _; simp only [mo_Win_nextKind_0, mm_wp, mm_ldi, mm_lda, mm_ldl, mm_sti, mm_sta, mm_stl, mm_inc, mm_2i, mm_mm, mm_2l, mm_lcmp, mm_i2l, mm_l2i, mm_cast8, mm_if1, mm_if2, mm_cmp, mm_swi, mm_sw, mm_pop1, mm_dup, mm_dup2, mm_geti, mm_geta, mm_puti, mm_iald, mm_bald, mm_aald, mm_iast, mm_bast, mm_alen, mm_acpy, mm_call, mm_callv, mm_recv, mm_pop, mm_find, mm_push, mm_cats, mm_cat, mm_reti, mm_retz, mm_retl, mm_reta, mm_retv, mm_set1, mm_set2, mm_kill, List.getElem?_cons_zero, List.getElem?_cons_succ, Int.reduceToNat, ↓reduceIte, Nat.reduceEqDiff, Nat.reduceDiv, Nat.reduceAdd, Nat.reduceLeDiff, Nat.zero_le, true_and, and_true, true_or, or_true, mm_b0, mm_b1, mm_lc_lt, mm_lc_le, mm_lc_gt, mm_lc_ge, mm_lc_eq, Int.not_lt, Int.not_le, Decidable.not_not, Int.sub_neg, ho, h1, h2, Int.reduceLT, Int.reduceLE, Int.reduceAdd, Int.zero_add, not_true_eq_false, not_false_eq_true, forall_const, false_implies, implies_true, Int.reduceNeg]) | (refine hJ 2 _ _ _ ?_; show mm_wp _ _ _ mo_Win_nextKind_2 _ _ _; simp only [mo_Win_nextKind_2, mm_wp, mm_ldi, mm_lda, mm_ldl, mm_sti, mm_sta, mm_stl, mm_inc, mm_2i, mm_mm, mm_2l, mm_lcmp, mm_i2l, mm_l2i, mm_cast8, mm_if1, mm_if2, mm_cmp, mm_swi, mm_sw, mm_pop1, mm_dup, mm_dup2, mm_geti, mm_geta, mm_puti, mm_iald, mm_bald, mm_aald, mm_iast, mm_bast, mm_alen, mm_acpy, mm_call, mm_callv, mm_recv, mm_pop, mm_find, mm_push, mm_cats, mm_cat, mm_reti, mm_retz, mm_retl, mm_reta, mm_retv, mm_set1, mm_set2, mm_kill, List.getElem?_cons_zero, List.getElem?_cons_succ, Int.reduceToNat, ↓reduceIte, Nat.reduceEqDiff, Nat.reduceDiv, Nat.reduceAdd, Nat.reduceLeDiff, Nat.zero_le, true_and, and_true, true_or, or_true, mm_b0, mm_b1, mm_lc_lt, mm_lc_le, mm_lc_gt, mm_lc_ge, mm_lc_eq, Int.not_lt, Int.not_le, Decidable.not_not, Int.sub_neg, ho, h1, h2, Int.reduceLT, Int.reduceLE, Int.reduceAdd, Int.zero_add, not_true_eq_false, not_false_eq_true, forall_const, false_implies, implies_true, Int.reduceNeg]) | (refine hJ 19 _ _ _ ?_; show mm_wp _ _ _ mo_Win_nextKind_19 _ _ _; simp only [mo_Win_nextKind_19, mm_wp, mm_ldi, mm_lda, mm_ldl, mm_sti, mm_sta, mm_stl, mm_inc, mm_2i, mm_mm, mm_2l, mm_lcmp, mm_i2l, mm_l2i, mm_cast8, mm_if1, mm_if2, mm_cmp, mm_swi, mm_sw, mm_pop1, mm_dup, mm_dup2, mm_geti, mm_geta, mm_puti, mm_iald, mm_bald, mm_aald, mm_iast, mm_bast, mm_alen, mm_acpy, mm_call, mm_callv, mm_recv, mm_pop, mm_find, mm_push, mm_cats, mm_cat, mm_reti, mm_retz, mm_retl, mm_reta, mm_retv, mm_set1, mm_set2, mm_kill, List.getElem?_cons_zero, List.getElem?_cons_succ, Int.reduceToNat, ↓reduceIte, Nat.reduceEqDiff, Nat.reduceDiv, Nat.reduceAdd, Nat.reduceLeDiff, Nat.zero_le, true_and, and_true, true_or, or_true, mm_b0, mm_b1, mm_lc_lt, mm_lc_le, mm_lc_gt, mm_lc_ge, mm_lc_eq, Int.not_lt, Int.not_le, Decidable.not_not, Int.sub_neg, ho, h1, h2, Int.reduceLT, Int.reduceLE, Int.reduceAdd, Int.zero_add, not_true_eq_false, not_false_eq_true, forall_const, false_implies, implies_true, Int.reduceNeg]) | (refine hJ 25 _ _ _ ?_; show mm_wp _ _ _ mo_Win_nextKind_25 _ _ _; simp only [mo_Win_nextKind_25, mm_wp, mm_ldi, mm_lda, mm_ldl, mm_sti, mm_sta, mm_stl, mm_inc, mm_2i, mm_mm, mm_2l, mm_lcmp, mm_i2l, mm_l2i, mm_cast8, mm_if1, mm_if2, mm_cmp, mm_swi, mm_sw, mm_pop1, mm_dup, mm_dup2, mm_geti, mm_geta, mm_puti, mm_iald, mm_bald, mm_aald, mm_iast, mm_bast, mm_alen, mm_acpy, mm_call, mm_callv, mm_recv, mm_pop, mm_find, mm_push, mm_cats, mm_cat, mm_reti, mm_retz, mm_retl, mm_reta, mm_retv, mm_set1, mm_set2, mm_kill, List.getElem?_cons_zero, List.getElem?_cons_succ, Int.reduceToNat, ↓reduceIte, Nat.reduceEqDiff, Nat.reduceDiv, Nat.reduceAdd, Nat.reduceLeDiff, Nat.zero_le, true_and, and_true, true_or, or_true, mm_b0, mm_b1, mm_lc_lt, mm_lc_le, mm_lc_gt, mm_lc_ge, mm_lc_eq, Int.not_lt, Int.not_le, Decidable.not_not, Int.sub_neg, ho, h1, h2, Int.reduceLT, Int.reduceLE, Int.reduceAdd, Int.zero_add, not_true_eq_false, not_false_eq_true, forall_const, false_implies, implies_true, Int.reduceNeg])
  all_goals first | assumption | (exact Or.inl rfl) | (exact Or.inr rfl) | (exact rfl) | trivial | omega | (repeat' (first | assumption | omega | split at h))
def t_Win_movedBy : mmT := fun as M Q => match as with
  | [.inr (.inr o), .inl k] => isW o ∧ (0 ≤ k ∧ k ≤ 5 ∧ -100 ≤ M o 1 ∧ M o 1 ≤ 100 ∧ -100 ≤ M o 2 ∧ M o 2 ≤ 100 ∧ -100 ≤ M o 3 ∧ M o 3 ≤ 100) ∧ Q (some (vi (if k = 0 then M o 1 - 1 else if k = 1 then M o 2 + 1 else if k = 2 then M o 1 else if k = 3 then M o 2 else if k = 4 then M o 3 else M o 3 - 1))) M
  | _ => False
set_option maxHeartbeats 4000000 in
set_option maxRecDepth 100000 in
theorem p_Win_movedBy : ∀ as M Q, (∀ v ∈ as, mm_vin v) → mm_mem M → t_Win_movedBy as M Q → (mm_ent as).length ≤ 2 ∧ mm_ok mb_Win_movedBy [] (mm_entry 2 as) M Q := by
  intro as M Q hin hM h
  unfold t_Win_movedBy at h
  split at h
  rotate_left
  · exact h.elim
  rename_i o k
  have hR_k : mm_R k := hin (vi k) (by simp)
  refine ⟨by simp [mm_ent], (show mm_ok mb_Win_movedBy [] [some (vr o), some (vi k)] M Q from ?_)⟩
  intro J hJ
  obtain ⟨⟨ho, h1, h2⟩, hb, h⟩ := h
  have hk : k = 0 ∨ k = 1 ∨ k = 2 ∨ k = 3 ∨ k = 4 ∨ k = 5 := by omega
  rcases hk with rfl | rfl | rfl | rfl | rfl | rfl <;> simp only [Int.reduceEq, ↓reduceIte] at h
  all_goals
    repeat' first | (refine And.intro ?_ ?_) | (intro _) | (refine hJ 0 _ _ _ ?_; show mm_wp _ _ _ mo_Win_movedBy_0 _ _ _; simp only [mo_Win_movedBy_0, mm_wp, mm_ldi, mm_lda, mm_ldl, mm_sti, mm_sta, mm_stl, mm_inc, mm_2i, mm_mm, mm_2l, mm_lcmp, mm_i2l, mm_l2i, mm_cast8, mm_if1, mm_if2, mm_cmp, mm_swi, mm_sw, mm_pop1, mm_dup, mm_dup2, mm_geti, mm_geta, mm_puti, mm_iald, mm_bald, mm_aald, mm_iast, mm_bast, mm_alen, mm_acpy, mm_call, mm_callv, mm_recv, mm_pop, mm_find, mm_push, mm_cats, mm_cat, mm_reti, mm_retz, mm_retl, mm_reta, mm_retv, mm_set1, mm_set2, mm_kill, List.getElem?_cons_zero, List.getElem?_cons_succ, Int.reduceToNat, ↓reduceIte, Nat.reduceEqDiff, Nat.reduceDiv, Nat.reduceAdd, Nat.reduceLeDiff, Nat.zero_le, true_and, and_true, true_or, or_true, mm_b0, mm_b1, mm_lc_lt, mm_lc_le, mm_lc_gt, mm_lc_ge, mm_lc_eq, Int.not_lt, Int.not_le, Decidable.not_not, Int.sub_neg, ho, Int.reduceEq, not_true_eq_false, not_false_eq_true, forall_const, false_implies, implies_true]) | (refine hJ 36 _ _ _ ?_; show mm_wp _ _ _ mo_Win_movedBy_36 _ _ _; simp only [mo_Win_movedBy_36, mm_wp, mm_ldi, mm_lda, mm_ldl, mm_sti, mm_sta, mm_stl, mm_inc, mm_2i, mm_mm, mm_2l, mm_lcmp, mm_i2l, mm_l2i, mm_cast8, mm_if1, mm_if2, mm_cmp, mm_swi, mm_sw, mm_pop1, mm_dup, mm_dup2, mm_geti, mm_geta, mm_puti, mm_iald, mm_bald, mm_aald, mm_iast, mm_bast, mm_alen, mm_acpy, mm_call, mm_callv, mm_recv, mm_pop, mm_find, mm_push, mm_cats, mm_cat, mm_reti, mm_retz, mm_retl, mm_reta, mm_retv, mm_set1, mm_set2, mm_kill, List.getElem?_cons_zero, List.getElem?_cons_succ, Int.reduceToNat, ↓reduceIte, Nat.reduceEqDiff, Nat.reduceDiv, Nat.reduceAdd, Nat.reduceLeDiff, Nat.zero_le, true_and, and_true, true_or, or_true, mm_b0, mm_b1, mm_lc_lt, mm_lc_le, mm_lc_gt, mm_lc_ge, mm_lc_eq, Int.not_lt, Int.not_le, Decidable.not_not, Int.sub_neg, ho, Int.reduceEq, not_true_eq_false, not_false_eq_true, forall_const, false_implies, implies_true]) | (refine hJ 43 _ _ _ ?_; show mm_wp _ _ _ mo_Win_movedBy_43 _ _ _; simp only [mo_Win_movedBy_43, mm_wp, mm_ldi, mm_lda, mm_ldl, mm_sti, mm_sta, mm_stl, mm_inc, mm_2i, mm_mm, mm_2l, mm_lcmp, mm_i2l, mm_l2i, mm_cast8, mm_if1, mm_if2, mm_cmp, mm_swi, mm_sw, mm_pop1, mm_dup, mm_dup2, mm_geti, mm_geta, mm_puti, mm_iald, mm_bald, mm_aald, mm_iast, mm_bast, mm_alen, mm_acpy, mm_call, mm_callv, mm_recv, mm_pop, mm_find, mm_push, mm_cats, mm_cat, mm_reti, mm_retz, mm_retl, mm_reta, mm_retv, mm_set1, mm_set2, mm_kill, List.getElem?_cons_zero, List.getElem?_cons_succ, Int.reduceToNat, ↓reduceIte, Nat.reduceEqDiff, Nat.reduceDiv, Nat.reduceAdd, Nat.reduceLeDiff, Nat.zero_le, true_and, and_true, true_or, or_true, mm_b0, mm_b1, mm_lc_lt, mm_lc_le, mm_lc_gt, mm_lc_ge, mm_lc_eq, Int.not_lt, Int.not_le, Decidable.not_not, Int.sub_neg, ho, Int.reduceEq, not_true_eq_false, not_false_eq_true, forall_const, false_implies, implies_true]) | (refine hJ 50 _ _ _ ?_; show mm_wp _ _ _ mo_Win_movedBy_50 _ _ _; simp only [mo_Win_movedBy_50, mm_wp, mm_ldi, mm_lda, mm_ldl, mm_sti, mm_sta, mm_stl, mm_inc, mm_2i, mm_mm, mm_2l, mm_lcmp, mm_i2l, mm_l2i, mm_cast8, mm_if1, mm_if2, mm_cmp, mm_swi, mm_sw, mm_pop1, mm_dup, mm_dup2, mm_geti, mm_geta, mm_puti, mm_iald, mm_bald, mm_aald, mm_iast, mm_bast, mm_alen, mm_acpy, mm_call, mm_callv, mm_recv, mm_pop, mm_find, mm_push, mm_cats, mm_cat, mm_reti, mm_retz, mm_retl, mm_reta, mm_retv, mm_set1, mm_set2, mm_kill, List.getElem?_cons_zero, List.getElem?_cons_succ, Int.reduceToNat, ↓reduceIte, Nat.reduceEqDiff, Nat.reduceDiv, Nat.reduceAdd, Nat.reduceLeDiff, Nat.zero_le, true_and, and_true, true_or, or_true, mm_b0, mm_b1, mm_lc_lt, mm_lc_le, mm_lc_gt, mm_lc_ge, mm_lc_eq, Int.not_lt, Int.not_le, Decidable.not_not, Int.sub_neg, ho, Int.reduceEq, not_true_eq_false, not_false_eq_true, forall_const, false_implies, implies_true]) | (refine hJ 55 _ _ _ ?_; show mm_wp _ _ _ mo_Win_movedBy_55 _ _ _; simp only [mo_Win_movedBy_55, mm_wp, mm_ldi, mm_lda, mm_ldl, mm_sti, mm_sta, mm_stl, mm_inc, mm_2i, mm_mm, mm_2l, mm_lcmp, mm_i2l, mm_l2i, mm_cast8, mm_if1, mm_if2, mm_cmp, mm_swi, mm_sw, mm_pop1, mm_dup, mm_dup2, mm_geti, mm_geta, mm_puti, mm_iald, mm_bald, mm_aald, mm_iast, mm_bast, mm_alen, mm_acpy, mm_call, mm_callv, mm_recv, mm_pop, mm_find, mm_push, mm_cats, mm_cat, mm_reti, mm_retz, mm_retl, mm_reta, mm_retv, mm_set1, mm_set2, mm_kill, List.getElem?_cons_zero, List.getElem?_cons_succ, Int.reduceToNat, ↓reduceIte, Nat.reduceEqDiff, Nat.reduceDiv, Nat.reduceAdd, Nat.reduceLeDiff, Nat.zero_le, true_and, and_true, true_or, or_true, mm_b0, mm_b1, mm_lc_lt, mm_lc_le, mm_lc_gt, mm_lc_ge, mm_lc_eq, Int.not_lt, Int.not_le, Decidable.not_not, Int.sub_neg, ho, Int.reduceEq, not_true_eq_false, not_false_eq_true, forall_const, false_implies, implies_true]) | (refine hJ 60 _ _ _ ?_; show mm_wp _ _ _ mo_Win_movedBy_60 _ _ _; simp only [mo_Win_movedBy_60, mm_wp, mm_ldi, mm_lda, mm_ldl, mm_sti, mm_sta, mm_stl, mm_inc, mm_2i, mm_mm, mm_2l, mm_lcmp, mm_i2l, mm_l2i, mm_cast8, mm_if1, mm_if2, mm_cmp, mm_swi, mm_sw, mm_pop1, mm_dup, mm_dup2, mm_geti, mm_geta, mm_puti, mm_iald, mm_bald, mm_aald, mm_iast, mm_bast, mm_alen, mm_acpy, mm_call, mm_callv, mm_recv, mm_pop, mm_find, mm_push, mm_cats, mm_cat, mm_reti, mm_retz, mm_retl, mm_reta, mm_retv, mm_set1, mm_set2, mm_kill, List.getElem?_cons_zero, List.getElem?_cons_succ, Int.reduceToNat, ↓reduceIte, Nat.reduceEqDiff, Nat.reduceDiv, Nat.reduceAdd, Nat.reduceLeDiff, Nat.zero_le, true_and, and_true, true_or, or_true, mm_b0, mm_b1, mm_lc_lt, mm_lc_le, mm_lc_gt, mm_lc_ge, mm_lc_eq, Int.not_lt, Int.not_le, Decidable.not_not, Int.sub_neg, ho, Int.reduceEq, not_true_eq_false, not_false_eq_true, forall_const, false_implies, implies_true]) | (refine hJ 65 _ _ _ ?_; show mm_wp _ _ _ mo_Win_movedBy_65 _ _ _; simp only [mo_Win_movedBy_65, mm_wp, mm_ldi, mm_lda, mm_ldl, mm_sti, mm_sta, mm_stl, mm_inc, mm_2i, mm_mm, mm_2l, mm_lcmp, mm_i2l, mm_l2i, mm_cast8, mm_if1, mm_if2, mm_cmp, mm_swi, mm_sw, mm_pop1, mm_dup, mm_dup2, mm_geti, mm_geta, mm_puti, mm_iald, mm_bald, mm_aald, mm_iast, mm_bast, mm_alen, mm_acpy, mm_call, mm_callv, mm_recv, mm_pop, mm_find, mm_push, mm_cats, mm_cat, mm_reti, mm_retz, mm_retl, mm_reta, mm_retv, mm_set1, mm_set2, mm_kill, List.getElem?_cons_zero, List.getElem?_cons_succ, Int.reduceToNat, ↓reduceIte, Nat.reduceEqDiff, Nat.reduceDiv, Nat.reduceAdd, Nat.reduceLeDiff, Nat.zero_le, true_and, and_true, true_or, or_true, mm_b0, mm_b1, mm_lc_lt, mm_lc_le, mm_lc_gt, mm_lc_ge, mm_lc_eq, Int.not_lt, Int.not_le, Decidable.not_not, Int.sub_neg, ho, Int.reduceEq, not_true_eq_false, not_false_eq_true, forall_const, false_implies, implies_true])
    all_goals first | assumption | (exact Or.inl rfl) | (exact Or.inr rfl) | (exact rfl) | trivial | omega
