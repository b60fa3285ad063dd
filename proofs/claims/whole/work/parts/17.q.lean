/-! the planner's Questions -/
def sN (f : Int → Int) : Nat → Int
  | 0 => 0
  | n + 1 => sN f n + f n
theorem sN_cong {f g : Int → Int} : ∀ (n : Nat), (∀ k : Nat, k < n → f k = g k) → sN f n = sN g n
  | 0, _ => rfl
  | n + 1, h => by
    show sN f n + f n = sN g n + g n
    rw [sN_cong n (fun k hk => h k (by omega)), h n (by omega)]
theorem sN_b {f : Int → Int} {a b : Int} : ∀ (n : Nat), (∀ k : Nat, k < n → a ≤ f k ∧ f k ≤ b) → a * n ≤ sN f n ∧ sN f n ≤ b * n
  | 0, _ => by simp [sN]
  | n + 1, h => by
    have h1 := sN_b n (fun k hk => h k (by omega))
    have h2 := h n (by omega)
    simp only [sN, Int.natCast_succ, Int.mul_add, Int.mul_one]
    omega
noncomputable def mm_c (P : Prop) : Int := @ite _ P (Classical.propDecidable P) 1 0
theorem mm_cT {P : Prop} (h : P) : mm_c P = 1 := if_pos h
theorem mm_cF {P : Prop} (h : ¬ P) : mm_c P = 0 := if_neg h
theorem mm_c01 (P : Prop) : 0 ≤ mm_c P ∧ mm_c P ≤ 1 := by
  by_cases h : P
  · rw [mm_cT h]; omega
  · rw [mm_cF h]; omega
theorem mm_cE {P R : Prop} (h : P ↔ R) : mm_c P = mm_c R := by
  by_cases h1 : P
  · rw [mm_cT h1, mm_cT (h.mp h1)]
  · rw [mm_cF h1, mm_cF (fun q => h1 (h.mpr q))]
theorem mm_b_R (P : Prop) [Decidable P] : 0 ≤ mm_b P ∧ mm_b P ≤ 1 := by
  rcases mm_b01 P with h | h <;> omega
def isQ (o : Nat) : Prop := mm_cls o = 2 ∧ mm_cls (o + 1) = 100 ∧ mm_cls (o + 2) = 100 ∧ mm_cls (o + 3) = 100 ∧ mm_cls (o + 4) = 100 ∧ mm_len (o + 1) = 25 ∧ mm_len (o + 2) = 25 ∧ mm_len (o + 3) = 25 ∧ mm_len (o + 4) = 25
def t_Q_isPlannedKind : mmT := fun as M Q => match as with
  | [.inl k] => Q (some (vi (mm_b (¬ k = 2 ∧ ¬ k = 3 ∧ ¬ k = 6)))) M
  | _ => False
set_option maxHeartbeats 4000000 in
set_option maxRecDepth 100000 in
theorem p_Q_isPlannedKind : ∀ as M Q, (∀ v ∈ as, mm_vin v) → mm_mem M → t_Q_isPlannedKind as M Q → (mm_ent as).length ≤ 1 ∧ mm_ok mb_Q_isPlannedKind [] (mm_entry 1 as) M Q := by
  intro as M Q hin hM h
  unfold t_Q_isPlannedKind at h
  split at h
  rotate_left
  · exact h.elim
  rename_i k
  have hR_k : mm_R k := hin (vi k) (by simp)
  refine ⟨by simp [mm_ent], (show mm_ok mb_Q_isPlannedKind [] [some (vi k)] M Q from ?_)⟩
  intro J hJ
  repeat' first | (refine And.intro ?_ ?_) | (intro _) | (refine hJ 0 _ _ _ ?_; show mm_wp _ _ _ mo_Q_isPlannedKind_0 _ _ _; simp only [mo_Q_isPlannedKind_0, mm_wp, mm_ldi, mm_lda, mm_ldl, mm_sti, mm_sta, mm_stl, mm_inc, mm_2i, mm_mm, mm_2l, mm_lcmp, mm_i2l, mm_l2i, mm_cast8, mm_if1, mm_if2, mm_cmp, mm_swi, mm_sw, mm_pop1, mm_dup, mm_dup2, mm_geti, mm_geta, mm_puti, mm_iald, mm_bald, mm_aald, mm_iast, mm_bast, mm_alen, mm_acpy, mm_call, mm_callv, mm_recv, mm_pop, mm_find, mm_push, mm_cats, mm_cat, mm_reti, mm_retz, mm_retl, mm_reta, mm_retv, mm_set1, mm_set2, mm_kill, List.getElem?_cons_zero, List.getElem?_cons_succ, Int.reduceToNat, ↓reduceIte, Nat.reduceEqDiff, Nat.reduceDiv, Nat.reduceAdd, Nat.reduceLeDiff, Nat.zero_le, true_and, and_true, true_or, or_true, mm_b0, mm_b1, mm_lc_lt, mm_lc_le, mm_lc_gt, mm_lc_ge, mm_lc_eq, Int.not_lt, Int.not_le, Decidable.not_not, Int.sub_neg]) | (refine hJ 20 _ _ _ ?_; show mm_wp _ _ _ mo_Q_isPlannedKind_20 _ _ _; simp only [mo_Q_isPlannedKind_20, mm_wp, mm_ldi, mm_lda, mm_ldl, mm_sti, mm_sta, mm_stl, mm_inc, mm_2i, mm_mm, mm_2l, mm_lcmp, mm_i2l, mm_l2i, mm_cast8, mm_if1, mm_if2, mm_cmp, mm_swi, mm_sw, mm_pop1, mm_dup, mm_dup2, mm_geti, mm_geta, mm_puti, mm_iald, mm_bald, mm_aald, mm_iast, mm_bast, mm_alen, mm_acpy, mm_call, mm_callv, mm_recv, mm_pop, mm_find, mm_push, mm_cats, mm_cat, mm_reti, mm_retz, mm_retl, mm_reta, mm_retv, mm_set1, mm_set2, mm_kill, List.getElem?_cons_zero, List.getElem?_cons_succ, Int.reduceToNat, ↓reduceIte, Nat.reduceEqDiff, Nat.reduceDiv, Nat.reduceAdd, Nat.reduceLeDiff, Nat.zero_le, true_and, and_true, true_or, or_true, mm_b0, mm_b1, mm_lc_lt, mm_lc_le, mm_lc_gt, mm_lc_ge, mm_lc_eq, Int.not_lt, Int.not_le, Decidable.not_not, Int.sub_neg]) | (refine hJ 21 _ _ _ ?_; show mm_wp _ _ _ mo_Q_isPlannedKind_21 _ _ _; simp only [mo_Q_isPlannedKind_21, mm_wp, mm_ldi, mm_lda, mm_ldl, mm_sti, mm_sta, mm_stl, mm_inc, mm_2i, mm_mm, mm_2l, mm_lcmp, mm_i2l, mm_l2i, mm_cast8, mm_if1, mm_if2, mm_cmp, mm_swi, mm_sw, mm_pop1, mm_dup, mm_dup2, mm_geti, mm_geta, mm_puti, mm_iald, mm_bald, mm_aald, mm_iast, mm_bast, mm_alen, mm_acpy, mm_call, mm_callv, mm_recv, mm_pop, mm_find, mm_push, mm_cats, mm_cat, mm_reti, mm_retz, mm_retl, mm_reta, mm_retv, mm_set1, mm_set2, mm_kill, List.getElem?_cons_zero, List.getElem?_cons_succ, Int.reduceToNat, ↓reduceIte, Nat.reduceEqDiff, Nat.reduceDiv, Nat.reduceAdd, Nat.reduceLeDiff, Nat.zero_le, true_and, and_true, true_or, or_true, mm_b0, mm_b1, mm_lc_lt, mm_lc_le, mm_lc_gt, mm_lc_ge, mm_lc_eq, Int.not_lt, Int.not_le, Decidable.not_not, Int.sub_neg])
  all_goals first | assumption | (exact Or.inl rfl) | (exact Or.inr rfl) | (exact rfl) | trivial | omega | (rw [mm_bF (by omega)] at h; exact h) | (rw [mm_bT (by omega)] at h; exact h)
def t_Q_has : mmT := fun as M Q => match as with
  | [.inr (.inr o), .inl q] => isQ o ∧ Q (some (vi (mm_b (0 ≤ q ∧ q < M o 4)))) M
  | _ => False
set_option maxHeartbeats 4000000 in
set_option maxRecDepth 100000 in
theorem p_Q_has : ∀ as M Q, (∀ v ∈ as, mm_vin v) → mm_mem M → t_Q_has as M Q → (mm_ent as).length ≤ 2 ∧ mm_ok mb_Q_has [] (mm_entry 2 as) M Q := by
  intro as M Q hin hM h
  unfold t_Q_has at h
  split at h
  rotate_left
  · exact h.elim
  rename_i o q
  have hR_q : mm_R q := hin (vi q) (by simp)
  refine ⟨by simp [mm_ent], (show mm_ok mb_Q_has [] [some (vr o), some (vi q)] M Q from ?_)⟩
  intro J hJ
  obtain ⟨ho, h⟩ := h
  have ho := ho.1
  repeat' first | (refine And.intro ?_ ?_) | (intro _) | (refine hJ 0 _ _ _ ?_; show mm_wp _ _ _ mo_Q_has_0 _ _ _; simp only [mo_Q_has_0, mm_wp, mm_ldi, mm_lda, mm_ldl, mm_sti, mm_sta, mm_stl, mm_inc, mm_2i, mm_mm, mm_2l, mm_lcmp, mm_i2l, mm_l2i, mm_cast8, mm_if1, mm_if2, mm_cmp, mm_swi, mm_sw, mm_pop1, mm_dup, mm_dup2, mm_geti, mm_geta, mm_puti, mm_iald, mm_bald, mm_aald, mm_iast, mm_bast, mm_alen, mm_acpy, mm_call, mm_callv, mm_recv, mm_pop, mm_find, mm_push, mm_cats, mm_cat, mm_reti, mm_retz, mm_retl, mm_reta, mm_retv, mm_set1, mm_set2, mm_kill, List.getElem?_cons_zero, List.getElem?_cons_succ, Int.reduceToNat, ↓reduceIte, Nat.reduceEqDiff, Nat.reduceDiv, Nat.reduceAdd, Nat.reduceLeDiff, Nat.zero_le, true_and, and_true, true_or, or_true, mm_b0, mm_b1, mm_lc_lt, mm_lc_le, mm_lc_gt, mm_lc_ge, mm_lc_eq, Int.not_lt, Int.not_le, Decidable.not_not, Int.sub_neg]) | (refine hJ 16 _ _ _ ?_; show mm_wp _ _ _ mo_Q_has_16 _ _ _; simp only [mo_Q_has_16, mm_wp, mm_ldi, mm_lda, mm_ldl, mm_sti, mm_sta, mm_stl, mm_inc, mm_2i, mm_mm, mm_2l, mm_lcmp, mm_i2l, mm_l2i, mm_cast8, mm_if1, mm_if2, mm_cmp, mm_swi, mm_sw, mm_pop1, mm_dup, mm_dup2, mm_geti, mm_geta, mm_puti, mm_iald, mm_bald, mm_aald, mm_iast, mm_bast, mm_alen, mm_acpy, mm_call, mm_callv, mm_recv, mm_pop, mm_find, mm_push, mm_cats, mm_cat, mm_reti, mm_retz, mm_retl, mm_reta, mm_retv, mm_set1, mm_set2, mm_kill, List.getElem?_cons_zero, List.getElem?_cons_succ, Int.reduceToNat, ↓reduceIte, Nat.reduceEqDiff, Nat.reduceDiv, Nat.reduceAdd, Nat.reduceLeDiff, Nat.zero_le, true_and, and_true, true_or, or_true, mm_b0, mm_b1, mm_lc_lt, mm_lc_le, mm_lc_gt, mm_lc_ge, mm_lc_eq, Int.not_lt, Int.not_le, Decidable.not_not, Int.sub_neg]) | (refine hJ 17 _ _ _ ?_; show mm_wp _ _ _ mo_Q_has_17 _ _ _; simp only [mo_Q_has_17, mm_wp, mm_ldi, mm_lda, mm_ldl, mm_sti, mm_sta, mm_stl, mm_inc, mm_2i, mm_mm, mm_2l, mm_lcmp, mm_i2l, mm_l2i, mm_cast8, mm_if1, mm_if2, mm_cmp, mm_swi, mm_sw, mm_pop1, mm_dup, mm_dup2, mm_geti, mm_geta, mm_puti, mm_iald, mm_bald, mm_aald, mm_iast, mm_bast, mm_alen, mm_acpy, mm_call, mm_callv, mm_recv, mm_pop, mm_find, mm_push, mm_cats, mm_cat, mm_reti, mm_retz, mm_retl, mm_reta, mm_retv, mm_set1, mm_set2, mm_kill, List.getElem?_cons_zero, List.getElem?_cons_succ, Int.reduceToNat, ↓reduceIte, Nat.reduceEqDiff, Nat.reduceDiv, Nat.reduceAdd, Nat.reduceLeDiff, Nat.zero_le, true_and, and_true, true_or, or_true, mm_b0, mm_b1, mm_lc_lt, mm_lc_le, mm_lc_gt, mm_lc_ge, mm_lc_eq, Int.not_lt, Int.not_le, Decidable.not_not, Int.sub_neg])
  all_goals first | assumption | (exact Or.inl rfl) | (exact Or.inr rfl) | (exact rfl) | trivial | omega | (rw [mm_bF (by omega)] at h; exact h) | (rw [mm_bT (by omega)] at h; exact h)
def t_Q_removeLast : mmT := fun as M Q => match as with
  | [.inr (.inr o)] => isQ o ∧ 0 < M o 4 ∧ Q none (mm_up M o 4 (M o 4 - 1))
  | _ => False
set_option maxHeartbeats 4000000 in
set_option maxRecDepth 100000 in
theorem p_Q_removeLast : ∀ as M Q, (∀ v ∈ as, mm_vin v) → mm_mem M → t_Q_removeLast as M Q → (mm_ent as).length ≤ 1 ∧ mm_ok mb_Q_removeLast [] (mm_entry 1 as) M Q := by
  intro as M Q hin hM h
  unfold t_Q_removeLast at h
  split at h
  rotate_left
  · exact h.elim
  rename_i o
  refine ⟨by simp [mm_ent], (show mm_ok mb_Q_removeLast [] [some (vr o)] M Q from ?_)⟩
  intro J hJ
  obtain ⟨ho, h1, h⟩ := h
  have ho := ho.1
  have := hM o 4
  repeat' first | (refine And.intro ?_ ?_) | (intro _) | (refine hJ 0 _ _ _ ?_; show mm_wp _ _ _ mo_Q_removeLast_0 _ _ _; simp only [mo_Q_removeLast_0, mm_wp, mm_ldi, mm_lda, mm_ldl, mm_sti, mm_sta, mm_stl, mm_inc, mm_2i, mm_mm, mm_2l, mm_lcmp, mm_i2l, mm_l2i, mm_cast8, mm_if1, mm_if2, mm_cmp, mm_swi, mm_sw, mm_pop1, mm_dup, mm_dup2, mm_geti, mm_geta, mm_puti, mm_iald, mm_bald, mm_aald, mm_iast, mm_bast, mm_alen, mm_acpy, mm_call, mm_callv, mm_recv, mm_pop, mm_find, mm_push, mm_cats, mm_cat, mm_reti, mm_retz, mm_retl, mm_reta, mm_retv, mm_set1, mm_set2, mm_kill, List.getElem?_cons_zero, List.getElem?_cons_succ, Int.reduceToNat, ↓reduceIte, Nat.reduceEqDiff, Nat.reduceDiv, Nat.reduceAdd, Nat.reduceLeDiff, Nat.zero_le, true_and, and_true, true_or, or_true, mm_b0, mm_b1, mm_lc_lt, mm_lc_le, mm_lc_gt, mm_lc_ge, mm_lc_eq, Int.not_lt, Int.not_le, Decidable.not_not, Int.sub_neg]) | (refine hJ 17 _ _ _ ?_; show mm_wp _ _ _ mo_Q_removeLast_17 _ _ _; simp only [mo_Q_removeLast_17, mm_wp, mm_ldi, mm_lda, mm_ldl, mm_sti, mm_sta, mm_stl, mm_inc, mm_2i, mm_mm, mm_2l, mm_lcmp, mm_i2l, mm_l2i, mm_cast8, mm_if1, mm_if2, mm_cmp, mm_swi, mm_sw, mm_pop1, mm_dup, mm_dup2, mm_geti, mm_geta, mm_puti, mm_iald, mm_bald, mm_aald, mm_iast, mm_bast, mm_alen, mm_acpy, mm_call, mm_callv, mm_recv, mm_pop, mm_find, mm_push, mm_cats, mm_cat, mm_reti, mm_retz, mm_retl, mm_reta, mm_retv, mm_set1, mm_set2, mm_kill, List.getElem?_cons_zero, List.getElem?_cons_succ, Int.reduceToNat, ↓reduceIte, Nat.reduceEqDiff, Nat.reduceDiv, Nat.reduceAdd, Nat.reduceLeDiff, Nat.zero_le, true_and, and_true, true_or, or_true, mm_b0, mm_b1, mm_lc_lt, mm_lc_le, mm_lc_gt, mm_lc_ge, mm_lc_eq, Int.not_lt, Int.not_le, Decidable.not_not, Int.sub_neg])
  all_goals first | assumption | (exact Or.inl rfl) | (exact Or.inr rfl) | (exact rfl) | trivial | omega
def t_Q_isPlanned : mmT := fun as M Q => match as with
  | [.inr (.inr o), .inl q] => isQ o ∧ 0 ≤ q ∧ q < 25 ∧ Q (some (vi (mm_b (¬ M (o + 1) q = 2 ∧ ¬ M (o + 1) q = 3 ∧ ¬ M (o + 1) q = 6)))) M
  | _ => False
set_option maxHeartbeats 4000000 in
set_option maxRecDepth 100000 in
theorem p_Q_isPlanned : ∀ as M Q, (∀ v ∈ as, mm_vin v) → mm_mem M → t_Q_isPlanned as M Q → (mm_ent as).length ≤ 2 ∧ mm_ok mb_Q_isPlanned [(201, t_Q_isPlannedKind)] (mm_entry 2 as) M Q := by
  intro as M Q hin hM h
  unfold t_Q_isPlanned at h
  split at h
  rotate_left
  · exact h.elim
  rename_i o q
  have hR_q : mm_R q := hin (vi q) (by simp)
  refine ⟨by simp [mm_ent], (show mm_ok mb_Q_isPlanned [(201, t_Q_isPlannedKind)] [some (vr o), some (vi q)] M Q from ?_)⟩
  intro J hJ
  obtain ⟨⟨ho, o1, o2, o3, o4, l1, l2, l3, l4⟩, h1, h2, h⟩ := h
  refine hJ 0 _ _ _ (show mm_wp _ _ _ mo_Q_isPlanned_0 _ _ _ from ?_)
  simp only [mo_Q_isPlanned_0, mm_wp, mm_ldi, mm_lda, mm_ldl, mm_sti, mm_sta, mm_stl, mm_inc, mm_2i, mm_mm, mm_2l, mm_lcmp, mm_i2l, mm_l2i, mm_cast8, mm_if1, mm_if2, mm_cmp, mm_swi, mm_sw, mm_pop1, mm_dup, mm_dup2, mm_geti, mm_geta, mm_puti, mm_iald, mm_bald, mm_aald, mm_iast, mm_bast, mm_alen, mm_acpy, mm_call, mm_callv, mm_recv, mm_pop, mm_find, mm_push, mm_cats, mm_cat, mm_reti, mm_retz, mm_retl, mm_reta, mm_retv, mm_set1, mm_set2, mm_kill, List.getElem?_cons_zero, List.getElem?_cons_succ, Int.reduceToNat, ↓reduceIte, Nat.reduceEqDiff, Nat.reduceDiv, Nat.reduceAdd, Nat.reduceLeDiff, Nat.zero_le, true_and, and_true, true_or, or_true, mm_b0, mm_b1, mm_lc_lt, mm_lc_le, mm_lc_gt, mm_lc_ge, mm_lc_eq, Int.not_lt, Int.not_le, Decidable.not_not, Int.sub_neg, t_Q_isPlannedKind, ho, o1, l1]
  exact ⟨⟨h1, h2⟩, by omega, h⟩
/-- memory with one more question -/
def qAdd (M : mmM) (o : Nat) (k f l t : Int) : mmM := mm_up (mm_up (mm_up (mm_up (mm_up M (o + 1) (M o 4) k) (o + 2) (M o 4) f) (o + 3) (M o 4) l) (o + 4) (M o 4) t) o 4 (M o 4 + 1)
def t_Q_add : mmT := fun as M Q => match as with
  | [.inr (.inr o), .inl k, .inl f, .inl l, .inl t] => isQ o ∧ 0 ≤ M o 4 ∧ M o 4 ≤ 24 ∧ Q none (qAdd M o k f l t)
  | _ => False
set_option maxHeartbeats 4000000 in
set_option maxRecDepth 100000 in
theorem p_Q_add : ∀ as M Q, (∀ v ∈ as, mm_vin v) → mm_mem M → t_Q_add as M Q → (mm_ent as).length ≤ 5 ∧ mm_ok mb_Q_add [] (mm_entry 5 as) M Q := by
  intro as M Q hin hM h
  unfold t_Q_add at h
  split at h
  rotate_left
  · exact h.elim
  rename_i o k f l t
  have hR_k : mm_R k := hin (vi k) (by simp)
  have hR_f : mm_R f := hin (vi f) (by simp)
  have hR_l : mm_R l := hin (vi l) (by simp)
  have hR_t : mm_R t := hin (vi t) (by simp)
  refine ⟨by simp [mm_ent], (show mm_ok mb_Q_add [] [some (vr o), some (vi k), some (vi f), some (vi l), some (vi t)] M Q from ?_)⟩
  intro J hJ
  obtain ⟨⟨ho, o1, o2, o3, o4, l1, l2, l3, l4⟩, h1, h2, h⟩ := h
  have e : ∀ (M1 : mmM) (d : Nat) (i v : Int), 0 < d → mm_up M1 (o + d) i v o = M1 o := fun M1 d i v hd => mm_up_o _ _ (by omega)
  have e1 : ∀ (M1 : mmM) (i v : Int), mm_up M1 (o + 1) i v o = M1 o := fun M1 i v => e M1 1 i v (by omega)
  have e2 : ∀ (M1 : mmM) (i v : Int), mm_up M1 (o + 2) i v o = M1 o := fun M1 i v => e M1 2 i v (by omega)
  have e3 : ∀ (M1 : mmM) (i v : Int), mm_up M1 (o + 3) i v o = M1 o := fun M1 i v => e M1 3 i v (by omega)
  have e4 : ∀ (M1 : mmM) (i v : Int), mm_up M1 (o + 4) i v o = M1 o := fun M1 i v => e M1 4 i v (by omega)
  unfold qAdd at h
  repeat' first | (refine And.intro ?_ ?_) | (intro _) | (refine hJ 0 _ _ _ ?_; show mm_wp _ _ _ mo_Q_add_0 _ _ _; simp only [mo_Q_add_0, mm_wp, mm_ldi, mm_lda, mm_ldl, mm_sti, mm_sta, mm_stl, mm_inc, mm_2i, mm_mm, mm_2l, mm_lcmp, mm_i2l, mm_l2i, mm_cast8, mm_if1, mm_if2, mm_cmp, mm_swi, mm_sw, mm_pop1, mm_dup, mm_dup2, mm_geti, mm_geta, mm_puti, mm_iald, mm_bald, mm_aald, mm_iast, mm_bast, mm_alen, mm_acpy, mm_call, mm_callv, mm_recv, mm_pop, mm_find, mm_push, mm_cats, mm_cat, mm_reti, mm_retz, mm_retl, mm_reta, mm_retv, mm_set1, mm_set2, mm_kill, List.getElem?_cons_zero, List.getElem?_cons_succ, Int.reduceToNat, ↓reduceIte, Nat.reduceEqDiff, Nat.reduceDiv, Nat.reduceAdd, Nat.reduceLeDiff, Nat.zero_le, true_and, and_true, true_or, or_true, mm_b0, mm_b1, mm_lc_lt, mm_lc_le, mm_lc_gt, mm_lc_ge, mm_lc_eq, Int.not_lt, Int.not_le, Decidable.not_not, Int.sub_neg, ho, o1, o2, o3, o4, l1, l2, l3, l4, e1, e2, e3, e4]) | (refine hJ 60 _ _ _ ?_; show mm_wp _ _ _ mo_Q_add_60 _ _ _; simp only [mo_Q_add_60, mm_wp, mm_ldi, mm_lda, mm_ldl, mm_sti, mm_sta, mm_stl, mm_inc, mm_2i, mm_mm, mm_2l, mm_lcmp, mm_i2l, mm_l2i, mm_cast8, mm_if1, mm_if2, mm_cmp, mm_swi, mm_sw, mm_pop1, mm_dup, mm_dup2, mm_geti, mm_geta, mm_puti, mm_iald, mm_bald, mm_aald, mm_iast, mm_bast, mm_alen, mm_acpy, mm_call, mm_callv, mm_recv, mm_pop, mm_find, mm_push, mm_cats, mm_cat, mm_reti, mm_retz, mm_retl, mm_reta, mm_retv, mm_set1, mm_set2, mm_kill, List.getElem?_cons_zero, List.getElem?_cons_succ, Int.reduceToNat, ↓reduceIte, Nat.reduceEqDiff, Nat.reduceDiv, Nat.reduceAdd, Nat.reduceLeDiff, Nat.zero_le, true_and, and_true, true_or, or_true, mm_b0, mm_b1, mm_lc_lt, mm_lc_le, mm_lc_gt, mm_lc_ge, mm_lc_eq, Int.not_lt, Int.not_le, Decidable.not_not, Int.sub_neg, ho, o1, o2, o3, o4, l1, l2, l3, l4, e1, e2, e3, e4])
  all_goals first | assumption | (exact Or.inl rfl) | (exact Or.inr rfl) | (exact rfl) | trivial | omega
/-- two questions are alike -/
def qAl (k f l t : Int → Int) (p q : Int) : Prop := k p = k q ∧ f p = f q ∧ l p = l q ∧ t p = t q
theorem qAl_symm {k f l t : Int → Int} {p q : Int} : qAl k f l t p q ↔ qAl k f l t q p := by
  unfold qAl
  constructor <;> (rintro ⟨a, b, c, d⟩; exact ⟨a.symm, b.symm, c.symm, d.symm⟩)
def t_Q_areAlike : mmT := fun as M Q => match as with
  | [.inr (.inr o), .inl q, .inl r] => isQ o ∧ 0 ≤ q ∧ q < 25 ∧ 0 ≤ r ∧ r < 25 ∧ Q (some (vi (mm_c (qAl (M (o + 1)) (M (o + 2)) (M (o + 3)) (M (o + 4)) q r)))) M
  | _ => False
set_option maxHeartbeats 4000000 in
set_option maxRecDepth 100000 in
theorem p_Q_areAlike : ∀ as M Q, (∀ v ∈ as, mm_vin v) → mm_mem M → t_Q_areAlike as M Q → (mm_ent as).length ≤ 3 ∧ mm_ok mb_Q_areAlike [] (mm_entry 3 as) M Q := by
  intro as M Q hin hM h
  unfold t_Q_areAlike at h
  split at h
  rotate_left
  · exact h.elim
  rename_i o q r
  have hR_q : mm_R q := hin (vi q) (by simp)
  have hR_r : mm_R r := hin (vi r) (by simp)
  refine ⟨by simp [mm_ent], (show mm_ok mb_Q_areAlike [] [some (vr o), some (vi q), some (vi r)] M Q from ?_)⟩
  intro J hJ
  obtain ⟨⟨ho, o1, o2, o3, o4, l1, l2, l3, l4⟩, h1, h2, h3, h4, h⟩ := h
  repeat' first | (refine And.intro ?_ ?_) | (intro _) | (refine hJ 0 _ _ _ ?_; show mm_wp _ _ _ mo_Q_areAlike_0 _ _ _; simp only [mo_Q_areAlike_0, mm_wp, mm_ldi, mm_lda, mm_ldl, mm_sti, mm_sta, mm_stl, mm_inc, mm_2i, mm_mm, mm_2l, mm_lcmp, mm_i2l, mm_l2i, mm_cast8, mm_if1, mm_if2, mm_cmp, mm_swi, mm_sw, mm_pop1, mm_dup, mm_dup2, mm_geti, mm_geta, mm_puti, mm_iald, mm_bald, mm_aald, mm_iast, mm_bast, mm_alen, mm_acpy, mm_call, mm_callv, mm_recv, mm_pop, mm_find, mm_push, mm_cats, mm_cat, mm_reti, mm_retz, mm_retl, mm_reta, mm_retv, mm_set1, mm_set2, mm_kill, List.getElem?_cons_zero, List.getElem?_cons_succ, Int.reduceToNat, ↓reduceIte, Nat.reduceEqDiff, Nat.reduceDiv, Nat.reduceAdd, Nat.reduceLeDiff, Nat.zero_le, true_and, and_true, true_or, or_true, mm_b0, mm_b1, mm_lc_lt, mm_lc_le, mm_lc_gt, mm_lc_ge, mm_lc_eq, Int.not_lt, Int.not_le, Decidable.not_not, Int.sub_neg, ho, o1, o2, o3, o4, l1, l2, l3, l4]) | (refine hJ 64 _ _ _ ?_; show mm_wp _ _ _ mo_Q_areAlike_64 _ _ _; simp only [mo_Q_areAlike_64, mm_wp, mm_ldi, mm_lda, mm_ldl, mm_sti, mm_sta, mm_stl, mm_inc, mm_2i, mm_mm, mm_2l, mm_lcmp, mm_i2l, mm_l2i, mm_cast8, mm_if1, mm_if2, mm_cmp, mm_swi, mm_sw, mm_pop1, mm_dup, mm_dup2, mm_geti, mm_geta, mm_puti, mm_iald, mm_bald, mm_aald, mm_iast, mm_bast, mm_alen, mm_acpy, mm_call, mm_callv, mm_recv, mm_pop, mm_find, mm_push, mm_cats, mm_cat, mm_reti, mm_retz, mm_retl, mm_reta, mm_retv, mm_set1, mm_set2, mm_kill, List.getElem?_cons_zero, List.getElem?_cons_succ, Int.reduceToNat, ↓reduceIte, Nat.reduceEqDiff, Nat.reduceDiv, Nat.reduceAdd, Nat.reduceLeDiff, Nat.zero_le, true_and, and_true, true_or, or_true, mm_b0, mm_b1, mm_lc_lt, mm_lc_le, mm_lc_gt, mm_lc_ge, mm_lc_eq, Int.not_lt, Int.not_le, Decidable.not_not, Int.sub_neg, ho, o1, o2, o3, o4, l1, l2, l3, l4]) | (refine hJ 65 _ _ _ ?_; show mm_wp _ _ _ mo_Q_areAlike_65 _ _ _; simp only [mo_Q_areAlike_65, mm_wp, mm_ldi, mm_lda, mm_ldl, mm_sti, mm_sta, mm_stl, mm_inc, mm_2i, mm_mm, mm_2l, mm_lcmp, mm_i2l, mm_l2i, mm_cast8, mm_if1, mm_if2, mm_cmp, mm_swi, mm_sw, mm_pop1, mm_dup, mm_dup2, mm_geti, mm_geta, mm_puti, mm_iald, mm_bald, mm_aald, mm_iast, mm_bast, mm_alen, mm_acpy, mm_call, mm_callv, mm_recv, mm_pop, mm_find, mm_push, mm_cats, mm_cat, mm_reti, mm_retz, mm_retl, mm_reta, mm_retv, mm_set1, mm_set2, mm_kill, List.getElem?_cons_zero, List.getElem?_cons_succ, Int.reduceToNat, ↓reduceIte, Nat.reduceEqDiff, Nat.reduceDiv, Nat.reduceAdd, Nat.reduceLeDiff, Nat.zero_le, true_and, and_true, true_or, or_true, mm_b0, mm_b1, mm_lc_lt, mm_lc_le, mm_lc_gt, mm_lc_ge, mm_lc_eq, Int.not_lt, Int.not_le, Decidable.not_not, Int.sub_neg, ho, o1, o2, o3, o4, l1, l2, l3, l4])
  all_goals first | assumption | (exact Or.inl rfl) | (exact Or.inr rfl) | (exact rfl) | trivial | omega | (rw [mm_cF (by unfold qAl; omega)] at h; exact h) | (rw [mm_cT (by unfold qAl; omega)] at h; exact h)
/-- r is the first that is like q -/
def qFi (k f l t : Int → Int) (q r : Int) : Prop := 0 ≤ r ∧ r ≤ q ∧ qAl k f l t q r ∧ ∀ r', 0 ≤ r' → r' < r → ¬ qAl k f l t q r'
theorem mm_c0 (P : Prop) : mm_c P = 0 ↔ ¬ P := by
  by_cases h : P
  · rw [mm_cT h]; simp [h]
  · rw [mm_cF h]; simp [h]
def t_Q_firstAlike : mmT := fun as M Q => match as with
  | [.inr (.inr o), .inl q] => isQ o ∧ 0 ≤ q ∧ q < 25 ∧ ∀ r, qFi (M (o + 1)) (M (o + 2)) (M (o + 3)) (M (o + 4)) q r → Q (some (vi r)) M
  | _ => False
set_option maxHeartbeats 4000000 in
set_option maxRecDepth 100000 in
theorem p_Q_firstAlike : ∀ as M Q, (∀ v ∈ as, mm_vin v) → mm_mem M → t_Q_firstAlike as M Q → (mm_ent as).length ≤ 3 ∧ mm_ok mb_Q_firstAlike [(207, t_Q_areAlike)] (mm_entry 3 as) M Q := by
  intro as M Q hin hM h
  unfold t_Q_firstAlike at h
  split at h
  rotate_left
  · exact h.elim
  rename_i o q
  have hR_q : mm_R q := hin (vi q) (by simp)
  refine ⟨by simp [mm_ent], (show mm_ok mb_Q_firstAlike [(207, t_Q_areAlike)] [some (vr o), some (vi q), none] M Q from ?_)⟩
  intro J hJ
  obtain ⟨hq, h1, h2, h⟩ := h
  have ho : mm_cls o = 2 := hq.1
  have h24 : ∀ x, (∀ r', 0 ≤ r' → r' < q → ¬ qAl (M (o + 1)) (M (o + 2)) (M (o + 3)) (M (o + 4)) q r') → J 24 [some (vr o), some (vi q), some (vi x)] [] M := by
    intro x hx
    refine hJ 24 _ _ _ (show mm_wp _ _ _ mo_Q_firstAlike_24 _ _ _ from ?_)
    simp only [mo_Q_firstAlike_24, mm_wp, mm_ldi, mm_lda, mm_ldl, mm_sti, mm_sta, mm_stl, mm_inc, mm_2i, mm_mm, mm_2l, mm_lcmp, mm_i2l, mm_l2i, mm_cast8, mm_if1, mm_if2, mm_cmp, mm_swi, mm_sw, mm_pop1, mm_dup, mm_dup2, mm_geti, mm_geta, mm_puti, mm_iald, mm_bald, mm_aald, mm_iast, mm_bast, mm_alen, mm_acpy, mm_call, mm_callv, mm_recv, mm_pop, mm_find, mm_push, mm_cats, mm_cat, mm_reti, mm_retz, mm_retl, mm_reta, mm_retv, mm_set1, mm_set2, mm_kill, List.getElem?_cons_zero, List.getElem?_cons_succ, Int.reduceToNat, ↓reduceIte, Nat.reduceEqDiff, Nat.reduceDiv, Nat.reduceAdd, Nat.reduceLeDiff, Nat.zero_le, true_and, and_true, true_or, or_true, mm_b0, mm_b1, mm_lc_lt, mm_lc_le, mm_lc_gt, mm_lc_ge, mm_lc_eq, Int.not_lt, Int.not_le, Decidable.not_not, Int.sub_neg]
    exact h q ⟨h1, Int.le_refl q, ⟨rfl, rfl, rfl, rfl⟩, hx⟩
  have hl : ∀ (d : Nat) (i : Int), 0 ≤ i → i ≤ q → (q - i).toNat = d → (∀ r', 0 ≤ r' → r' < i → ¬ qAl (M (o + 1)) (M (o + 2)) (M (o + 3)) (M (o + 4)) q r') → J 2 [some (vr o), some (vi q), some (vi i)] [] M := by
    intro d
    induction d with
    | zero =>
      intro i i0 i1 i2 hx
      refine hJ 2 _ _ _ (show mm_wp _ _ _ mo_Q_firstAlike_2 _ _ _ from ?_)
      simp only [mo_Q_firstAlike_2, mm_wp, mm_ldi, mm_lda, mm_ldl, mm_sti, mm_sta, mm_stl, mm_inc, mm_2i, mm_mm, mm_2l, mm_lcmp, mm_i2l, mm_l2i, mm_cast8, mm_if1, mm_if2, mm_cmp, mm_swi, mm_sw, mm_pop1, mm_dup, mm_dup2, mm_geti, mm_geta, mm_puti, mm_iald, mm_bald, mm_aald, mm_iast, mm_bast, mm_alen, mm_acpy, mm_call, mm_callv, mm_recv, mm_pop, mm_find, mm_push, mm_cats, mm_cat, mm_reti, mm_retz, mm_retl, mm_reta, mm_retv, mm_set1, mm_set2, mm_kill, List.getElem?_cons_zero, List.getElem?_cons_succ, Int.reduceToNat, ↓reduceIte, Nat.reduceEqDiff, Nat.reduceDiv, Nat.reduceAdd, Nat.reduceLeDiff, Nat.zero_le, true_and, and_true, true_or, or_true, mm_b0, mm_b1, mm_lc_lt, mm_lc_le, mm_lc_gt, mm_lc_ge, mm_lc_eq, Int.not_lt, Int.not_le, Decidable.not_not, Int.sub_neg]
      exact ⟨fun _ => h24 _ (fun r' a b => hx r' a (by omega)), fun q2 => by omega⟩
    | succ d ih =>
      intro i i0 i1 i2 hx
      have h18 : ¬ qAl (M (o + 1)) (M (o + 2)) (M (o + 3)) (M (o + 4)) q i → J 18 [some (vr o), some (vi q), some (vi i)] [] M := by
        intro hn
        refine hJ 18 _ _ _ (show mm_wp _ _ _ mo_Q_firstAlike_18 _ _ _ from ?_)
        simp only [mo_Q_firstAlike_18, mm_wp, mm_ldi, mm_lda, mm_ldl, mm_sti, mm_sta, mm_stl, mm_inc, mm_2i, mm_mm, mm_2l, mm_lcmp, mm_i2l, mm_l2i, mm_cast8, mm_if1, mm_if2, mm_cmp, mm_swi, mm_sw, mm_pop1, mm_dup, mm_dup2, mm_geti, mm_geta, mm_puti, mm_iald, mm_bald, mm_aald, mm_iast, mm_bast, mm_alen, mm_acpy, mm_call, mm_callv, mm_recv, mm_pop, mm_find, mm_push, mm_cats, mm_cat, mm_reti, mm_retz, mm_retl, mm_reta, mm_retv, mm_set1, mm_set2, mm_kill, List.getElem?_cons_zero, List.getElem?_cons_succ, Int.reduceToNat, ↓reduceIte, Nat.reduceEqDiff, Nat.reduceDiv, Nat.reduceAdd, Nat.reduceLeDiff, Nat.zero_le, true_and, and_true, true_or, or_true, mm_b0, mm_b1, mm_lc_lt, mm_lc_le, mm_lc_gt, mm_lc_ge, mm_lc_eq, Int.not_lt, Int.not_le, Decidable.not_not, Int.sub_neg]
        refine ⟨by omega, ih (i + 1) (by omega) (by omega) (by omega) (fun r' a b => ?_)⟩
        by_cases hr : r' = i
        · rw [hr]; exact hn
        · exact hx r' a (by omega)
      refine hJ 2 _ _ _ (show mm_wp _ _ _ mo_Q_firstAlike_2 _ _ _ from ?_)
      simp only [mo_Q_firstAlike_2, mm_wp, mm_ldi, mm_lda, mm_ldl, mm_sti, mm_sta, mm_stl, mm_inc, mm_2i, mm_mm, mm_2l, mm_lcmp, mm_i2l, mm_l2i, mm_cast8, mm_if1, mm_if2, mm_cmp, mm_swi, mm_sw, mm_pop1, mm_dup, mm_dup2, mm_geti, mm_geta, mm_puti, mm_iald, mm_bald, mm_aald, mm_iast, mm_bast, mm_alen, mm_acpy, mm_call, mm_callv, mm_recv, mm_pop, mm_find, mm_push, mm_cats, mm_cat, mm_reti, mm_retz, mm_retl, mm_reta, mm_retv, mm_set1, mm_set2, mm_kill, List.getElem?_cons_zero, List.getElem?_cons_succ, Int.reduceToNat, ↓reduceIte, Nat.reduceEqDiff, Nat.reduceDiv, Nat.reduceAdd, Nat.reduceLeDiff, Nat.zero_le, true_and, and_true, true_or, or_true, mm_b0, mm_b1, mm_lc_lt, mm_lc_le, mm_lc_gt, mm_lc_ge, mm_lc_eq, Int.not_lt, Int.not_le, Decidable.not_not, Int.sub_neg, t_Q_areAlike, ho, mm_c0]
      refine ⟨fun q2 => by omega, fun _ => ⟨hq, by omega, by omega, by omega, by omega, h18, fun hc => h i ⟨i0, i1, Classical.not_not.mp hc, hx⟩⟩⟩
  refine hJ 0 _ _ _ (show mm_wp _ _ _ mo_Q_firstAlike_0 _ _ _ from ?_)
  simp only [mo_Q_firstAlike_0, mm_wp, mm_ldi, mm_lda, mm_ldl, mm_sti, mm_sta, mm_stl, mm_inc, mm_2i, mm_mm, mm_2l, mm_lcmp, mm_i2l, mm_l2i, mm_cast8, mm_if1, mm_if2, mm_cmp, mm_swi, mm_sw, mm_pop1, mm_dup, mm_dup2, mm_geti, mm_geta, mm_puti, mm_iald, mm_bald, mm_aald, mm_iast, mm_bast, mm_alen, mm_acpy, mm_call, mm_callv, mm_recv, mm_pop, mm_find, mm_push, mm_cats, mm_cat, mm_reti, mm_retz, mm_retl, mm_reta, mm_retv, mm_set1, mm_set2, mm_kill, List.getElem?_cons_zero, List.getElem?_cons_succ, Int.reduceToNat, ↓reduceIte, Nat.reduceEqDiff, Nat.reduceDiv, Nat.reduceAdd, Nat.reduceLeDiff, Nat.zero_le, true_and, and_true, true_or, or_true, mm_b0, mm_b1, mm_lc_lt, mm_lc_le, mm_lc_gt, mm_lc_ge, mm_lc_eq, Int.not_lt, Int.not_le, Decidable.not_not, Int.sub_neg]
  exact hl _ 0 (by omega) h1 rfl (fun r' a b => by omega)
def t_Q_howManyAlike : mmT := fun as M Q => match as with
  | [.inr (.inr o), .inl q] => isQ o ∧ 0 ≤ q ∧ q < 25 ∧ 0 ≤ M o 4 ∧ M o 4 ≤ 25 ∧ Q (some (vi (sN (fun r => mm_c (qAl (M (o + 1)) (M (o + 2)) (M (o + 3)) (M (o + 4)) q r)) (M o 4).toNat))) M
  | _ => False
set_option maxHeartbeats 4000000 in
set_option maxRecDepth 100000 in
theorem p_Q_howManyAlike : ∀ as M Q, (∀ v ∈ as, mm_vin v) → mm_mem M → t_Q_howManyAlike as M Q → (mm_ent as).length ≤ 4 ∧ mm_ok mb_Q_howManyAlike [(207, t_Q_areAlike)] (mm_entry 4 as) M Q := by
  intro as M Q hin hM h
  unfold t_Q_howManyAlike at h
  split at h
  rotate_left
  · exact h.elim
  rename_i o q
  have hR_q : mm_R q := hin (vi q) (by simp)
  refine ⟨by simp [mm_ent], (show mm_ok mb_Q_howManyAlike [(207, t_Q_areAlike)] [some (vr o), some (vi q), none, none] M Q from ?_)⟩
  intro J hJ
  obtain ⟨hq, h1, h2, h3, h4, h⟩ := h
  have ho : mm_cls o = 2 := hq.1
  generalize hf : (fun r => mm_c (qAl (M (o + 1)) (M (o + 2)) (M (o + 3)) (M (o + 4)) q r)) = f at h
  have hfv : ∀ r, f r = mm_c (qAl (M (o + 1)) (M (o + 2)) (M (o + 3)) (M (o + 4)) q r) := fun r => by rw [← hf]
  have hb : ∀ n : Nat, 0 ≤ sN f n ∧ sN f n ≤ n := fun n => by
    have := sN_b (f := f) (a := 0) (b := 1) n (fun k _ => by rw [hfv]; exact mm_c01 _)
    omega
  have hl : ∀ (d k : Nat), k + d = (M o 4).toNat → J 4 [some (vr o), some (vi q), some (vi (sN f k)), some (vi k)] [] M := by
    intro d
    induction d with
    | zero =>
      intro k hk
      have h30 : J 30 [some (vr o), some (vi q), some (vi (sN f k)), some (vi k)] [] M := by
        refine hJ 30 _ _ _ (show mm_wp _ _ _ mo_Q_howManyAlike_30 _ _ _ from ?_)
        simp only [mo_Q_howManyAlike_30, mm_wp, mm_ldi, mm_lda, mm_ldl, mm_sti, mm_sta, mm_stl, mm_inc, mm_2i, mm_mm, mm_2l, mm_lcmp, mm_i2l, mm_l2i, mm_cast8, mm_if1, mm_if2, mm_cmp, mm_swi, mm_sw, mm_pop1, mm_dup, mm_dup2, mm_geti, mm_geta, mm_puti, mm_iald, mm_bald, mm_aald, mm_iast, mm_bast, mm_alen, mm_acpy, mm_call, mm_callv, mm_recv, mm_pop, mm_find, mm_push, mm_cats, mm_cat, mm_reti, mm_retz, mm_retl, mm_reta, mm_retv, mm_set1, mm_set2, mm_kill, List.getElem?_cons_zero, List.getElem?_cons_succ, Int.reduceToNat, ↓reduceIte, Nat.reduceEqDiff, Nat.reduceDiv, Nat.reduceAdd, Nat.reduceLeDiff, Nat.zero_le, true_and, and_true, true_or, or_true, mm_b0, mm_b1, mm_lc_lt, mm_lc_le, mm_lc_gt, mm_lc_ge, mm_lc_eq, Int.not_lt, Int.not_le, Decidable.not_not, Int.sub_neg]
        rw [show k = (M o 4).toNat by omega]
        exact h
      refine hJ 4 _ _ _ (show mm_wp _ _ _ mo_Q_howManyAlike_4 _ _ _ from ?_)
      simp only [mo_Q_howManyAlike_4, mm_wp, mm_ldi, mm_lda, mm_ldl, mm_sti, mm_sta, mm_stl, mm_inc, mm_2i, mm_mm, mm_2l, mm_lcmp, mm_i2l, mm_l2i, mm_cast8, mm_if1, mm_if2, mm_cmp, mm_swi, mm_sw, mm_pop1, mm_dup, mm_dup2, mm_geti, mm_geta, mm_puti, mm_iald, mm_bald, mm_aald, mm_iast, mm_bast, mm_alen, mm_acpy, mm_call, mm_callv, mm_recv, mm_pop, mm_find, mm_push, mm_cats, mm_cat, mm_reti, mm_retz, mm_retl, mm_reta, mm_retv, mm_set1, mm_set2, mm_kill, List.getElem?_cons_zero, List.getElem?_cons_succ, Int.reduceToNat, ↓reduceIte, Nat.reduceEqDiff, Nat.reduceDiv, Nat.reduceAdd, Nat.reduceLeDiff, Nat.zero_le, true_and, and_true, true_or, or_true, mm_b0, mm_b1, mm_lc_lt, mm_lc_le, mm_lc_gt, mm_lc_ge, mm_lc_eq, Int.not_lt, Int.not_le, Decidable.not_not, Int.sub_neg, ho]
      exact ⟨fun _ => h30, fun q2 => by omega⟩
    | succ d ih =>
      intro k hk
      have hk1 := hb k
      have h24 : ∀ z, z = sN f (k + 1) → J 24 [some (vr o), some (vi q), some (vi z), some (vi k)] [] M := by
        intro z hz
        refine hJ 24 _ _ _ (show mm_wp _ _ _ mo_Q_howManyAlike_24 _ _ _ from ?_)
        simp only [mo_Q_howManyAlike_24, mm_wp, mm_ldi, mm_lda, mm_ldl, mm_sti, mm_sta, mm_stl, mm_inc, mm_2i, mm_mm, mm_2l, mm_lcmp, mm_i2l, mm_l2i, mm_cast8, mm_if1, mm_if2, mm_cmp, mm_swi, mm_sw, mm_pop1, mm_dup, mm_dup2, mm_geti, mm_geta, mm_puti, mm_iald, mm_bald, mm_aald, mm_iast, mm_bast, mm_alen, mm_acpy, mm_call, mm_callv, mm_recv, mm_pop, mm_find, mm_push, mm_cats, mm_cat, mm_reti, mm_retz, mm_retl, mm_reta, mm_retv, mm_set1, mm_set2, mm_kill, List.getElem?_cons_zero, List.getElem?_cons_succ, Int.reduceToNat, ↓reduceIte, Nat.reduceEqDiff, Nat.reduceDiv, Nat.reduceAdd, Nat.reduceLeDiff, Nat.zero_le, true_and, and_true, true_or, or_true, mm_b0, mm_b1, mm_lc_lt, mm_lc_le, mm_lc_gt, mm_lc_ge, mm_lc_eq, Int.not_lt, Int.not_le, Decidable.not_not, Int.sub_neg]
        refine ⟨by omega, ?_⟩
        rw [hz]
        exact ih (k + 1) (by omega)
      refine hJ 4 _ _ _ (show mm_wp _ _ _ mo_Q_howManyAlike_4 _ _ _ from ?_)
      simp only [mo_Q_howManyAlike_4, mm_wp, mm_ldi, mm_lda, mm_ldl, mm_sti, mm_sta, mm_stl, mm_inc, mm_2i, mm_mm, mm_2l, mm_lcmp, mm_i2l, mm_l2i, mm_cast8, mm_if1, mm_if2, mm_cmp, mm_swi, mm_sw, mm_pop1, mm_dup, mm_dup2, mm_geti, mm_geta, mm_puti, mm_iald, mm_bald, mm_aald, mm_iast, mm_bast, mm_alen, mm_acpy, mm_call, mm_callv, mm_recv, mm_pop, mm_find, mm_push, mm_cats, mm_cat, mm_reti, mm_retz, mm_retl, mm_reta, mm_retv, mm_set1, mm_set2, mm_kill, List.getElem?_cons_zero, List.getElem?_cons_succ, Int.reduceToNat, ↓reduceIte, Nat.reduceEqDiff, Nat.reduceDiv, Nat.reduceAdd, Nat.reduceLeDiff, Nat.zero_le, true_and, and_true, true_or, or_true, mm_b0, mm_b1, mm_lc_lt, mm_lc_le, mm_lc_gt, mm_lc_ge, mm_lc_eq, Int.not_lt, Int.not_le, Decidable.not_not, Int.sub_neg, t_Q_areAlike, ho, mm_c0]
      refine ⟨fun q2 => by omega, fun _ => ⟨hq, by omega, by omega, by omega, by omega, fun hn => h24 _ ?_, fun hn => ⟨by omega, h24 _ ?_⟩⟩⟩
      · show _ = sN f k + f k
        rw [hfv, mm_cF hn]; omega
      · show _ = sN f k + f k
        rw [hfv, mm_cT (Classical.not_not.mp hn)]
  refine hJ 0 _ _ _ (show mm_wp _ _ _ mo_Q_howManyAlike_0 _ _ _ from ?_)
  simp only [mo_Q_howManyAlike_0, mm_wp, mm_ldi, mm_lda, mm_ldl, mm_sti, mm_sta, mm_stl, mm_inc, mm_2i, mm_mm, mm_2l, mm_lcmp, mm_i2l, mm_l2i, mm_cast8, mm_if1, mm_if2, mm_cmp, mm_swi, mm_sw, mm_pop1, mm_dup, mm_dup2, mm_geti, mm_geta, mm_puti, mm_iald, mm_bald, mm_aald, mm_iast, mm_bast, mm_alen, mm_acpy, mm_call, mm_callv, mm_recv, mm_pop, mm_find, mm_push, mm_cats, mm_cat, mm_reti, mm_retz, mm_retl, mm_reta, mm_retv, mm_set1, mm_set2, mm_kill, List.getElem?_cons_zero, List.getElem?_cons_succ, Int.reduceToNat, ↓reduceIte, Nat.reduceEqDiff, Nat.reduceDiv, Nat.reduceAdd, Nat.reduceLeDiff, Nat.zero_le, true_and, and_true, true_or, or_true, mm_b0, mm_b1, mm_lc_lt, mm_lc_le, mm_lc_gt, mm_lc_ge, mm_lc_eq, Int.not_lt, Int.not_le, Decidable.not_not, Int.sub_neg]
  exact hl _ 0 (Nat.zero_add _)
def t_Q_unlikeOnes : mmT := fun as M Q => match as with
  | [.inr (.inr o)] => isQ o ∧ 0 ≤ M o 4 ∧ M o 4 ≤ 25 ∧ Q (some (vi (sN (fun q => mm_c (qFi (M (o + 1)) (M (o + 2)) (M (o + 3)) (M (o + 4)) q q)) (M o 4).toNat))) M
  | _ => False
theorem qFi_uniq {k f l t : Int → Int} {q r r' : Int} (h : qFi k f l t q r) (h' : qFi k f l t q r') : r = r' := by
  obtain ⟨a1, a2, a3, a4⟩ := h
  obtain ⟨b1, b2, b3, b4⟩ := h'
  rcases Int.lt_trichotomy r r' with c | c | c
  · exact absurd a3 (b4 r a1 c)
  · exact c
  · exact absurd b3 (a4 r' b1 c)
set_option maxHeartbeats 4000000 in
set_option maxRecDepth 100000 in
theorem p_Q_unlikeOnes : ∀ as M Q, (∀ v ∈ as, mm_vin v) → mm_mem M → t_Q_unlikeOnes as M Q → (mm_ent as).length ≤ 3 ∧ mm_ok mb_Q_unlikeOnes [(208, t_Q_firstAlike)] (mm_entry 3 as) M Q := by
  intro as M Q hin hM h
  unfold t_Q_unlikeOnes at h
  split at h
  rotate_left
  · exact h.elim
  rename_i o
  refine ⟨by simp [mm_ent], (show mm_ok mb_Q_unlikeOnes [(208, t_Q_firstAlike)] [some (vr o), none, none] M Q from ?_)⟩
  intro J hJ
  obtain ⟨hq, h3, h4, h⟩ := h
  have ho : mm_cls o = 2 := hq.1
  generalize hf : (fun q => mm_c (qFi (M (o + 1)) (M (o + 2)) (M (o + 3)) (M (o + 4)) q q)) = f at h
  have hfv : ∀ r, f r = mm_c (qFi (M (o + 1)) (M (o + 2)) (M (o + 3)) (M (o + 4)) r r) := fun r => by rw [← hf]
  have hb : ∀ n : Nat, 0 ≤ sN f n ∧ sN f n ≤ n := fun n => by
    have := sN_b (f := f) (a := 0) (b := 1) n (fun k _ => by rw [hfv]; exact mm_c01 _)
    omega
  have hl : ∀ (d k : Nat), k + d = (M o 4).toNat → J 4 [some (vr o), some (vi (sN f k)), some (vi k)] [] M := by
    intro d
    induction d with
    | zero =>
      intro k hk
      have h30 : J 30 [some (vr o), some (vi (sN f k)), some (vi k)] [] M := by
        refine hJ 30 _ _ _ (show mm_wp _ _ _ mo_Q_unlikeOnes_30 _ _ _ from ?_)
        simp only [mo_Q_unlikeOnes_30, mm_wp, mm_ldi, mm_lda, mm_ldl, mm_sti, mm_sta, mm_stl, mm_inc, mm_2i, mm_mm, mm_2l, mm_lcmp, mm_i2l, mm_l2i, mm_cast8, mm_if1, mm_if2, mm_cmp, mm_swi, mm_sw, mm_pop1, mm_dup, mm_dup2, mm_geti, mm_geta, mm_puti, mm_iald, mm_bald, mm_aald, mm_iast, mm_bast, mm_alen, mm_acpy, mm_call, mm_callv, mm_recv, mm_pop, mm_find, mm_push, mm_cats, mm_cat, mm_reti, mm_retz, mm_retl, mm_reta, mm_retv, mm_set1, mm_set2, mm_kill, List.getElem?_cons_zero, List.getElem?_cons_succ, Int.reduceToNat, ↓reduceIte, Nat.reduceEqDiff, Nat.reduceDiv, Nat.reduceAdd, Nat.reduceLeDiff, Nat.zero_le, true_and, and_true, true_or, or_true, mm_b0, mm_b1, mm_lc_lt, mm_lc_le, mm_lc_gt, mm_lc_ge, mm_lc_eq, Int.not_lt, Int.not_le, Decidable.not_not, Int.sub_neg]
        rw [show k = (M o 4).toNat by omega]
        exact h
      refine hJ 4 _ _ _ (show mm_wp _ _ _ mo_Q_unlikeOnes_4 _ _ _ from ?_)
      simp only [mo_Q_unlikeOnes_4, mm_wp, mm_ldi, mm_lda, mm_ldl, mm_sti, mm_sta, mm_stl, mm_inc, mm_2i, mm_mm, mm_2l, mm_lcmp, mm_i2l, mm_l2i, mm_cast8, mm_if1, mm_if2, mm_cmp, mm_swi, mm_sw, mm_pop1, mm_dup, mm_dup2, mm_geti, mm_geta, mm_puti, mm_iald, mm_bald, mm_aald, mm_iast, mm_bast, mm_alen, mm_acpy, mm_call, mm_callv, mm_recv, mm_pop, mm_find, mm_push, mm_cats, mm_cat, mm_reti, mm_retz, mm_retl, mm_reta, mm_retv, mm_set1, mm_set2, mm_kill, List.getElem?_cons_zero, List.getElem?_cons_succ, Int.reduceToNat, ↓reduceIte, Nat.reduceEqDiff, Nat.reduceDiv, Nat.reduceAdd, Nat.reduceLeDiff, Nat.zero_le, true_and, and_true, true_or, or_true, mm_b0, mm_b1, mm_lc_lt, mm_lc_le, mm_lc_gt, mm_lc_ge, mm_lc_eq, Int.not_lt, Int.not_le, Decidable.not_not, Int.sub_neg, ho]
      exact ⟨fun _ => h30, fun q2 => by omega⟩
    | succ d ih =>
      intro k hk
      have hk1 := hb k
      have h24 : ∀ z, z = sN f (k + 1) → J 24 [some (vr o), some (vi z), some (vi k)] [] M := by
        intro z hz
        refine hJ 24 _ _ _ (show mm_wp _ _ _ mo_Q_unlikeOnes_24 _ _ _ from ?_)
        simp only [mo_Q_unlikeOnes_24, mm_wp, mm_ldi, mm_lda, mm_ldl, mm_sti, mm_sta, mm_stl, mm_inc, mm_2i, mm_mm, mm_2l, mm_lcmp, mm_i2l, mm_l2i, mm_cast8, mm_if1, mm_if2, mm_cmp, mm_swi, mm_sw, mm_pop1, mm_dup, mm_dup2, mm_geti, mm_geta, mm_puti, mm_iald, mm_bald, mm_aald, mm_iast, mm_bast, mm_alen, mm_acpy, mm_call, mm_callv, mm_recv, mm_pop, mm_find, mm_push, mm_cats, mm_cat, mm_reti, mm_retz, mm_retl, mm_reta, mm_retv, mm_set1, mm_set2, mm_kill, List.getElem?_cons_zero, List.getElem?_cons_succ, Int.reduceToNat, ↓reduceIte, Nat.reduceEqDiff, Nat.reduceDiv, Nat.reduceAdd, Nat.reduceLeDiff, Nat.zero_le, true_and, and_true, true_or, or_true, mm_b0, mm_b1, mm_lc_lt, mm_lc_le, mm_lc_gt, mm_lc_ge, mm_lc_eq, Int.not_lt, Int.not_le, Decidable.not_not, Int.sub_neg]
        refine ⟨by omega, ?_⟩
        rw [hz]
        exact ih (k + 1) (by omega)
      refine hJ 4 _ _ _ (show mm_wp _ _ _ mo_Q_unlikeOnes_4 _ _ _ from ?_)
      simp only [mo_Q_unlikeOnes_4, mm_wp, mm_ldi, mm_lda, mm_ldl, mm_sti, mm_sta, mm_stl, mm_inc, mm_2i, mm_mm, mm_2l, mm_lcmp, mm_i2l, mm_l2i, mm_cast8, mm_if1, mm_if2, mm_cmp, mm_swi, mm_sw, mm_pop1, mm_dup, mm_dup2, mm_geti, mm_geta, mm_puti, mm_iald, mm_bald, mm_aald, mm_iast, mm_bast, mm_alen, mm_acpy, mm_call, mm_callv, mm_recv, mm_pop, mm_find, mm_push, mm_cats, mm_cat, mm_reti, mm_retz, mm_retl, mm_reta, mm_retv, mm_set1, mm_set2, mm_kill, List.getElem?_cons_zero, List.getElem?_cons_succ, Int.reduceToNat, ↓reduceIte, Nat.reduceEqDiff, Nat.reduceDiv, Nat.reduceAdd, Nat.reduceLeDiff, Nat.zero_le, true_and, and_true, true_or, or_true, mm_b0, mm_b1, mm_lc_lt, mm_lc_le, mm_lc_gt, mm_lc_ge, mm_lc_eq, Int.not_lt, Int.not_le, Decidable.not_not, Int.sub_neg, t_Q_firstAlike, ho]
      refine ⟨fun q2 => by omega, fun _ => ⟨hq, by omega, by omega, fun r hr => ⟨fun hn => h24 _ ?_, fun hn => ⟨by omega, h24 _ ?_⟩⟩⟩⟩
      · show _ = sN f k + f k
        rw [hfv, mm_cF (fun z => hn (qFi_uniq hr z))]; omega
      · show _ = sN f k + f k
        rw [hfv, mm_cT (by rw [hn] at hr; exact hr)]
  refine hJ 0 _ _ _ (show mm_wp _ _ _ mo_Q_unlikeOnes_0 _ _ _ from ?_)
  simp only [mo_Q_unlikeOnes_0, mm_wp, mm_ldi, mm_lda, mm_ldl, mm_sti, mm_sta, mm_stl, mm_inc, mm_2i, mm_mm, mm_2l, mm_lcmp, mm_i2l, mm_l2i, mm_cast8, mm_if1, mm_if2, mm_cmp, mm_swi, mm_sw, mm_pop1, mm_dup, mm_dup2, mm_geti, mm_geta, mm_puti, mm_iald, mm_bald, mm_aald, mm_iast, mm_bast, mm_alen, mm_acpy, mm_call, mm_callv, mm_recv, mm_pop, mm_find, mm_push, mm_cats, mm_cat, mm_reti, mm_retz, mm_retl, mm_reta, mm_retv, mm_set1, mm_set2, mm_kill, List.getElem?_cons_zero, List.getElem?_cons_succ, Int.reduceToNat, ↓reduceIte, Nat.reduceEqDiff, Nat.reduceDiv, Nat.reduceAdd, Nat.reduceLeDiff, Nat.zero_le, true_and, and_true, true_or, or_true, mm_b0, mm_b1, mm_lc_lt, mm_lc_le, mm_lc_gt, mm_lc_ge, mm_lc_eq, Int.not_lt, Int.not_le, Decidable.not_not, Int.sub_neg]
  exact hl _ 0 (Nat.zero_add _)
def t_Q_howManyHave : mmT := fun as M Q => match as with
  | [.inr (.inr o), .inl i] => isQ o ∧ 0 ≤ M o 4 ∧ M o 4 ≤ 25 ∧ Q (some (vi (sN (fun q => mm_b (M (o + 2) q ≤ i ∧ i ≤ M (o + 3) q)) (M o 4).toNat))) M
  | _ => False
set_option maxHeartbeats 4000000 in
set_option maxRecDepth 100000 in
theorem p_Q_howManyHave : ∀ as M Q, (∀ v ∈ as, mm_vin v) → mm_mem M → t_Q_howManyHave as M Q → (mm_ent as).length ≤ 4 ∧ mm_ok mb_Q_howManyHave [] (mm_entry 4 as) M Q := by
  intro as M Q hin hM h
  unfold t_Q_howManyHave at h
  split at h
  rotate_left
  · exact h.elim
  rename_i o i
  have hR_i : mm_R i := hin (vi i) (by simp)
  refine ⟨by simp [mm_ent], (show mm_ok mb_Q_howManyHave [] [some (vr o), some (vi i), none, none] M Q from ?_)⟩
  intro J hJ
  obtain ⟨⟨ho, o1, o2, o3, o4, l1, l2, l3, l4⟩, h3, h4, h⟩ := h
  generalize hf : (fun q => mm_b (M (o + 2) q ≤ i ∧ i ≤ M (o + 3) q)) = f at h
  have hfv : ∀ q, f q = mm_b (M (o + 2) q ≤ i ∧ i ≤ M (o + 3) q) := fun r => by rw [← hf]
  have hb : ∀ n : Nat, 0 ≤ sN f n ∧ sN f n ≤ n := fun n => by
    have := sN_b (f := f) (a := 0) (b := 1) n (fun k _ => by rw [hfv]; exact mm_b_R _)
    omega
  have hl : ∀ (d k : Nat), k + d = (M o 4).toNat → J 4 [some (vr o), some (vi i), some (vi (sN f k)), some (vi k)] [] M := by
    intro d
    induction d with
    | zero =>
      intro k hk
      have h41 : J 41 [some (vr o), some (vi i), some (vi (sN f k)), some (vi k)] [] M := by
        refine hJ 41 _ _ _ (show mm_wp _ _ _ mo_Q_howManyHave_41 _ _ _ from ?_)
        simp only [mo_Q_howManyHave_41, mm_wp, mm_ldi, mm_lda, mm_ldl, mm_sti, mm_sta, mm_stl, mm_inc, mm_2i, mm_mm, mm_2l, mm_lcmp, mm_i2l, mm_l2i, mm_cast8, mm_if1, mm_if2, mm_cmp, mm_swi, mm_sw, mm_pop1, mm_dup, mm_dup2, mm_geti, mm_geta, mm_puti, mm_iald, mm_bald, mm_aald, mm_iast, mm_bast, mm_alen, mm_acpy, mm_call, mm_callv, mm_recv, mm_pop, mm_find, mm_push, mm_cats, mm_cat, mm_reti, mm_retz, mm_retl, mm_reta, mm_retv, mm_set1, mm_set2, mm_kill, List.getElem?_cons_zero, List.getElem?_cons_succ, Int.reduceToNat, ↓reduceIte, Nat.reduceEqDiff, Nat.reduceDiv, Nat.reduceAdd, Nat.reduceLeDiff, Nat.zero_le, true_and, and_true, true_or, or_true, mm_b0, mm_b1, mm_lc_lt, mm_lc_le, mm_lc_gt, mm_lc_ge, mm_lc_eq, Int.not_lt, Int.not_le, Decidable.not_not, Int.sub_neg]
        rw [show k = (M o 4).toNat by omega]
        exact h
      refine hJ 4 _ _ _ (show mm_wp _ _ _ mo_Q_howManyHave_4 _ _ _ from ?_)
      simp only [mo_Q_howManyHave_4, mm_wp, mm_ldi, mm_lda, mm_ldl, mm_sti, mm_sta, mm_stl, mm_inc, mm_2i, mm_mm, mm_2l, mm_lcmp, mm_i2l, mm_l2i, mm_cast8, mm_if1, mm_if2, mm_cmp, mm_swi, mm_sw, mm_pop1, mm_dup, mm_dup2, mm_geti, mm_geta, mm_puti, mm_iald, mm_bald, mm_aald, mm_iast, mm_bast, mm_alen, mm_acpy, mm_call, mm_callv, mm_recv, mm_pop, mm_find, mm_push, mm_cats, mm_cat, mm_reti, mm_retz, mm_retl, mm_reta, mm_retv, mm_set1, mm_set2, mm_kill, List.getElem?_cons_zero, List.getElem?_cons_succ, Int.reduceToNat, ↓reduceIte, Nat.reduceEqDiff, Nat.reduceDiv, Nat.reduceAdd, Nat.reduceLeDiff, Nat.zero_le, true_and, and_true, true_or, or_true, mm_b0, mm_b1, mm_lc_lt, mm_lc_le, mm_lc_gt, mm_lc_ge, mm_lc_eq, Int.not_lt, Int.not_le, Decidable.not_not, Int.sub_neg, ho]
      exact ⟨fun _ => h41, fun q2 => by omega⟩
    | succ d ih =>
      intro k hk
      have hk1 := hb k
      have h35 : ∀ z, z = sN f (k + 1) → J 35 [some (vr o), some (vi i), some (vi z), some (vi k)] [] M := by
        intro z hz
        refine hJ 35 _ _ _ (show mm_wp _ _ _ mo_Q_howManyHave_35 _ _ _ from ?_)
        simp only [mo_Q_howManyHave_35, mm_wp, mm_ldi, mm_lda, mm_ldl, mm_sti, mm_sta, mm_stl, mm_inc, mm_2i, mm_mm, mm_2l, mm_lcmp, mm_i2l, mm_l2i, mm_cast8, mm_if1, mm_if2, mm_cmp, mm_swi, mm_sw, mm_pop1, mm_dup, mm_dup2, mm_geti, mm_geta, mm_puti, mm_iald, mm_bald, mm_aald, mm_iast, mm_bast, mm_alen, mm_acpy, mm_call, mm_callv, mm_recv, mm_pop, mm_find, mm_push, mm_cats, mm_cat, mm_reti, mm_retz, mm_retl, mm_reta, mm_retv, mm_set1, mm_set2, mm_kill, List.getElem?_cons_zero, List.getElem?_cons_succ, Int.reduceToNat, ↓reduceIte, Nat.reduceEqDiff, Nat.reduceDiv, Nat.reduceAdd, Nat.reduceLeDiff, Nat.zero_le, true_and, and_true, true_or, or_true, mm_b0, mm_b1, mm_lc_lt, mm_lc_le, mm_lc_gt, mm_lc_ge, mm_lc_eq, Int.not_lt, Int.not_le, Decidable.not_not, Int.sub_neg]
        refine ⟨by omega, ?_⟩
        rw [hz]
        exact ih (k + 1) (by omega)
      refine hJ 4 _ _ _ (show mm_wp _ _ _ mo_Q_howManyHave_4 _ _ _ from ?_)
      simp only [mo_Q_howManyHave_4, mm_wp, mm_ldi, mm_lda, mm_ldl, mm_sti, mm_sta, mm_stl, mm_inc, mm_2i, mm_mm, mm_2l, mm_lcmp, mm_i2l, mm_l2i, mm_cast8, mm_if1, mm_if2, mm_cmp, mm_swi, mm_sw, mm_pop1, mm_dup, mm_dup2, mm_geti, mm_geta, mm_puti, mm_iald, mm_bald, mm_aald, mm_iast, mm_bast, mm_alen, mm_acpy, mm_call, mm_callv, mm_recv, mm_pop, mm_find, mm_push, mm_cats, mm_cat, mm_reti, mm_retz, mm_retl, mm_reta, mm_retv, mm_set1, mm_set2, mm_kill, List.getElem?_cons_zero, List.getElem?_cons_succ, Int.reduceToNat, ↓reduceIte, Nat.reduceEqDiff, Nat.reduceDiv, Nat.reduceAdd, Nat.reduceLeDiff, Nat.zero_le, true_and, and_true, true_or, or_true, mm_b0, mm_b1, mm_lc_lt, mm_lc_le, mm_lc_gt, mm_lc_ge, mm_lc_eq, Int.not_lt, Int.not_le, Decidable.not_not, Int.sub_neg, ho, o1, o2, o3, o4, l1, l2, l3, l4]
      refine ⟨fun q2 => by omega, fun _ => ⟨by omega, fun hn => h35 _ ?_, fun hn => ⟨by omega, fun hn2 => h35 _ ?_, fun hn2 => ⟨by omega, h35 _ ?_⟩⟩⟩⟩
      · show _ = sN f k + f k
        rw [hfv, mm_bF (by omega)]; omega
      · show _ = sN f k + f k
        rw [hfv, mm_bF (by omega)]; omega
      · show _ = sN f k + f k
        rw [hfv, mm_bT (by omega)]
  refine hJ 0 _ _ _ (show mm_wp _ _ _ mo_Q_howManyHave_0 _ _ _ from ?_)
  simp only [mo_Q_howManyHave_0, mm_wp, mm_ldi, mm_lda, mm_ldl, mm_sti, mm_sta, mm_stl, mm_inc, mm_2i, mm_mm, mm_2l, mm_lcmp, mm_i2l, mm_l2i, mm_cast8, mm_if1, mm_if2, mm_cmp, mm_swi, mm_sw, mm_pop1, mm_dup, mm_dup2, mm_geti, mm_geta, mm_puti, mm_iald, mm_bald, mm_aald, mm_iast, mm_bast, mm_alen, mm_acpy, mm_call, mm_callv, mm_recv, mm_pop, mm_find, mm_push, mm_cats, mm_cat, mm_reti, mm_retz, mm_retl, mm_reta, mm_retv, mm_set1, mm_set2, mm_kill, List.getElem?_cons_zero, List.getElem?_cons_succ, Int.reduceToNat, ↓reduceIte, Nat.reduceEqDiff, Nat.reduceDiv, Nat.reduceAdd, Nat.reduceLeDiff, Nat.zero_le, true_and, and_true, true_or, or_true, mm_b0, mm_b1, mm_lc_lt, mm_lc_le, mm_lc_gt, mm_lc_ge, mm_lc_eq, Int.not_lt, Int.not_le, Decidable.not_not, Int.sub_neg]
  exact hl _ 0 (Nat.zero_add _)
def t_Q_aim : mmT := fun as M Q => match as with
  | [.inr (.inr o), .inr (.inr w), .inl q] => isQ o ∧ isW w ∧ (0 ≤ q ∧ q < M o 4 ∧ M o 4 ≤ 25) ∧ t_Win_aim [vr w, vi (M (o + 2) q), vi (M (o + 3) q), vi (M (o + 4) q)] M Q
  | _ => False
set_option maxHeartbeats 4000000 in
set_option maxRecDepth 100000 in
theorem p_Q_aim : ∀ as M Q, (∀ v ∈ as, mm_vin v) → mm_mem M → t_Q_aim as M Q → (mm_ent as).length ≤ 3 ∧ mm_ok mb_Q_aim [(203, t_Q_has), (904, t_Win_aim)] (mm_entry 3 as) M Q := by
  intro as M Q hin hM h
  unfold t_Q_aim at h
  split at h
  rotate_left
  · exact h.elim
  rename_i o w q
  have hR_q : mm_R q := hin (vi q) (by simp)
  refine ⟨by simp [mm_ent], (show mm_ok mb_Q_aim [(203, t_Q_has), (904, t_Win_aim)] [some (vr o), some (vr w), some (vi q)] M Q from ?_)⟩
  intro J hJ
  obtain ⟨hq, hw, h1, h⟩ := h
  obtain ⟨ho, o1, o2, o3, o4, l1, l2, l3, l4⟩ := id hq
  have h30 : ∀ M', Q none M' → J 30 [some (vr o), some (vr w), some (vi q)] [] M' := by
    intro M' hq'
    refine hJ 30 _ _ _ (show mm_wp _ _ _ mo_Q_aim_30 _ _ _ from ?_)
    simp only [mo_Q_aim_30, mm_wp, mm_ldi, mm_lda, mm_ldl, mm_sti, mm_sta, mm_stl, mm_inc, mm_2i, mm_mm, mm_2l, mm_lcmp, mm_i2l, mm_l2i, mm_cast8, mm_if1, mm_if2, mm_cmp, mm_swi, mm_sw, mm_pop1, mm_dup, mm_dup2, mm_geti, mm_geta, mm_puti, mm_iald, mm_bald, mm_aald, mm_iast, mm_bast, mm_alen, mm_acpy, mm_call, mm_callv, mm_recv, mm_pop, mm_find, mm_push, mm_cats, mm_cat, mm_reti, mm_retz, mm_retl, mm_reta, mm_retv, mm_set1, mm_set2, mm_kill, List.getElem?_cons_zero, List.getElem?_cons_succ, Int.reduceToNat, ↓reduceIte, Nat.reduceEqDiff, Nat.reduceDiv, Nat.reduceAdd, Nat.reduceLeDiff, Nat.zero_le, true_and, and_true, true_or, or_true, mm_b0, mm_b1, mm_lc_lt, mm_lc_le, mm_lc_gt, mm_lc_ge, mm_lc_eq, Int.not_lt, Int.not_le, Decidable.not_not, Int.sub_neg]
    exact hq'
  refine hJ 0 _ _ _ (show mm_wp _ _ _ mo_Q_aim_0 _ _ _ from ?_)
  simp only [mo_Q_aim_0, mm_wp, mm_ldi, mm_lda, mm_ldl, mm_sti, mm_sta, mm_stl, mm_inc, mm_2i, mm_mm, mm_2l, mm_lcmp, mm_i2l, mm_l2i, mm_cast8, mm_if1, mm_if2, mm_cmp, mm_swi, mm_sw, mm_pop1, mm_dup, mm_dup2, mm_geti, mm_geta, mm_puti, mm_iald, mm_bald, mm_aald, mm_iast, mm_bast, mm_alen, mm_acpy, mm_call, mm_callv, mm_recv, mm_pop, mm_find, mm_push, mm_cats, mm_cat, mm_reti, mm_retz, mm_retl, mm_reta, mm_retv, mm_set1, mm_set2, mm_kill, List.getElem?_cons_zero, List.getElem?_cons_succ, Int.reduceToNat, ↓reduceIte, Nat.reduceEqDiff, Nat.reduceDiv, Nat.reduceAdd, Nat.reduceLeDiff, Nat.zero_le, true_and, and_true, true_or, or_true, mm_b0, mm_b1, mm_lc_lt, mm_lc_le, mm_lc_gt, mm_lc_ge, mm_lc_eq, Int.not_lt, Int.not_le, Decidable.not_not, Int.sub_neg, t_Q_has, t_Win_aim, ho, hw.1, o1, o2, o3, o4, l1, l2, l3, l4]
  obtain ⟨a1, a2, a3, a4⟩ := h
  exact ⟨hq, fun hn => by omega, fun _ => ⟨by omega, by omega, by omega, a1, a2, a3, fun M' b0 b1 b2 b3 b4 b5 b6 => h30 M' (a4 M' b0 b1 b2 b3 b4 b5 b6)⟩⟩
