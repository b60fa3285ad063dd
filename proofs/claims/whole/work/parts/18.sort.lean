/-! Row by time, Sorted, Acts -/
def isRow (o : Nat) : Prop := mm_cls o = 4 ∧ mm_cls (o + 1) = 100 ∧ mm_cls (o + 2) = 100 ∧ mm_cls (o + 3) = 100 ∧ mm_cls (o + 4) = 100 ∧ mm_len (o + 1) = 60 ∧ mm_len (o + 2) = 32 ∧ mm_len (o + 3) = 32 ∧ mm_len (o + 4) = 60
/-- a cell behind the first n changes -/
def ca (c cc ct : Int → Int) (i : Int) : Nat → Int
  | 0 => c i
  | n + 1 => if cc n = i then ct n else ca c cc ct i n
theorem ca_cong {c cc ct c' cc' ct' : Int → Int} {i : Int} : ∀ n : Nat, c i = c' i → (∀ k : Nat, k < n → cc k = cc' k ∧ ct k = ct' k) → ca c cc ct i n = ca c' cc' ct' i n
  | 0, h, _ => h
  | n + 1, h, hk => by
    have h1 := hk n (by omega)
    simp only [ca]
    rw [h1.1, h1.2, ca_cong n h (fun k q => hk k (by omega))]
theorem ca_in {c cc ct : Int → Int} {i a b : Int} : ∀ n : Nat, (a ≤ c i ∧ c i < b) → (∀ k : Nat, k < n → a ≤ ct k ∧ ct k < b) → a ≤ ca c cc ct i n ∧ ca c cc ct i n < b
  | 0, h, _ => h
  | n + 1, h, hk => by
    simp only [ca]
    split
    · exact hk n (by omega)
    · exact ca_in n h (fun k q => hk k (by omega))
def t_Row_numberAt : mmT := fun as M Q => match as with
  | [.inr (.inr o), .inl i, .inl t] => isRow o ∧ 0 ≤ i ∧ i < M o 4 ∧ M o 4 ≤ 60 ∧ 0 ≤ t ∧ t ≤ M o 5 ∧ M o 5 ≤ 32 ∧ Q (some (vi (ca (M (o + 1)) (M (o + 2)) (M (o + 3)) i t.toNat))) M
  | _ => False
set_option maxHeartbeats 4000000 in
set_option maxRecDepth 100000 in
theorem p_Row_numberAt : ∀ as M Q, (∀ v ∈ as, mm_vin v) → mm_mem M → t_Row_numberAt as M Q → (mm_ent as).length ≤ 4 ∧ mm_ok mb_Row_numberAt [(403, t_Row_has)] (mm_entry 4 as) M Q := by
  intro as M Q hin hM h
  unfold t_Row_numberAt at h
  split at h
  rotate_left
  · exact h.elim
  rename_i o i t
  have hR_i : mm_R i := hin (vi i) (by simp)
  have hR_t : mm_R t := hin (vi t) (by simp)
  refine ⟨by simp [mm_ent], (show mm_ok mb_Row_numberAt [(403, t_Row_has)] [some (vr o), some (vi i), some (vi t), none] M Q from ?_)⟩
  intro J hJ
  obtain ⟨⟨ho, o1, o2, o3, o4, l1, l2, l3, l4⟩, h1, h2, h3, h4, h5, h6, h⟩ := h
  have h56 : ∀ x, J 56 [some (vr o), some (vi i), some (vi t), some (vi x)] [vi (ca (M (o + 1)) (M (o + 2)) (M (o + 3)) i t.toNat)] M := by
    intro x
    refine hJ 56 _ _ _ (show mm_wp _ _ _ mo_Row_numberAt_56 _ _ _ from ?_)
    simp only [mo_Row_numberAt_56, mm_wp, mm_ldi, mm_lda, mm_ldl, mm_sti, mm_sta, mm_stl, mm_inc, mm_2i, mm_mm, mm_2l, mm_lcmp, mm_i2l, mm_l2i, mm_cast8, mm_if1, mm_if2, mm_cmp, mm_swi, mm_sw, mm_pop1, mm_dup, mm_dup2, mm_geti, mm_geta, mm_puti, mm_iald, mm_bald, mm_aald, mm_iast, mm_bast, mm_alen, mm_acpy, mm_call, mm_callv, mm_recv, mm_pop, mm_find, mm_push, mm_cats, mm_cat, mm_reti, mm_retz, mm_retl, mm_reta, mm_retv, mm_set1, mm_set2, mm_kill, List.getElem?_cons_zero, List.getElem?_cons_succ, Int.reduceToNat, ↓reduceIte, Nat.reduceEqDiff, Nat.reduceDiv, Nat.reduceAdd, Nat.reduceLeDiff, Nat.zero_le, true_and, and_true, true_or, or_true, mm_b0, mm_b1, mm_lc_lt, mm_lc_le, mm_lc_gt, mm_lc_ge, mm_lc_eq, Int.not_lt, Int.not_le, Decidable.not_not, Int.sub_neg]
    exact h
  have h38 : ∀ x, ca (M (o + 1)) (M (o + 2)) (M (o + 3)) i 0 = ca (M (o + 1)) (M (o + 2)) (M (o + 3)) i t.toNat → J 38 [some (vr o), some (vi i), some (vi t), some (vi x)] [] M := by
    intro x hx
    have h56 := h56 x
    rw [← hx] at h56
    refine hJ 38 _ _ _ (show mm_wp _ _ _ mo_Row_numberAt_38 _ _ _ from ?_)
    simp only [mo_Row_numberAt_38, mm_wp, mm_ldi, mm_lda, mm_ldl, mm_sti, mm_sta, mm_stl, mm_inc, mm_2i, mm_mm, mm_2l, mm_lcmp, mm_i2l, mm_l2i, mm_cast8, mm_if1, mm_if2, mm_cmp, mm_swi, mm_sw, mm_pop1, mm_dup, mm_dup2, mm_geti, mm_geta, mm_puti, mm_iald, mm_bald, mm_aald, mm_iast, mm_bast, mm_alen, mm_acpy, mm_call, mm_callv, mm_recv, mm_pop, mm_find, mm_push, mm_cats, mm_cat, mm_reti, mm_retz, mm_retl, mm_reta, mm_retv, mm_set1, mm_set2, mm_kill, List.getElem?_cons_zero, List.getElem?_cons_succ, Int.reduceToNat, ↓reduceIte, Nat.reduceEqDiff, Nat.reduceDiv, Nat.reduceAdd, Nat.reduceLeDiff, Nat.zero_le, true_and, and_true, true_or, or_true, mm_b0, mm_b1, mm_lc_lt, mm_lc_le, mm_lc_gt, mm_lc_ge, mm_lc_eq, Int.not_lt, Int.not_le, Decidable.not_not, Int.sub_neg, t_Row_has, ho, o1, l1]
    exact ⟨fun hn => by omega, fun _ => ⟨by omega, h56⟩⟩
  have hl : ∀ (n : Nat), n ≤ 32 → ca (M (o + 1)) (M (o + 2)) (M (o + 3)) i n = ca (M (o + 1)) (M (o + 2)) (M (o + 3)) i t.toNat → J 11 [some (vr o), some (vi i), some (vi t), some (vi ((n : Int) - 1))] [] M := by
    intro n
    induction n with
    | zero =>
      intro _ hx
      refine hJ 11 _ _ _ (show mm_wp _ _ _ mo_Row_numberAt_11 _ _ _ from ?_)
      simp only [mo_Row_numberAt_11, mm_wp, mm_ldi, mm_lda, mm_ldl, mm_sti, mm_sta, mm_stl, mm_inc, mm_2i, mm_mm, mm_2l, mm_lcmp, mm_i2l, mm_l2i, mm_cast8, mm_if1, mm_if2, mm_cmp, mm_swi, mm_sw, mm_pop1, mm_dup, mm_dup2, mm_geti, mm_geta, mm_puti, mm_iald, mm_bald, mm_aald, mm_iast, mm_bast, mm_alen, mm_acpy, mm_call, mm_callv, mm_recv, mm_pop, mm_find, mm_push, mm_cats, mm_cat, mm_reti, mm_retz, mm_retl, mm_reta, mm_retv, mm_set1, mm_set2, mm_kill, List.getElem?_cons_zero, List.getElem?_cons_succ, Int.reduceToNat, ↓reduceIte, Nat.reduceEqDiff, Nat.reduceDiv, Nat.reduceAdd, Nat.reduceLeDiff, Nat.zero_le, true_and, and_true, true_or, or_true, mm_b0, mm_b1, mm_lc_lt, mm_lc_le, mm_lc_gt, mm_lc_ge, mm_lc_eq, Int.not_lt, Int.not_le, Decidable.not_not, Int.sub_neg, ho, o1, o2, l1, l2]
      exact ⟨fun _ => h38 _ hx, fun q => by omega⟩
    | succ n ih =>
      intro hn hx
      have h32 : ¬ M (o + 2) n = i → J 32 [some (vr o), some (vi i), some (vi t), some (vi (((n + 1 : Nat) : Int) - 1))] [] M := by
        intro hne
        refine hJ 32 _ _ _ (show mm_wp _ _ _ mo_Row_numberAt_32 _ _ _ from ?_)
        simp only [mo_Row_numberAt_32, mm_wp, mm_ldi, mm_lda, mm_ldl, mm_sti, mm_sta, mm_stl, mm_inc, mm_2i, mm_mm, mm_2l, mm_lcmp, mm_i2l, mm_l2i, mm_cast8, mm_if1, mm_if2, mm_cmp, mm_swi, mm_sw, mm_pop1, mm_dup, mm_dup2, mm_geti, mm_geta, mm_puti, mm_iald, mm_bald, mm_aald, mm_iast, mm_bast, mm_alen, mm_acpy, mm_call, mm_callv, mm_recv, mm_pop, mm_find, mm_push, mm_cats, mm_cat, mm_reti, mm_retz, mm_retl, mm_reta, mm_retv, mm_set1, mm_set2, mm_kill, List.getElem?_cons_zero, List.getElem?_cons_succ, Int.reduceToNat, ↓reduceIte, Nat.reduceEqDiff, Nat.reduceDiv, Nat.reduceAdd, Nat.reduceLeDiff, Nat.zero_le, true_and, and_true, true_or, or_true, mm_b0, mm_b1, mm_lc_lt, mm_lc_le, mm_lc_gt, mm_lc_ge, mm_lc_eq, Int.not_lt, Int.not_le, Decidable.not_not, Int.sub_neg]
        refine ⟨by omega, ?_⟩
        rw [show ((n + 1 : Nat) : Int) - 1 + -1 = (n : Int) - 1 by omega]
        refine ih (by omega) ?_
        rw [← hx]
        simp only [ca]
        rw [if_neg hne]
      have e : ((n + 1 : Nat) : Int) - 1 = (n : Int) := by omega
      rw [e] at h32 ⊢
      refine hJ 11 _ _ _ (show mm_wp _ _ _ mo_Row_numberAt_11 _ _ _ from ?_)
      simp only [mo_Row_numberAt_11, mm_wp, mm_ldi, mm_lda, mm_ldl, mm_sti, mm_sta, mm_stl, mm_inc, mm_2i, mm_mm, mm_2l, mm_lcmp, mm_i2l, mm_l2i, mm_cast8, mm_if1, mm_if2, mm_cmp, mm_swi, mm_sw, mm_pop1, mm_dup, mm_dup2, mm_geti, mm_geta, mm_puti, mm_iald, mm_bald, mm_aald, mm_iast, mm_bast, mm_alen, mm_acpy, mm_call, mm_callv, mm_recv, mm_pop, mm_find, mm_push, mm_cats, mm_cat, mm_reti, mm_retz, mm_retl, mm_reta, mm_retv, mm_set1, mm_set2, mm_kill, List.getElem?_cons_zero, List.getElem?_cons_succ, Int.reduceToNat, ↓reduceIte, Nat.reduceEqDiff, Nat.reduceDiv, Nat.reduceAdd, Nat.reduceLeDiff, Nat.zero_le, true_and, and_true, true_or, or_true, mm_b0, mm_b1, mm_lc_lt, mm_lc_le, mm_lc_gt, mm_lc_ge, mm_lc_eq, Int.not_lt, Int.not_le, Decidable.not_not, Int.sub_neg, ho, o1, o2, o3, l1, l2, l3]
      refine ⟨fun q => by omega, fun _ => ⟨by omega, h32, fun he => ⟨by omega, ?_⟩⟩⟩
      rw [show M (o + 3) n = ca (M (o + 1)) (M (o + 2)) (M (o + 3)) i (n + 1) by simp only [ca]; rw [if_pos he], hx]
      exact h
  refine hJ 0 _ _ _ (show mm_wp _ _ _ mo_Row_numberAt_0 _ _ _ from ?_)
  simp only [mo_Row_numberAt_0, mm_wp, mm_ldi, mm_lda, mm_ldl, mm_sti, mm_sta, mm_stl, mm_inc, mm_2i, mm_mm, mm_2l, mm_lcmp, mm_i2l, mm_l2i, mm_cast8, mm_if1, mm_if2, mm_cmp, mm_swi, mm_sw, mm_pop1, mm_dup, mm_dup2, mm_geti, mm_geta, mm_puti, mm_iald, mm_bald, mm_aald, mm_iast, mm_bast, mm_alen, mm_acpy, mm_call, mm_callv, mm_recv, mm_pop, mm_find, mm_push, mm_cats, mm_cat, mm_reti, mm_retz, mm_retl, mm_reta, mm_retv, mm_set1, mm_set2, mm_kill, List.getElem?_cons_zero, List.getElem?_cons_succ, Int.reduceToNat, ↓reduceIte, Nat.reduceEqDiff, Nat.reduceDiv, Nat.reduceAdd, Nat.reduceLeDiff, Nat.zero_le, true_and, and_true, true_or, or_true, mm_b0, mm_b1, mm_lc_lt, mm_lc_le, mm_lc_gt, mm_lc_ge, mm_lc_eq, Int.not_lt, Int.not_le, Decidable.not_not, Int.sub_neg, ho]
  refine ⟨by omega, ?_⟩
  have := hl t.toNat (by omega) rfl
  rw [show ((t.toNat : Nat) : Int) - 1 = min t (M o 5) - 1 by omega] at this
  exact this
def t_Row_asAt : mmT := fun as M Q => match as with
  | [.inr (.inr o), .inl t] => isRow o ∧ M o 4 ≤ 60 ∧ 0 ≤ t ∧ t ≤ M o 5 ∧ M o 5 ≤ 32 ∧ ∀ M', (∀ o', o' ≠ o + 4 → M' o' = M o') → (∀ i, 0 ≤ i → i < M o 4 → M' (o + 4) i = ca (M (o + 1)) (M (o + 2)) (M (o + 3)) i t.toNat) → Q (some (vr (o + 4))) M'
  | _ => False
set_option maxHeartbeats 4000000 in
set_option maxRecDepth 100000 in
theorem p_Row_asAt : ∀ as M Q, (∀ v ∈ as, mm_vin v) → mm_mem M → t_Row_asAt as M Q → (mm_ent as).length ≤ 4 ∧ mm_ok mb_Row_asAt [(403, t_Row_has)] (mm_entry 4 as) M Q := by
  intro as M Q hin hM h
  unfold t_Row_asAt at h
  split at h
  rotate_left
  · exact h.elim
  rename_i o t
  have hR_t : mm_R t := hin (vi t) (by simp)
  refine ⟨by simp [mm_ent], (show mm_ok mb_Row_asAt [(403, t_Row_has)] [some (vr o), some (vi t), none, none] M Q from ?_)⟩
  intro J hJ
  obtain ⟨⟨ho, o1, o2, o3, o4, l1, l2, l3, l4⟩, h3, h4, h5, h6, h⟩ := h
  have h63 : ∀ x2 x3 M', (∀ o', o' ≠ o + 4 → M' o' = M o') → (∀ i, 0 ≤ i → i < M o 4 → M' (o + 4) i = ca (M (o + 1)) (M (o + 2)) (M (o + 3)) i t.toNat) → J 63 [some (vr o), some (vi t), x2, x3] [] M' := by
    intro x2 x3 M' a b
    refine hJ 63 _ _ _ (show mm_wp _ _ _ mo_Row_asAt_63 _ _ _ from ?_)
    simp only [mo_Row_asAt_63, mm_wp, mm_ldi, mm_lda, mm_ldl, mm_sti, mm_sta, mm_stl, mm_inc, mm_2i, mm_mm, mm_2l, mm_lcmp, mm_i2l, mm_l2i, mm_cast8, mm_if1, mm_if2, mm_cmp, mm_swi, mm_sw, mm_pop1, mm_dup, mm_dup2, mm_geti, mm_geta, mm_puti, mm_iald, mm_bald, mm_aald, mm_iast, mm_bast, mm_alen, mm_acpy, mm_call, mm_callv, mm_recv, mm_pop, mm_find, mm_push, mm_cats, mm_cat, mm_reti, mm_retz, mm_retl, mm_reta, mm_retv, mm_set1, mm_set2, mm_kill, List.getElem?_cons_zero, List.getElem?_cons_succ, Int.reduceToNat, ↓reduceIte, Nat.reduceEqDiff, Nat.reduceDiv, Nat.reduceAdd, Nat.reduceLeDiff, Nat.zero_le, true_and, and_true, true_or, or_true, mm_b0, mm_b1, mm_lc_lt, mm_lc_le, mm_lc_gt, mm_lc_ge, mm_lc_eq, Int.not_lt, Int.not_le, Decidable.not_not, Int.sub_neg, ho]
    exact h M' a b
  have hl : ∀ (d k : Nat) (x3 : Option mmV) (M' : mmM), k + d = t.toNat → (∀ o', o' ≠ o + 4 → M' o' = M o') → (∀ i, 0 ≤ i → i < M o 4 → M' (o + 4) i = ca (M (o + 1)) (M (o + 2)) (M (o + 3)) i k) → J 17 [some (vr o), some (vi t), some (vi k), x3] [] M' := by
    intro d
    induction d with
    | zero =>
      intro k x3 M' hk a b
      refine hJ 17 _ _ _ (show mm_wp _ _ _ mo_Row_asAt_17 _ _ _ from ?_)
      simp only [mo_Row_asAt_17, mm_wp, mm_ldi, mm_lda, mm_ldl, mm_sti, mm_sta, mm_stl, mm_inc, mm_2i, mm_mm, mm_2l, mm_lcmp, mm_i2l, mm_l2i, mm_cast8, mm_if1, mm_if2, mm_cmp, mm_swi, mm_sw, mm_pop1, mm_dup, mm_dup2, mm_geti, mm_geta, mm_puti, mm_iald, mm_bald, mm_aald, mm_iast, mm_bast, mm_alen, mm_acpy, mm_call, mm_callv, mm_recv, mm_pop, mm_find, mm_push, mm_cats, mm_cat, mm_reti, mm_retz, mm_retl, mm_reta, mm_retv, mm_set1, mm_set2, mm_kill, List.getElem?_cons_zero, List.getElem?_cons_succ, Int.reduceToNat, ↓reduceIte, Nat.reduceEqDiff, Nat.reduceDiv, Nat.reduceAdd, Nat.reduceLeDiff, Nat.zero_le, true_and, and_true, true_or, or_true, mm_b0, mm_b1, mm_lc_lt, mm_lc_le, mm_lc_gt, mm_lc_ge, mm_lc_eq, Int.not_lt, Int.not_le, Decidable.not_not, Int.sub_neg, ho]
      exact ⟨fun _ => h63 _ _ _ a (by rw [show t.toNat = k by omega]; exact b), fun q => by omega⟩
    | succ d ih =>
      intro k x3 M' hk a b
      have e0 : M' o = M o := a o (by omega)
      have e2 : M' (o + 2) = M (o + 2) := a (o + 2) (by omega)
      have e3 : M' (o + 3) = M (o + 3) := a (o + 3) (by omega)
      have h57 : ∀ M'', (∀ o', o' ≠ o + 4 → M'' o' = M o') → (∀ i, 0 ≤ i → i < M o 4 → M'' (o + 4) i = ca (M (o + 1)) (M (o + 2)) (M (o + 3)) i (k + 1)) → J 57 [some (vr o), some (vi t), some (vi k), some (vi (M (o + 2) k))] [] M'' := by
        intro M'' a' b'
        refine hJ 57 _ _ _ (show mm_wp _ _ _ mo_Row_asAt_57 _ _ _ from ?_)
        simp only [mo_Row_asAt_57, mm_wp, mm_ldi, mm_lda, mm_ldl, mm_sti, mm_sta, mm_stl, mm_inc, mm_2i, mm_mm, mm_2l, mm_lcmp, mm_i2l, mm_l2i, mm_cast8, mm_if1, mm_if2, mm_cmp, mm_swi, mm_sw, mm_pop1, mm_dup, mm_dup2, mm_geti, mm_geta, mm_puti, mm_iald, mm_bald, mm_aald, mm_iast, mm_bast, mm_alen, mm_acpy, mm_call, mm_callv, mm_recv, mm_pop, mm_find, mm_push, mm_cats, mm_cat, mm_reti, mm_retz, mm_retl, mm_reta, mm_retv, mm_set1, mm_set2, mm_kill, List.getElem?_cons_zero, List.getElem?_cons_succ, Int.reduceToNat, ↓reduceIte, Nat.reduceEqDiff, Nat.reduceDiv, Nat.reduceAdd, Nat.reduceLeDiff, Nat.zero_le, true_and, and_true, true_or, or_true, mm_b0, mm_b1, mm_lc_lt, mm_lc_le, mm_lc_gt, mm_lc_ge, mm_lc_eq, Int.not_lt, Int.not_le, Decidable.not_not, Int.sub_neg]
        exact ⟨by omega, ih (k + 1) _ M'' (by omega) a' b'⟩
      refine hJ 17 _ _ _ (show mm_wp _ _ _ mo_Row_asAt_17 _ _ _ from ?_)
      simp only [mo_Row_asAt_17, mm_wp, mm_ldi, mm_lda, mm_ldl, mm_sti, mm_sta, mm_stl, mm_inc, mm_2i, mm_mm, mm_2l, mm_lcmp, mm_i2l, mm_l2i, mm_cast8, mm_if1, mm_if2, mm_cmp, mm_swi, mm_sw, mm_pop1, mm_dup, mm_dup2, mm_geti, mm_geta, mm_puti, mm_iald, mm_bald, mm_aald, mm_iast, mm_bast, mm_alen, mm_acpy, mm_call, mm_callv, mm_recv, mm_pop, mm_find, mm_push, mm_cats, mm_cat, mm_reti, mm_retz, mm_retl, mm_reta, mm_retv, mm_set1, mm_set2, mm_kill, List.getElem?_cons_zero, List.getElem?_cons_succ, Int.reduceToNat, ↓reduceIte, Nat.reduceEqDiff, Nat.reduceDiv, Nat.reduceAdd, Nat.reduceLeDiff, Nat.zero_le, true_and, and_true, true_or, or_true, mm_b0, mm_b1, mm_lc_lt, mm_lc_le, mm_lc_gt, mm_lc_ge, mm_lc_eq, Int.not_lt, Int.not_le, Decidable.not_not, Int.sub_neg, ho, o1, o2, o3, o4, l1, l2, l3, l4, t_Row_has, e0, e2, e3]
      refine ⟨fun q => by omega, fun _ => ⟨fun q => by omega, fun _ => ⟨by omega, fun hn => h57 M' a (fun i i0 i1 => ?_), fun hy => ⟨by omega, by omega, h57 _ (fun o' ho' => by rw [mm_up_o _ _ ho']; exact a o' ho') (fun i i0 i1 => ?_)⟩⟩⟩⟩
      · simp only [ca]
        rw [if_neg (by intro hc; rw [hc] at hn; omega)]
        exact b i i0 i1
      · rw [mm_up_if]
        simp only [ca]
        by_cases hc : M (o + 2) k = i
        · rw [if_pos hc.symm, if_pos hc]
        · rw [if_neg (fun q => hc q.symm), if_neg hc]
          exact b i i0 i1
  refine hJ 0 _ _ _ (show mm_wp _ _ _ mo_Row_asAt_0 _ _ _ from ?_)
  simp only [mo_Row_asAt_0, mm_wp, mm_ldi, mm_lda, mm_ldl, mm_sti, mm_sta, mm_stl, mm_inc, mm_2i, mm_mm, mm_2l, mm_lcmp, mm_i2l, mm_l2i, mm_cast8, mm_if1, mm_if2, mm_cmp, mm_swi, mm_sw, mm_pop1, mm_dup, mm_dup2, mm_geti, mm_geta, mm_puti, mm_iald, mm_bald, mm_aald, mm_iast, mm_bast, mm_alen, mm_acpy, mm_call, mm_callv, mm_recv, mm_pop, mm_find, mm_push, mm_cats, mm_cat, mm_reti, mm_retz, mm_retl, mm_reta, mm_retv, mm_set1, mm_set2, mm_kill, List.getElem?_cons_zero, List.getElem?_cons_succ, Int.reduceToNat, ↓reduceIte, Nat.reduceEqDiff, Nat.reduceDiv, Nat.reduceAdd, Nat.reduceLeDiff, Nat.zero_le, true_and, and_true, true_or, or_true, mm_b0, mm_b1, mm_lc_lt, mm_lc_le, mm_lc_gt, mm_lc_ge, mm_lc_eq, Int.not_lt, Int.not_le, Decidable.not_not, Int.sub_neg, ho, o1, o4, l1, l4]
  refine ⟨by omega, hl _ 0 _ _ (Nat.zero_add _) (fun o' ho' => funext fun i => ?_) (fun i i0 i1 => ?_)⟩
  · unfold mm_cpy
    rw [if_neg (fun q => ho' q.1)]
  · unfold mm_cpy
    rw [if_pos ⟨rfl, by omega, by omega⟩]
    simp [ca]
def t_Row_copyFrom : mmT := fun as M Q => match as with
  | [.inr (.inr o), .inr (.inr s)] => isRow o ∧ isRow s ∧ s + 4 < o ∧ ∀ M', (∀ o', o' ≠ o → o' ≠ o + 1 → o' ≠ o + 2 → o' ≠ o + 3 → M' o' = M o') → M' o 4 = M s 4 → M' o 5 = M s 5 → (∀ i, 0 ≤ i → i < 60 → M' (o + 1) i = M (s + 1) i) → (∀ i, 0 ≤ i → i < 32 → M' (o + 2) i = M (s + 2) i ∧ M' (o + 3) i = M (s + 3) i) → Q none M'
  | _ => False
set_option maxHeartbeats 4000000 in
set_option maxRecDepth 100000 in
theorem p_Row_copyFrom : ∀ as M Q, (∀ v ∈ as, mm_vin v) → mm_mem M → t_Row_copyFrom as M Q → (mm_ent as).length ≤ 2 ∧ mm_ok mb_Row_copyFrom [] (mm_entry 2 as) M Q := by
  intro as M Q hin hM h
  unfold t_Row_copyFrom at h
  split at h
  rotate_left
  · exact h.elim
  rename_i o s
  refine ⟨by simp [mm_ent], (show mm_ok mb_Row_copyFrom [] [some (vr o), some (vr s)] M Q from ?_)⟩
  intro J hJ
  obtain ⟨⟨ho, o1, o2, o3, o4, l1, l2, l3, l4⟩, ⟨so, s1, s2, s3, s4, k1, k2, k3, k4⟩, hd, h⟩ := h
  have ec : ∀ (M1 : mmM) (a b : Nat) (c : Nat) (sp dp n : Int), c ≠ b → mm_cpy M1 a sp b dp n c = M1 c := fun M1 a b c sp dp n hc => funext fun i => if_neg (fun q => hc q.1)
  refine hJ 0 _ _ _ (show mm_wp _ _ _ mo_Row_copyFrom_0 _ _ _ from ?_)
  simp only [mo_Row_copyFrom_0, mm_wp, mm_ldi, mm_lda, mm_ldl, mm_sti, mm_sta, mm_stl, mm_inc, mm_2i, mm_mm, mm_2l, mm_lcmp, mm_i2l, mm_l2i, mm_cast8, mm_if1, mm_if2, mm_cmp, mm_swi, mm_sw, mm_pop1, mm_dup, mm_dup2, mm_geti, mm_geta, mm_puti, mm_iald, mm_bald, mm_aald, mm_iast, mm_bast, mm_alen, mm_acpy, mm_call, mm_callv, mm_recv, mm_pop, mm_find, mm_push, mm_cats, mm_cat, mm_reti, mm_retz, mm_retl, mm_reta, mm_retv, mm_set1, mm_set2, mm_kill, List.getElem?_cons_zero, List.getElem?_cons_succ, Int.reduceToNat, ↓reduceIte, Nat.reduceEqDiff, Nat.reduceDiv, Nat.reduceAdd, Nat.reduceLeDiff, Nat.zero_le, true_and, and_true, true_or, or_true, mm_b0, mm_b1, mm_lc_lt, mm_lc_le, mm_lc_gt, mm_lc_ge, mm_lc_eq, Int.not_lt, Int.not_le, Decidable.not_not, Int.sub_neg, ho, o1, o2, o3, o4, l1, l2, l3, l4, so, s1, s2, s3, s4, k1, k2, k3, k4]
  refine ⟨by omega, by omega, by omega, h _ (fun o' a b c d => ?_) ?_ ?_ (fun i i0 i1 => ?_) (fun i i0 i1 => ⟨?_, ?_⟩)⟩
  · rw [mm_up_o _ _ a, mm_up_o _ _ a, ec _ _ _ _ _ _ _ d, ec _ _ _ _ _ _ _ c, ec _ _ _ _ _ _ _ b]
  · rw [mm_up_i _ (by decide), mm_up_s, ec _ _ _ _ _ _ _ (by omega), ec _ _ _ _ _ _ _ (by omega), ec _ _ _ _ _ _ _ (by omega)]
  · rw [mm_up_s, mm_up_o _ _ (by omega), ec _ _ _ _ _ _ _ (by omega), ec _ _ _ _ _ _ _ (by omega), ec _ _ _ _ _ _ _ (by omega)]
  · rw [mm_up_o _ _ (by omega), mm_up_o _ _ (by omega), ec _ _ _ _ _ _ _ (by omega), ec _ _ _ _ _ _ _ (by omega)]
    unfold mm_cpy
    rw [if_pos ⟨rfl, by omega, by omega⟩]
    simp
  · rw [mm_up_o _ _ (by omega), mm_up_o _ _ (by omega), ec _ _ _ _ _ _ _ (by omega)]
    unfold mm_cpy
    rw [if_pos ⟨rfl, by omega, by omega⟩, if_neg (by omega)]
    simp
  · rw [mm_up_o _ _ (by omega), mm_up_o _ _ (by omega)]
    unfold mm_cpy
    rw [if_pos ⟨rfl, by omega, by omega⟩, if_neg (by omega), if_neg (by omega)]
    simp
def isSrt (o : Nat) : Prop := mm_cls o = 5 ∧ mm_cls (o + 1) = 100 ∧ mm_len (o + 1) = 25
def t_Srt_key : mmT := fun as M Q => match as with
  | [.inl a, .inl b, .inl c, .inl q] => (0 ≤ a ∧ a < 64 ∧ 0 ≤ b ∧ b < 4096 ∧ 0 ≤ c ∧ c < 64 ∧ 0 ≤ q ∧ q < 32) ∧ Q (some (vi (((a * 64 + b) * 64 + c) * 32 + q))) M
  | _ => False
set_option maxHeartbeats 4000000 in
set_option maxRecDepth 100000 in
theorem p_Srt_key : ∀ as M Q, (∀ v ∈ as, mm_vin v) → mm_mem M → t_Srt_key as M Q → (mm_ent as).length ≤ 4 ∧ mm_ok mb_Srt_key [] (mm_entry 4 as) M Q := by
  intro as M Q hin hM h
  unfold t_Srt_key at h
  split at h
  rotate_left
  · exact h.elim
  rename_i a b c q
  have hR_a : mm_R a := hin (vi a) (by simp)
  have hR_b : mm_R b := hin (vi b) (by simp)
  have hR_c : mm_R c := hin (vi c) (by simp)
  have hR_q : mm_R q := hin (vi q) (by simp)
  refine ⟨by simp [mm_ent], (show mm_ok mb_Srt_key [] [some (vi a), some (vi b), some (vi c), some (vi q)] M Q from ?_)⟩
  intro J hJ
  obtain ⟨hb, h⟩ := h
  repeat' first | (refine And.intro ?_ ?_) | (intro _) | (refine hJ 0 _ _ _ ?_; show mm_wp _ _ _ mo_Srt_key_0 _ _ _; simp only [mo_Srt_key_0, mm_wp, mm_ldi, mm_lda, mm_ldl, mm_sti, mm_sta, mm_stl, mm_inc, mm_2i, mm_mm, mm_2l, mm_lcmp, mm_i2l, mm_l2i, mm_cast8, mm_if1, mm_if2, mm_cmp, mm_swi, mm_sw, mm_pop1, mm_dup, mm_dup2, mm_geti, mm_geta, mm_puti, mm_iald, mm_bald, mm_aald, mm_iast, mm_bast, mm_alen, mm_acpy, mm_call, mm_callv, mm_recv, mm_pop, mm_find, mm_push, mm_cats, mm_cat, mm_reti, mm_retz, mm_retl, mm_reta, mm_retv, mm_set1, mm_set2, mm_kill, List.getElem?_cons_zero, List.getElem?_cons_succ, Int.reduceToNat, ↓reduceIte, Nat.reduceEqDiff, Nat.reduceDiv, Nat.reduceAdd, Nat.reduceLeDiff, Nat.zero_le, true_and, and_true, true_or, or_true, mm_b0, mm_b1, mm_lc_lt, mm_lc_le, mm_lc_gt, mm_lc_ge, mm_lc_eq, Int.not_lt, Int.not_le, Decidable.not_not, Int.sub_neg])
  all_goals first | assumption | (exact Or.inl rfl) | (exact Or.inr rfl) | (exact rfl) | trivial | omega
/-- key put at its place p into n sorted ones -/
def sIns (K K' : Int → Int) (n key p : Int) : Prop := 0 ≤ p ∧ p ≤ n ∧ (0 < p → K (p - 1) ≤ key) ∧ (∀ j, p ≤ j → j < n → key < K j) ∧ (∀ j, 0 ≤ j → j < p → K' j = K j) ∧ K' p = key ∧ ∀ j, p < j → j ≤ n → K' j = K (j - 1)
def t_Srt_insert : mmT := fun as M Q => match as with
  | [.inr (.inr o), .inl key] => isSrt o ∧ 0 ≤ M o 1 ∧ M o 1 ≤ 24 ∧ ∀ M' p, sIns (M (o + 1)) (M' (o + 1)) (M o 1) key p → M' o 1 = M o 1 + 1 → (∀ o', o' ≠ o → o' ≠ o + 1 → M' o' = M o') → Q none M'
  | _ => False
set_option maxHeartbeats 4000000 in
set_option maxRecDepth 100000 in
theorem p_Srt_insert : ∀ as M Q, (∀ v ∈ as, mm_vin v) → mm_mem M → t_Srt_insert as M Q → (mm_ent as).length ≤ 3 ∧ mm_ok mb_Srt_insert [] (mm_entry 3 as) M Q := by
  intro as M Q hin hM h
  unfold t_Srt_insert at h
  split at h
  rotate_left
  · exact h.elim
  rename_i o key
  have hR_key : mm_R key := hin (vi key) (by simp)
  refine ⟨by simp [mm_ent], (show mm_ok mb_Srt_insert [] [some (vr o), some (vi key), none] M Q from ?_)⟩
  intro J hJ
  obtain ⟨⟨ho, o1, l1⟩, h1, h2, h⟩ := h
  have hl : ∀ (n : Nat) (M1 : mmM), (n : Int) ≤ M o 1 → (∀ o', o' ≠ o + 1 → M1 o' = M o') → (∀ j : Int, 0 ≤ j → j < n → M1 (o + 1) j = M (o + 1) j) → (∀ j, (n : Int) < j → j ≤ M o 1 → M1 (o + 1) j = M (o + 1) (j - 1)) → (∀ j, (n : Int) ≤ j → j < M o 1 → key < M (o + 1) j) → J 15 [some (vr o), some (vi key), some (vi n)] [] M1 := by
    intro n
    induction n with
    | zero =>
      intro M1 hn a b c d
      have e0 : M1 o = M o := a o (by omega)
      have e1 : mm_up M1 (o + 1) 0 key o = M o := by rw [mm_up_o _ _ (by omega), e0]
      have h51 : J 51 [some (vr o), some (vi key), some (vi ((0 : Nat) : Int))] [] M1 := by
        refine hJ 51 _ _ _ (show mm_wp _ _ _ mo_Srt_insert_51 _ _ _ from ?_)
        simp only [mo_Srt_insert_51, mm_wp, mm_ldi, mm_lda, mm_ldl, mm_sti, mm_sta, mm_stl, mm_inc, mm_2i, mm_mm, mm_2l, mm_lcmp, mm_i2l, mm_l2i, mm_cast8, mm_if1, mm_if2, mm_cmp, mm_swi, mm_sw, mm_pop1, mm_dup, mm_dup2, mm_geti, mm_geta, mm_puti, mm_iald, mm_bald, mm_aald, mm_iast, mm_bast, mm_alen, mm_acpy, mm_call, mm_callv, mm_recv, mm_pop, mm_find, mm_push, mm_cats, mm_cat, mm_reti, mm_retz, mm_retl, mm_reta, mm_retv, mm_set1, mm_set2, mm_kill, List.getElem?_cons_zero, List.getElem?_cons_succ, Int.reduceToNat, ↓reduceIte, Nat.reduceEqDiff, Nat.reduceDiv, Nat.reduceAdd, Nat.reduceLeDiff, Nat.zero_le, true_and, and_true, true_or, or_true, mm_b0, mm_b1, mm_lc_lt, mm_lc_le, mm_lc_gt, mm_lc_ge, mm_lc_eq, Int.not_lt, Int.not_le, Decidable.not_not, Int.sub_neg, ho, o1, l1, e0, Int.cast_ofNat_Int, e1]
        refine ⟨by omega, by omega, h _ 0 ⟨by omega, by omega, fun q => by omega, fun j j0 j1 => d j (by simpa using j0) j1, fun j j0 j1 => by omega, ?_, fun j j0 j1 => ?_⟩ (mm_up_s _ _ _ _) (fun o' c1 c2 => by rw [mm_up_o _ _ c1, mm_up_o _ _ c2, a o' c2])⟩
        · rw [mm_up_o _ _ (by omega), mm_up_s]
        · rw [mm_up_o _ _ (by omega), mm_up_i _ (by omega)]
          exact c j (by simpa using j0) j1
      refine hJ 15 _ _ _ (show mm_wp _ _ _ mo_Srt_insert_15 _ _ _ from ?_)
      simp only [mo_Srt_insert_15, mm_wp, mm_ldi, mm_lda, mm_ldl, mm_sti, mm_sta, mm_stl, mm_inc, mm_2i, mm_mm, mm_2l, mm_lcmp, mm_i2l, mm_l2i, mm_cast8, mm_if1, mm_if2, mm_cmp, mm_swi, mm_sw, mm_pop1, mm_dup, mm_dup2, mm_geti, mm_geta, mm_puti, mm_iald, mm_bald, mm_aald, mm_iast, mm_bast, mm_alen, mm_acpy, mm_call, mm_callv, mm_recv, mm_pop, mm_find, mm_push, mm_cats, mm_cat, mm_reti, mm_retz, mm_retl, mm_reta, mm_retv, mm_set1, mm_set2, mm_kill, List.getElem?_cons_zero, List.getElem?_cons_succ, Int.reduceToNat, ↓reduceIte, Nat.reduceEqDiff, Nat.reduceDiv, Nat.reduceAdd, Nat.reduceLeDiff, Nat.zero_le, true_and, and_true, true_or, or_true, mm_b0, mm_b1, mm_lc_lt, mm_lc_le, mm_lc_gt, mm_lc_ge, mm_lc_eq, Int.not_lt, Int.not_le, Decidable.not_not, Int.sub_neg]
      exact ⟨fun _ => h51, fun q => by simp at q⟩
    | succ n ih =>
      intro M1 hn a b c d
      have e0 : M1 o = M o := a o (by omega)
      have en : ((n + 1 : Nat) : Int) - 1 = n := by omega
      have eb : M1 (o + 1) n = M (o + 1) n := b n (by omega) (by omega)
      have h51 : M (o + 1) n ≤ key → J 51 [some (vr o), some (vi key), some (vi ((n + 1 : Nat) : Int))] [] M1 := by
        intro hk
        have e1 : ∀ v w : Int, mm_up M1 (o + 1) v w o = M o := fun v w => by rw [mm_up_o _ _ (by omega), e0]
        refine hJ 51 _ _ _ (show mm_wp _ _ _ mo_Srt_insert_51 _ _ _ from ?_)
        simp only [mo_Srt_insert_51, mm_wp, mm_ldi, mm_lda, mm_ldl, mm_sti, mm_sta, mm_stl, mm_inc, mm_2i, mm_mm, mm_2l, mm_lcmp, mm_i2l, mm_l2i, mm_cast8, mm_if1, mm_if2, mm_cmp, mm_swi, mm_sw, mm_pop1, mm_dup, mm_dup2, mm_geti, mm_geta, mm_puti, mm_iald, mm_bald, mm_aald, mm_iast, mm_bast, mm_alen, mm_acpy, mm_call, mm_callv, mm_recv, mm_pop, mm_find, mm_push, mm_cats, mm_cat, mm_reti, mm_retz, mm_retl, mm_reta, mm_retv, mm_set1, mm_set2, mm_kill, List.getElem?_cons_zero, List.getElem?_cons_succ, Int.reduceToNat, ↓reduceIte, Nat.reduceEqDiff, Nat.reduceDiv, Nat.reduceAdd, Nat.reduceLeDiff, Nat.zero_le, true_and, and_true, true_or, or_true, mm_b0, mm_b1, mm_lc_lt, mm_lc_le, mm_lc_gt, mm_lc_ge, mm_lc_eq, Int.not_lt, Int.not_le, Decidable.not_not, Int.sub_neg, ho, o1, l1, e0, e1]
        refine ⟨by omega, by omega, h _ ((n + 1 : Nat) : Int) ⟨by omega, by omega, fun _ => by rw [en]; exact hk, fun j j0 j1 => d j j0 j1, fun j j0 j1 => ?_, ?_, fun j j0 j1 => ?_⟩ (mm_up_s _ _ _ _) (fun o' c1 c2 => by rw [mm_up_o _ _ c1, mm_up_o _ _ c2, a o' c2])⟩
        · rw [mm_up_o _ _ (by omega), mm_up_i _ (by omega)]
          exact b j j0 j1
        · rw [mm_up_o _ _ (by omega), mm_up_s]
        · rw [mm_up_o _ _ (by omega), mm_up_i _ (by omega)]
          exact c j j0 j1
      refine hJ 15 _ _ _ (show mm_wp _ _ _ mo_Srt_insert_15 _ _ _ from ?_)
      simp only [mo_Srt_insert_15, mm_wp, mm_ldi, mm_lda, mm_ldl, mm_sti, mm_sta, mm_stl, mm_inc, mm_2i, mm_mm, mm_2l, mm_lcmp, mm_i2l, mm_l2i, mm_cast8, mm_if1, mm_if2, mm_cmp, mm_swi, mm_sw, mm_pop1, mm_dup, mm_dup2, mm_geti, mm_geta, mm_puti, mm_iald, mm_bald, mm_aald, mm_iast, mm_bast, mm_alen, mm_acpy, mm_call, mm_callv, mm_recv, mm_pop, mm_find, mm_push, mm_cats, mm_cat, mm_reti, mm_retz, mm_retl, mm_reta, mm_retv, mm_set1, mm_set2, mm_kill, List.getElem?_cons_zero, List.getElem?_cons_succ, Int.reduceToNat, ↓reduceIte, Nat.reduceEqDiff, Nat.reduceDiv, Nat.reduceAdd, Nat.reduceLeDiff, Nat.zero_le, true_and, and_true, true_or, or_true, mm_b0, mm_b1, mm_lc_lt, mm_lc_le, mm_lc_gt, mm_lc_ge, mm_lc_eq, Int.not_lt, Int.not_le, Decidable.not_not, Int.sub_neg, ho, o1, l1, en, eb]
      refine ⟨fun q => by omega, fun _ => ⟨by omega, by omega, fun q => h51 q, fun q => ⟨by omega, by omega, by omega, ?_⟩⟩⟩
      rw [show ((n + 1 : Nat) : Int) + -1 = n by omega]
      refine ⟨by omega, ih _ (by omega) (fun o' c1 => by rw [mm_up_o _ _ c1, a o' c1]) (fun j j0 j1 => by rw [mm_up_i _ (by omega)]; exact b j j0 (by omega)) (fun j j0 j1 => ?_) (fun j j0 j1 => ?_)⟩
      · rw [mm_up_if]
        by_cases hj : j = ((n + 1 : Nat) : Int)
        · rw [if_pos hj, hj, en]
        · rw [if_neg hj]; exact c j (by omega) j1
      · by_cases hj : j = (n : Int)
        · rw [hj]; exact q
        · exact d j (by omega) j1
  have h10 : J 10 [some (vr o), some (vi key), none] [] M := by
    refine hJ 10 _ _ _ (show mm_wp _ _ _ mo_Srt_insert_10 _ _ _ from ?_)
    simp only [mo_Srt_insert_10, mm_wp, mm_ldi, mm_lda, mm_ldl, mm_sti, mm_sta, mm_stl, mm_inc, mm_2i, mm_mm, mm_2l, mm_lcmp, mm_i2l, mm_l2i, mm_cast8, mm_if1, mm_if2, mm_cmp, mm_swi, mm_sw, mm_pop1, mm_dup, mm_dup2, mm_geti, mm_geta, mm_puti, mm_iald, mm_bald, mm_aald, mm_iast, mm_bast, mm_alen, mm_acpy, mm_call, mm_callv, mm_recv, mm_pop, mm_find, mm_push, mm_cats, mm_cat, mm_reti, mm_retz, mm_retl, mm_reta, mm_retv, mm_set1, mm_set2, mm_kill, List.getElem?_cons_zero, List.getElem?_cons_succ, Int.reduceToNat, ↓reduceIte, Nat.reduceEqDiff, Nat.reduceDiv, Nat.reduceAdd, Nat.reduceLeDiff, Nat.zero_le, true_and, and_true, true_or, or_true, mm_b0, mm_b1, mm_lc_lt, mm_lc_le, mm_lc_gt, mm_lc_ge, mm_lc_eq, Int.not_lt, Int.not_le, Decidable.not_not, Int.sub_neg, ho]
    have := hl (M o 1).toNat M (by omega) (fun _ _ => rfl) (fun _ _ _ => rfl) (fun j j0 j1 => by omega) (fun j j0 j1 => by omega)
    rw [Int.toNat_of_nonneg h1] at this
    exact this
  refine hJ 0 _ _ _ (show mm_wp _ _ _ mo_Srt_insert_0 _ _ _ from ?_)
  simp only [mo_Srt_insert_0, mm_wp, mm_ldi, mm_lda, mm_ldl, mm_sti, mm_sta, mm_stl, mm_inc, mm_2i, mm_mm, mm_2l, mm_lcmp, mm_i2l, mm_l2i, mm_cast8, mm_if1, mm_if2, mm_cmp, mm_swi, mm_sw, mm_pop1, mm_dup, mm_dup2, mm_geti, mm_geta, mm_puti, mm_iald, mm_bald, mm_aald, mm_iast, mm_bast, mm_alen, mm_acpy, mm_call, mm_callv, mm_recv, mm_pop, mm_find, mm_push, mm_cats, mm_cat, mm_reti, mm_retz, mm_retl, mm_reta, mm_retv, mm_set1, mm_set2, mm_kill, List.getElem?_cons_zero, List.getElem?_cons_succ, Int.reduceToNat, ↓reduceIte, Nat.reduceEqDiff, Nat.reduceDiv, Nat.reduceAdd, Nat.reduceLeDiff, Nat.zero_le, true_and, and_true, true_or, or_true, mm_b0, mm_b1, mm_lc_lt, mm_lc_le, mm_lc_gt, mm_lc_ge, mm_lc_eq, Int.not_lt, Int.not_le, Decidable.not_not, Int.sub_neg, ho]
  exact ⟨fun _ => h10, fun q => by omega⟩
def t_Srt_question : mmT := fun as M Q => match as with
  | [.inr (.inr o), .inl i] => isSrt o ∧ M o 1 ≤ 25 ∧ Q (some (vi (if 0 ≤ i ∧ i < M o 1 then (M (o + 1) i).tmod 32 else -1))) M
  | _ => False
set_option maxHeartbeats 4000000 in
set_option maxRecDepth 100000 in
theorem p_Srt_question : ∀ as M Q, (∀ v ∈ as, mm_vin v) → mm_mem M → t_Srt_question as M Q → (mm_ent as).length ≤ 2 ∧ mm_ok mb_Srt_question [] (mm_entry 2 as) M Q := by
  intro as M Q hin hM h
  unfold t_Srt_question at h
  split at h
  rotate_left
  · exact h.elim
  rename_i o i
  have hR_i : mm_R i := hin (vi i) (by simp)
  refine ⟨by simp [mm_ent], (show mm_ok mb_Srt_question [] [some (vr o), some (vi i)] M Q from ?_)⟩
  intro J hJ
  obtain ⟨⟨ho, o1, l1⟩, h1, h⟩ := h
  repeat' first | (refine And.intro ?_ ?_) | (intro _) | (refine hJ 0 _ _ _ ?_; show mm_wp _ _ _ mo_Srt_question_0 _ _ _; simp only [mo_Srt_question_0, mm_wp, mm_ldi, mm_lda, mm_ldl, mm_sti, mm_sta, mm_stl, mm_inc, mm_2i, mm_mm, mm_2l, mm_lcmp, mm_i2l, mm_l2i, mm_cast8, mm_if1, mm_if2, mm_cmp, mm_swi, mm_sw, mm_pop1, mm_dup, mm_dup2, mm_geti, mm_geta, mm_puti, mm_iald, mm_bald, mm_aald, mm_iast, mm_bast, mm_alen, mm_acpy, mm_call, mm_callv, mm_recv, mm_pop, mm_find, mm_push, mm_cats, mm_cat, mm_reti, mm_retz, mm_retl, mm_reta, mm_retv, mm_set1, mm_set2, mm_kill, List.getElem?_cons_zero, List.getElem?_cons_succ, Int.reduceToNat, ↓reduceIte, Nat.reduceEqDiff, Nat.reduceDiv, Nat.reduceAdd, Nat.reduceLeDiff, Nat.zero_le, true_and, and_true, true_or, or_true, mm_b0, mm_b1, mm_lc_lt, mm_lc_le, mm_lc_gt, mm_lc_ge, mm_lc_eq, Int.not_lt, Int.not_le, Decidable.not_not, Int.sub_neg, ho, o1, l1]) | (refine hJ 24 _ _ _ ?_; show mm_wp _ _ _ mo_Srt_question_24 _ _ _; simp only [mo_Srt_question_24, mm_wp, mm_ldi, mm_lda, mm_ldl, mm_sti, mm_sta, mm_stl, mm_inc, mm_2i, mm_mm, mm_2l, mm_lcmp, mm_i2l, mm_l2i, mm_cast8, mm_if1, mm_if2, mm_cmp, mm_swi, mm_sw, mm_pop1, mm_dup, mm_dup2, mm_geti, mm_geta, mm_puti, mm_iald, mm_bald, mm_aald, mm_iast, mm_bast, mm_alen, mm_acpy, mm_call, mm_callv, mm_recv, mm_pop, mm_find, mm_push, mm_cats, mm_cat, mm_reti, mm_retz, mm_retl, mm_reta, mm_retv, mm_set1, mm_set2, mm_kill, List.getElem?_cons_zero, List.getElem?_cons_succ, Int.reduceToNat, ↓reduceIte, Nat.reduceEqDiff, Nat.reduceDiv, Nat.reduceAdd, Nat.reduceLeDiff, Nat.zero_le, true_and, and_true, true_or, or_true, mm_b0, mm_b1, mm_lc_lt, mm_lc_le, mm_lc_gt, mm_lc_ge, mm_lc_eq, Int.not_lt, Int.not_le, Decidable.not_not, Int.sub_neg, ho, o1, l1]) | (refine hJ 25 _ _ _ ?_; show mm_wp _ _ _ mo_Srt_question_25 _ _ _; simp only [mo_Srt_question_25, mm_wp, mm_ldi, mm_lda, mm_ldl, mm_sti, mm_sta, mm_stl, mm_inc, mm_2i, mm_mm, mm_2l, mm_lcmp, mm_i2l, mm_l2i, mm_cast8, mm_if1, mm_if2, mm_cmp, mm_swi, mm_sw, mm_pop1, mm_dup, mm_dup2, mm_geti, mm_geta, mm_puti, mm_iald, mm_bald, mm_aald, mm_iast, mm_bast, mm_alen, mm_acpy, mm_call, mm_callv, mm_recv, mm_pop, mm_find, mm_push, mm_cats, mm_cat, mm_reti, mm_retz, mm_retl, mm_reta, mm_retv, mm_set1, mm_set2, mm_kill, List.getElem?_cons_zero, List.getElem?_cons_succ, Int.reduceToNat, ↓reduceIte, Nat.reduceEqDiff, Nat.reduceDiv, Nat.reduceAdd, Nat.reduceLeDiff, Nat.zero_le, true_and, and_true, true_or, or_true, mm_b0, mm_b1, mm_lc_lt, mm_lc_le, mm_lc_gt, mm_lc_ge, mm_lc_eq, Int.not_lt, Int.not_le, Decidable.not_not, Int.sub_neg, ho, o1, l1])
  all_goals first | assumption | (exact Or.inl rfl) | (exact Or.inr rfl) | (exact rfl) | trivial | omega | (rw [if_neg (by omega)] at h; exact h) | (rw [if_pos (by omega)] at h; exact h)
def t_Srt_goesOn : mmT := fun as M Q => match as with
  | [.inr (.inr o), .inl i] => isSrt o ∧ M o 1 ≤ 25 ∧ Q (some (vi (mm_b (0 < i ∧ i < M o 1 ∧ (M (o + 1) i).tdiv 2048 = (M (o + 1) (i - 1)).tdiv 2048)))) M
  | _ => False
set_option maxHeartbeats 4000000 in
set_option maxRecDepth 100000 in
theorem p_Srt_goesOn : ∀ as M Q, (∀ v ∈ as, mm_vin v) → mm_mem M → t_Srt_goesOn as M Q → (mm_ent as).length ≤ 3 ∧ mm_ok mb_Srt_goesOn [] (mm_entry 3 as) M Q := by
  intro as M Q hin hM h
  unfold t_Srt_goesOn at h
  split at h
  rotate_left
  · exact h.elim
  rename_i o i
  have hR_i : mm_R i := hin (vi i) (by simp)
  refine ⟨by simp [mm_ent], (show mm_ok mb_Srt_goesOn [] [some (vr o), some (vi i), none] M Q from ?_)⟩
  intro J hJ
  obtain ⟨⟨ho, o1, l1⟩, h1, h⟩ := h
  repeat' first | (refine And.intro ?_ ?_) | (intro _) | (refine hJ 0 _ _ _ ?_; show mm_wp _ _ _ mo_Srt_goesOn_0 _ _ _; simp only [mo_Srt_goesOn_0, mm_wp, mm_ldi, mm_lda, mm_ldl, mm_sti, mm_sta, mm_stl, mm_inc, mm_2i, mm_mm, mm_2l, mm_lcmp, mm_i2l, mm_l2i, mm_cast8, mm_if1, mm_if2, mm_cmp, mm_swi, mm_sw, mm_pop1, mm_dup, mm_dup2, mm_geti, mm_geta, mm_puti, mm_iald, mm_bald, mm_aald, mm_iast, mm_bast, mm_alen, mm_acpy, mm_call, mm_callv, mm_recv, mm_pop, mm_find, mm_push, mm_cats, mm_cat, mm_reti, mm_retz, mm_retl, mm_reta, mm_retv, mm_set1, mm_set2, mm_kill, List.getElem?_cons_zero, List.getElem?_cons_succ, Int.reduceToNat, ↓reduceIte, Nat.reduceEqDiff, Nat.reduceDiv, Nat.reduceAdd, Nat.reduceLeDiff, Nat.zero_le, true_and, and_true, true_or, or_true, mm_b0, mm_b1, mm_lc_lt, mm_lc_le, mm_lc_gt, mm_lc_ge, mm_lc_eq, Int.not_lt, Int.not_le, Decidable.not_not, Int.sub_neg, ho, o1, l1]) | (refine hJ 41 _ _ _ ?_; show mm_wp _ _ _ mo_Srt_goesOn_41 _ _ _; simp only [mo_Srt_goesOn_41, mm_wp, mm_ldi, mm_lda, mm_ldl, mm_sti, mm_sta, mm_stl, mm_inc, mm_2i, mm_mm, mm_2l, mm_lcmp, mm_i2l, mm_l2i, mm_cast8, mm_if1, mm_if2, mm_cmp, mm_swi, mm_sw, mm_pop1, mm_dup, mm_dup2, mm_geti, mm_geta, mm_puti, mm_iald, mm_bald, mm_aald, mm_iast, mm_bast, mm_alen, mm_acpy, mm_call, mm_callv, mm_recv, mm_pop, mm_find, mm_push, mm_cats, mm_cat, mm_reti, mm_retz, mm_retl, mm_reta, mm_retv, mm_set1, mm_set2, mm_kill, List.getElem?_cons_zero, List.getElem?_cons_succ, Int.reduceToNat, ↓reduceIte, Nat.reduceEqDiff, Nat.reduceDiv, Nat.reduceAdd, Nat.reduceLeDiff, Nat.zero_le, true_and, and_true, true_or, or_true, mm_b0, mm_b1, mm_lc_lt, mm_lc_le, mm_lc_gt, mm_lc_ge, mm_lc_eq, Int.not_lt, Int.not_le, Decidable.not_not, Int.sub_neg, ho, o1, l1]) | (refine hJ 42 _ _ _ ?_; show mm_wp _ _ _ mo_Srt_goesOn_42 _ _ _; simp only [mo_Srt_goesOn_42, mm_wp, mm_ldi, mm_lda, mm_ldl, mm_sti, mm_sta, mm_stl, mm_inc, mm_2i, mm_mm, mm_2l, mm_lcmp, mm_i2l, mm_l2i, mm_cast8, mm_if1, mm_if2, mm_cmp, mm_swi, mm_sw, mm_pop1, mm_dup, mm_dup2, mm_geti, mm_geta, mm_puti, mm_iald, mm_bald, mm_aald, mm_iast, mm_bast, mm_alen, mm_acpy, mm_call, mm_callv, mm_recv, mm_pop, mm_find, mm_push, mm_cats, mm_cat, mm_reti, mm_retz, mm_retl, mm_reta, mm_retv, mm_set1, mm_set2, mm_kill, List.getElem?_cons_zero, List.getElem?_cons_succ, Int.reduceToNat, ↓reduceIte, Nat.reduceEqDiff, Nat.reduceDiv, Nat.reduceAdd, Nat.reduceLeDiff, Nat.zero_le, true_and, and_true, true_or, or_true, mm_b0, mm_b1, mm_lc_lt, mm_lc_le, mm_lc_gt, mm_lc_ge, mm_lc_eq, Int.not_lt, Int.not_le, Decidable.not_not, Int.sub_neg, ho, o1, l1])
  all_goals first | assumption | (exact Or.inl rfl) | (exact Or.inr rfl) | (exact rfl) | trivial | omega | (rw [mm_bF (by omega)] at h; exact h) | (rw [mm_bT ⟨by omega, by omega, by assumption⟩] at h; exact h) | (rw [mm_bF (by intro q; have := q.2.2; contradiction)] at h; exact h)
