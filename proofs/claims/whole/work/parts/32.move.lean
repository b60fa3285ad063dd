/-! goAhead, move -/
def gaF (F L T : Int → Int) : Nat → Int → Int → Int → Int → Int → Option (Int × Int × Int × Int × Int)
  | 0, _, _, _, _, _ => none
  | d + 1, i, l, r, t, rem => if wA5 l r t (F i) (L i) (T i) ≤ rem then gaF F L T d (i + 1) (F i) (L i) (T i) (rem - wA5 l r t (F i) (L i) (T i)) else some (i, l, r, t, rem)
/-- the kind of the move behind m of a step, and what it is of -/
def mvK (l r t f la ti m : Int) : Int := if m < wA0 l f then 0 else if m < wA1 l r f la then 1 else if m < wA2 l r f la then 2 else if m < wA3 l r f la then 3 else if m < wA4 l r t f la ti then 4 else 5
def mvC (l r t f la ti m : Int) : Int := if m < wA0 l f then wkL l r f la m - 1 else if m < wA1 l r f la then wkR l r f la m + 1 else if m < wA2 l r f la then wkL l r f la m else if m < wA3 l r f la then wkR l r f la m else if m < wA4 l r t f la ti then wkT l r t f la ti m else wkT l r t f la ti m - 1
theorem wk_pos {l r t f la ti m : Int} (hm : 0 ≤ m) (hl : 0 ≤ l ∧ l ≤ 60) (hr : -1 ≤ r ∧ r ≤ 60) (ht : 0 ≤ t ∧ t ≤ 32) (hf : 0 ≤ f ∧ f < 60) (hla : 0 ≤ la ∧ la < 60) (hti : 0 ≤ ti ∧ ti ≤ 32) : -100 ≤ wkL l r f la m ∧ wkL l r f la m ≤ 100 ∧ -100 ≤ wkR l r f la m ∧ wkR l r f la m ≤ 100 ∧ -100 ≤ wkT l r t f la ti m ∧ wkT l r t f la ti m ≤ 100 := by
  have e0 : 0 ≤ min m (wA0 l f) ∧ min m (wA0 l f) ≤ 60 := by unfold wA0; omega
  have g : ∀ A d : Int, 0 ≤ d → 0 ≤ min m (A + d) - min m A ∧ min m (A + d) - min m A ≤ d := by intro A d hd; omega
  have e1 := g (wA0 l f) (max 0 (la - r)) (by omega)
  have e2 := g (wA1 l r f la) (max 0 (f - l)) (by omega)
  have e3 := g (wA2 l r f la) (max 0 (r - la)) (by omega)
  have e4 := g (wA3 l r f la) (max 0 (ti - t)) (by omega)
  have e5 := g (wA4 l r t f la ti) (max 0 (t - ti)) (by omega)
  unfold wkL wkR wkT
  show _ ∧ _ ∧ _ ∧ _ ∧ _ ∧ _
  have d1 : r + max 0 (la - r) ≤ 60 := by omega
  have d2 : l + max 0 (f - l) ≤ 60 := by omega
  have d3 : -1 ≤ r - max 0 (r - la) := by omega
  have d4 : t + max 0 (ti - t) ≤ 32 := by omega
  have d5 : 0 ≤ t - max 0 (t - ti) := by omega
  have u1 : wA1 l r f la = wA0 l f + max 0 (la - r) := rfl
  have u2 : wA2 l r f la = wA1 l r f la + max 0 (f - l) := rfl
  have u3 : wA3 l r f la = wA2 l r f la + max 0 (r - la) := rfl
  have u4 : wA4 l r t f la ti = wA3 l r f la + max 0 (ti - t) := rfl
  have u5 : wA5 l r t f la ti = wA4 l r t f la ti + max 0 (t - ti) := rfl
  rw [← u1] at e1
  rw [← u2] at e2
  rw [← u3] at e3
  rw [← u4] at e4
  rw [← u5] at e5
  clear g u1 u2 u3 u4 u5
  generalize min m (wA0 l f) = c0 at *
  generalize min m (wA1 l r f la) = c1 at *
  generalize min m (wA2 l r f la) = c2 at *
  generalize min m (wA3 l r f la) = c3 at *
  generalize min m (wA4 l r t f la ti) = c4 at *
  generalize min m (wA5 l r t f la ti) = c5 at *
  generalize max 0 (la - r) = m1 at *
  generalize max 0 (f - l) = m2 at *
  generalize max 0 (r - la) = m3 at *
  generalize max 0 (ti - t) = m4 at *
  generalize max 0 (t - ti) = m5 at *
  omega
/-- what goAhead leaves at the window 29, 30 on its way in a step -/
def gaM (M' : mmM) (l r t f la ti m : Int) : Prop := M' 29 1 = wkL l r f la m ∧ M' 29 2 = wkR l r f la m ∧ M' 29 3 = wkT l r t f la ti m ∧ (M' 30 0 = wA0 l f - min m (wA0 l f) ∧ M' 30 0 + M' 30 1 = wA1 l r f la - min m (wA1 l r f la) ∧ M' 30 0 + M' 30 1 + M' 30 2 = wA2 l r f la - min m (wA2 l r f la) ∧ M' 30 0 + M' 30 1 + M' 30 2 + M' 30 3 = wA3 l r f la - min m (wA3 l r f la) ∧ M' 30 0 + M' 30 1 + M' 30 2 + M' 30 3 + M' 30 4 = wA4 l r t f la ti - min m (wA4 l r t f la ti) ∧ M' 30 0 + M' 30 1 + M' 30 2 + M' 30 3 + M' 30 4 + M' 30 5 = wA5 l r t f la ti - min m (wA5 l r t f la ti)) ∧ (0 ≤ M' 30 0 ∧ 0 ≤ M' 30 1 ∧ 0 ≤ M' 30 2 ∧ 0 ≤ M' 30 3 ∧ 0 ≤ M' 30 4 ∧ 0 ≤ M' 30 5) ∧ m < wA5 l r t f la ti ∧ -100 ≤ M' 29 1 ∧ M' 29 1 ≤ 100 ∧ -100 ≤ M' 29 2 ∧ M' 29 2 ≤ 100 ∧ -100 ≤ M' 29 3 ∧ M' 29 3 ≤ 100
def t_Plan_goAhead : mmT := fun as M Q => match as with
  | [.inr (.inr o), .inr (.inr qo), .inl m] => o = 26 ∧ qo = 18 ∧ 0 ≤ m ∧ qB M 18 ∧ plB M ∧ ∀ M', (∀ o', o' ≠ 29 → o' ≠ 30 → M' o' = M o') → (gaF (fun i => M 20 (plP M i)) (fun i => M 21 (plP M i)) (fun i => M 22 (plP M i)) (M 27 1).toNat 0 0 (-1) 0 m = none → Q (some (vi (-1))) M') ∧ (∀ i l r t rem, gaF (fun i => M 20 (plP M i)) (fun i => M 21 (plP M i)) (fun i => M 22 (plP M i)) (M 27 1).toNat 0 0 (-1) 0 m = some (i, l, r, t, rem) → 0 ≤ i → gaM M' l r t (M 20 (plP M i)) (M 21 (plP M i)) (M 22 (plP M i)) rem → Q (some (vi (plP M i))) M')
  | _ => False
set_option maxHeartbeats 4000000 in
set_option maxRecDepth 100000 in
theorem p_Plan_goAhead : ∀ as M Q, (∀ v ∈ as, mm_vin v) → mm_mem M → t_Plan_goAhead as M Q → (mm_ent as).length ≤ 5 ∧ mm_ok mb_Plan_goAhead [(901, t_Win_begin), (503, t_Srt_question), (212, t_Q_aim), (907, t_Win_make), (905, t_Win_distance)] (mm_entry 5 as) M Q := by
  intro as M Q hin hM h
  unfold t_Plan_goAhead at h
  split at h
  rotate_left
  · exact h.elim
  rename_i o qo m
  have hR_m : mm_R m := hin (vi m) (by simp)
  refine ⟨by simp [mm_ent], (show mm_ok mb_Plan_goAhead [(901, t_Win_begin), (503, t_Srt_question), (212, t_Q_aim), (907, t_Win_make), (905, t_Win_distance)] [some (vr o), some (vr qo), some (vi m), none, none] M Q from ?_)⟩
  intro J hJ
  obtain ⟨rfl, rfl, hm0, hB, hPl, hY⟩ := h
  have hB2 : ∀ q, 0 ≤ q → q < M 18 4 → 0 ≤ M 20 q ∧ M 20 q < 60 ∧ 0 ≤ M 21 q ∧ M 21 q < 60 ∧ 0 ≤ M 22 q ∧ M 22 q ≤ 32 := hB.2.2
  obtain ⟨sz0, sz1, hP⟩ := hPl
  have hb25 := hB.2.1
  generalize hF : (fun i => M 20 (plP M i)) = F at hY
  generalize hL : (fun i => M 21 (plP M i)) = L at hY
  generalize hT : (fun i => M 22 (plP M i)) = T at hY
  have hFv : ∀ i, M 20 (plP M i) = F i := fun i => by rw [← hF]
  have hLv : ∀ i, M 21 (plP M i) = L i := fun i => by rw [← hL]
  have hTv : ∀ i, M 22 (plP M i) = T i := fun i => by rw [← hT]
  have hl : ∀ (d : Nat) (i rest : Int) (M1 : mmM), i + d = M 27 1 → 0 ≤ i → 0 ≤ rest → rest ≤ m → (∀ o', o' ≠ 29 → o' ≠ 30 → M1 o' = M o') → wB M1 29 → 0 ≤ M1 29 4 → M1 29 4 ≤ 200 * i → 0 ≤ M1 29 5 → M1 29 5 ≤ 100 * i → gaF F L T d i (M1 29 1) (M1 29 2) (M1 29 3) rest = gaF F L T (M 27 1).toNat 0 0 (-1) 0 m → J 12 [some (vr 26), some (vr 18), some (vi m), some (vi rest), some (vi i)] [] M1 := by
    intro d
    induction d with
    | zero =>
      intro i rest M1 hk i0 m0 m1 f1 wb a4 a4' a5 a5' he
      have e27 : M1 27 = M 27 := f1 27 (by decide) (by decide)
      have h78 : J 78 [some (vr 26), some (vr 18), some (vi m), some (vi rest), some (vi i)] [] M1 := by
        refine hJ 78 _ _ _ (show mm_wp _ _ _ mo_Plan_goAhead_78 _ _ _ from ?_)
        simp only [mo_Plan_goAhead_78, mm_wp, mm_ldi, mm_lda, mm_ldl, mm_sti, mm_sta, mm_stl, mm_inc, mm_2i, mm_mm, mm_2l, mm_lcmp, mm_i2l, mm_l2i, mm_cast8, mm_if1, mm_if2, mm_cmp, mm_swi, mm_sw, mm_pop1, mm_dup, mm_dup2, mm_geti, mm_geta, mm_puti, mm_iald, mm_bald, mm_aald, mm_iast, mm_bast, mm_alen, mm_acpy, mm_call, mm_callv, mm_recv, mm_pop, mm_find, mm_push, mm_cats, mm_cat, mm_reti, mm_retz, mm_retl, mm_reta, mm_retv, mm_set1, mm_set2, mm_kill, List.getElem?_cons_zero, List.getElem?_cons_succ, Int.reduceToNat, ↓reduceIte, Nat.reduceEqDiff, Nat.reduceDiv, Nat.reduceAdd, Nat.reduceLeDiff, Nat.zero_le, true_and, and_true, true_or, or_true, mm_b0, mm_b1, mm_lc_lt, mm_lc_le, mm_lc_gt, mm_lc_ge, mm_lc_eq, Int.not_lt, Int.not_le, Decidable.not_not, Int.sub_neg]
        exact (hY M1 f1).1 he.symm
      refine hJ 12 _ _ _ (show mm_wp _ _ _ mo_Plan_goAhead_12 _ _ _ from ?_)
      simp only [mo_Plan_goAhead_12, mm_wp, mm_ldi, mm_lda, mm_ldl, mm_sti, mm_sta, mm_stl, mm_inc, mm_2i, mm_mm, mm_2l, mm_lcmp, mm_i2l, mm_l2i, mm_cast8, mm_if1, mm_if2, mm_cmp, mm_swi, mm_sw, mm_pop1, mm_dup, mm_dup2, mm_geti, mm_geta, mm_puti, mm_iald, mm_bald, mm_aald, mm_iast, mm_bast, mm_alen, mm_acpy, mm_call, mm_callv, mm_recv, mm_pop, mm_find, mm_push, mm_cats, mm_cat, mm_reti, mm_retz, mm_retl, mm_reta, mm_retv, mm_set1, mm_set2, mm_kill, List.getElem?_cons_zero, List.getElem?_cons_succ, Int.reduceToNat, ↓reduceIte, Nat.reduceEqDiff, Nat.reduceDiv, Nat.reduceAdd, Nat.reduceLeDiff, Nat.zero_le, true_and, and_true, true_or, or_true, mm_b0, mm_b1, mm_lc_lt, mm_lc_le, mm_lc_gt, mm_lc_ge, mm_lc_eq, Int.not_lt, Int.not_le, Decidable.not_not, Int.sub_neg, c_0, c_1, c_2, l_2, c_3, c_4, l_4, c_5, l_5, c_6, l_6, c_7, l_7, c_8, c_9, l_9, c_10, l_10, c_11, l_11, c_12, l_12, c_13, c_14, l_14, c_15, l_15, c_16, l_16, c_17, l_17, c_18, c_19, l_19, c_20, l_20, c_21, l_21, c_22, l_22, c_23, c_24, l_24, c_25, l_25, c_26, c_27, c_28, l_28, c_29, c_30, l_30, c_31, c_32, l_32, c_33, l_33, c_34, l_34, c_35, l_35, c_36, l_36, c_37, l_37, c_38, l_38, c_39, l_39, c_40, c_41, l_41, c_42, c_43, c_44, l_44, c_45, c_46, l_46, c_47, c_48, l_48, c_49, l_49, c_50, l_50, c_51, l_51, c_52, l_52, c_53, l_53, c_54, l_54, c_55, l_55, c_56, l_56, c_57, l_57, c_58, l_58, c_59, l_59, c_60, l_60, c_61, l_61, c_62, c_63, l_63, c_64, l_64, c_65, l_65, c_66, l_66, c_67, l_67, c_68, l_68, c_69, l_69, c_70, l_70, c_71, l_71, c_72, l_72, c_73, l_73, c_74, l_74, c_75, l_75, c_76, l_76, e27]
      exact ⟨fun _ => h78, fun z => by omega⟩
    | succ d ih =>
      intro i rest M1 hk i0 m0 m1 f1 wb a4 a4' a5 a5' he
      have e27 : M1 27 = M 27 := f1 27 (by decide) (by decide)
      have e28 : M1 28 = M 28 := f1 28 (by decide) (by decide)
      have ee : ∀ o, o < 26 → M1 o = M o := fun o ho => f1 o (by omega) (by omega)
      have hpi := hP i i0 (by omega)
      have hp' : (M 28 i).tmod 32 = plP M i := rfl
      rw [hp'] at hpi
      have hqi := hB2 _ hpi.1 hpi.2
      rw [hFv, hLv, hTv] at hqi
      have wb' := wb
      obtain ⟨w1, w2, w3, w4, w5, w6⟩ := wb'
      refine hJ 12 _ _ _ (show mm_wp _ _ _ mo_Plan_goAhead_12 _ _ _ from ?_)
      simp only [mo_Plan_goAhead_12, mm_wp, mm_ldi, mm_lda, mm_ldl, mm_sti, mm_sta, mm_stl, mm_inc, mm_2i, mm_mm, mm_2l, mm_lcmp, mm_i2l, mm_l2i, mm_cast8, mm_if1, mm_if2, mm_cmp, mm_swi, mm_sw, mm_pop1, mm_dup, mm_dup2, mm_geti, mm_geta, mm_puti, mm_iald, mm_bald, mm_aald, mm_iast, mm_bast, mm_alen, mm_acpy, mm_call, mm_callv, mm_recv, mm_pop, mm_find, mm_push, mm_cats, mm_cat, mm_reti, mm_retz, mm_retl, mm_reta, mm_retv, mm_set1, mm_set2, mm_kill, List.getElem?_cons_zero, List.getElem?_cons_succ, Int.reduceToNat, ↓reduceIte, Nat.reduceEqDiff, Nat.reduceDiv, Nat.reduceAdd, Nat.reduceLeDiff, Nat.zero_le, true_and, and_true, true_or, or_true, mm_b0, mm_b1, mm_lc_lt, mm_lc_le, mm_lc_gt, mm_lc_ge, mm_lc_eq, Int.not_lt, Int.not_le, Decidable.not_not, Int.sub_neg, c_0, c_1, c_2, l_2, c_3, c_4, l_4, c_5, l_5, c_6, l_6, c_7, l_7, c_8, c_9, l_9, c_10, l_10, c_11, l_11, c_12, l_12, c_13, c_14, l_14, c_15, l_15, c_16, l_16, c_17, l_17, c_18, c_19, l_19, c_20, l_20, c_21, l_21, c_22, l_22, c_23, c_24, l_24, c_25, l_25, c_26, c_27, c_28, l_28, c_29, c_30, l_30, c_31, c_32, l_32, c_33, l_33, c_34, l_34, c_35, l_35, c_36, l_36, c_37, l_37, c_38, l_38, c_39, l_39, c_40, c_41, l_41, c_42, c_43, c_44, l_44, c_45, c_46, l_46, c_47, c_48, l_48, c_49, l_49, c_50, l_50, c_51, l_51, c_52, l_52, c_53, l_53, c_54, l_54, c_55, l_55, c_56, l_56, c_57, l_57, c_58, l_58, c_59, l_59, c_60, l_60, c_61, l_61, c_62, c_63, l_63, c_64, l_64, c_65, l_65, c_66, l_66, c_67, l_67, c_68, l_68, c_69, l_69, c_70, l_70, c_71, l_71, c_72, l_72, c_73, l_73, c_74, l_74, c_75, l_75, c_76, l_76, e27, e28, t_Srt_question, t_Q_aim, t_Win_aim, t_Win_make, t_Win_distance]
      rw [if_pos ⟨by omega, by omega⟩, ee 18 (by decide), ee 20 (by decide), ee 21 (by decide), ee 22 (by decide)]
      rw [hp', hFv, hLv, hTv]
      refine ⟨fun z => by omega, fun _ => ⟨isSrt27, by omega, isQ18, isW29, by omega, isW29, wb, by omega, fun M2 f2 c0 c1 c2 c3 c4 c5 => ?_⟩⟩
      have g45 : M2 29 = M1 29 := f2 29 (by decide)
      rw [g45]
      refine ⟨isW29, by omega, by omega, by omega, fun M3 p0 p1 p2 p3 p4 p5 hp hm => ?_⟩
      obtain ⟨hgo, hsum⟩ := wGo_of (w := 29) wb (f := F i) (la := L i) (ti := T i) (by omega) (by omega) f2 c0 c1 c2 c3 c4 c5 hp hm
      rw [hsum]
      clear hsum hp hm c0 c1 c2 c3 c4 c5
      obtain ⟨z0, z1, z2, z3, z4, z5, z6, zs, zb⟩ := hgo
      have hki := wk_in (l := M1 29 1) (r := M1 29 2) (t := M1 29 3) (f := F i) (la := L i) (ti := T i) (m := rest) (by omega) ⟨w1, w2⟩ ⟨w3, w4⟩ ⟨w5, w6⟩ (by omega) (by omega) (by omega)
      have hpos := wk_pos (l := M1 29 1) (r := M1 29 2) (t := M1 29 3) (f := F i) (la := L i) (ti := T i) (m := rest) (by omega) ⟨w1, w2⟩ ⟨w3, w4⟩ ⟨w5, w6⟩ (by omega) (by omega) (by omega)
      have hA := wA_le (M1 29 1) (M1 29 2) (M1 29 3) (F i) (L i) (T i)
      simp only [Nat.reduceAdd] at z0 zs zb
      have zs5 := zs.2.2.2.2.2
      refine ⟨by omega, isW29, fun j j0 j1 => ?_, ?_, ?_⟩
      · have hj : j = 0 ∨ j = 1 ∨ j = 2 ∨ j = 3 ∨ j = 4 ∨ j = 5 := by omega
        clear zs zs5 hki hA
        rcases hj with rfl | rfl | rfl | rfl | rfl | rfl <;> omega
      · intro hdone
        have hA5 : wA5 (M1 29 1) (M1 29 2) (M1 29 3) (F i) (L i) (T i) ≤ rest := by clear zs; omega
        obtain ⟨v1, v2, v3, v4, v5⟩ := wk_full hA5
        rw [v1] at z1
        rw [v2] at z2
        rw [v3] at z3
        rw [v4] at z4
        rw [v5] at z5
        have hstep := he
        simp only [gaF] at hstep
        rw [if_pos hA5] at hstep
        rw [Int.min_eq_right hA5]
        clear zs zs5 zb
        refine hJ 72 _ _ _ (show mm_wp _ _ _ mo_Plan_goAhead_72 _ _ _ from ?_)
        simp only [mo_Plan_goAhead_72, mm_wp, mm_ldi, mm_lda, mm_ldl, mm_sti, mm_sta, mm_stl, mm_inc, mm_2i, mm_mm, mm_2l, mm_lcmp, mm_i2l, mm_l2i, mm_cast8, mm_if1, mm_if2, mm_cmp, mm_swi, mm_sw, mm_pop1, mm_dup, mm_dup2, mm_geti, mm_geta, mm_puti, mm_iald, mm_bald, mm_aald, mm_iast, mm_bast, mm_alen, mm_acpy, mm_call, mm_callv, mm_recv, mm_pop, mm_find, mm_push, mm_cats, mm_cat, mm_reti, mm_retz, mm_retl, mm_reta, mm_retv, mm_set1, mm_set2, mm_kill, List.getElem?_cons_zero, List.getElem?_cons_succ, Int.reduceToNat, ↓reduceIte, Nat.reduceEqDiff, Nat.reduceDiv, Nat.reduceAdd, Nat.reduceLeDiff, Nat.zero_le, true_and, and_true, true_or, or_true, mm_b0, mm_b1, mm_lc_lt, mm_lc_le, mm_lc_gt, mm_lc_ge, mm_lc_eq, Int.not_lt, Int.not_le, Decidable.not_not, Int.sub_neg]
        refine ⟨by omega, ih (i + 1) _ _ (by omega) (by omega) (by omega) (by omega) (fun o' d1 d2 => by rw [z0 o' d1 d2, f1 o' d1 d2]) ?_ (by omega) (by omega) (by omega) (by omega) ?_⟩
        · unfold wB; omega
        · rw [z1, z2, z3]; exact hstep
      · intro hnot
        have hA5 : ¬ wA5 (M1 29 1) (M1 29 2) (M1 29 3) (F i) (L i) (T i) ≤ rest := by clear zs; omega
        have hstep := he
        simp only [gaF] at hstep
        rw [if_neg hA5] at hstep
        have e27' : M3 27 = M 27 := by rw [z0 27 (by decide) (by decide), e27]
        have e28' : M3 28 = M 28 := by rw [z0 28 (by decide) (by decide), e28]
        rw [e27', e28', if_pos ⟨by omega, by omega⟩, hp']
        refine ⟨isSrt27, by omega, ?_⟩
        refine (hY M3 (fun o' c1 c2 => by rw [z0 o' c1 c2, f1 o' c1 c2])).2 i _ _ _ _ hstep.symm i0 ?_
        rw [hFv, hLv, hTv]
        rw [← z1, ← z2, ← z3] at hpos
        exact ⟨z1, z2, z3, zs, ⟨zb.1, zb.2.2.1, zb.2.2.2.2.1, zb.2.2.2.2.2.2.1, zb.2.2.2.2.2.2.2.2.1, zb.2.2.2.2.2.2.2.2.2.2.1⟩, by omega, hpos⟩
  refine hJ 0 _ _ _ (show mm_wp _ _ _ mo_Plan_goAhead_0 _ _ _ from ?_)
  simp only [mo_Plan_goAhead_0, mm_wp, mm_ldi, mm_lda, mm_ldl, mm_sti, mm_sta, mm_stl, mm_inc, mm_2i, mm_mm, mm_2l, mm_lcmp, mm_i2l, mm_l2i, mm_cast8, mm_if1, mm_if2, mm_cmp, mm_swi, mm_sw, mm_pop1, mm_dup, mm_dup2, mm_geti, mm_geta, mm_puti, mm_iald, mm_bald, mm_aald, mm_iast, mm_bast, mm_alen, mm_acpy, mm_call, mm_callv, mm_recv, mm_pop, mm_find, mm_push, mm_cats, mm_cat, mm_reti, mm_retz, mm_retl, mm_reta, mm_retv, mm_set1, mm_set2, mm_kill, List.getElem?_cons_zero, List.getElem?_cons_succ, Int.reduceToNat, ↓reduceIte, Nat.reduceEqDiff, Nat.reduceDiv, Nat.reduceAdd, Nat.reduceLeDiff, Nat.zero_le, true_and, and_true, true_or, or_true, mm_b0, mm_b1, mm_lc_lt, mm_lc_le, mm_lc_gt, mm_lc_ge, mm_lc_eq, Int.not_lt, Int.not_le, Decidable.not_not, Int.sub_neg, c_0, c_1, c_2, l_2, c_3, c_4, l_4, c_5, l_5, c_6, l_6, c_7, l_7, c_8, c_9, l_9, c_10, l_10, c_11, l_11, c_12, l_12, c_13, c_14, l_14, c_15, l_15, c_16, l_16, c_17, l_17, c_18, c_19, l_19, c_20, l_20, c_21, l_21, c_22, l_22, c_23, c_24, l_24, c_25, l_25, c_26, c_27, c_28, l_28, c_29, c_30, l_30, c_31, c_32, l_32, c_33, l_33, c_34, l_34, c_35, l_35, c_36, l_36, c_37, l_37, c_38, l_38, c_39, l_39, c_40, c_41, l_41, c_42, c_43, c_44, l_44, c_45, c_46, l_46, c_47, c_48, l_48, c_49, l_49, c_50, l_50, c_51, l_51, c_52, l_52, c_53, l_53, c_54, l_54, c_55, l_55, c_56, l_56, c_57, l_57, c_58, l_58, c_59, l_59, c_60, l_60, c_61, l_61, c_62, c_63, l_63, c_64, l_64, c_65, l_65, c_66, l_66, c_67, l_67, c_68, l_68, c_69, l_69, c_70, l_70, c_71, l_71, c_72, l_72, c_73, l_73, c_74, l_74, c_75, l_75, c_76, l_76, t_Win_begin]
  refine ⟨isW29, fun M1 f1 b1 b2 b3 b4 b5 b6 => ?_⟩
  refine hl (M 27 1).toNat 0 m M1 (by omega) (by omega) hm0 (by omega) (fun o' c1 _ => f1 o' c1) ?_ (by omega) (by omega) (by omega) (by omega) ?_
  · unfold wB; omega
  · rw [b1, b2, b3]
theorem mvK_of {M' : mmM} {l r t f la ti m : Int} (hm : 0 ≤ m) (h : gaM M' l r t f la ti m) : (if 0 < M' 30 0 then 0 else if 0 < M' 30 1 then 1 else if 0 < M' 30 2 then 2 else if 0 < M' 30 3 then 3 else if 0 < M' 30 4 then 4 else if 0 < M' 30 5 then 5 else -1) = mvK l r t f la ti m ∧ 0 ≤ mvK l r t f la ti m ∧ mvK l r t f la ti m ≤ 5 := by
  obtain ⟨-, -, -, ⟨y0, y1, y2, y3, y4, y5⟩, ⟨b0, b1, b2, b3, b4, b5⟩, hlt, -⟩ := h
  obtain ⟨a0, a1, a2, a3, a4, a5⟩ := wA_le l r t f la ti
  have s0 : 0 < M' 30 0 ↔ m < wA0 l f := by clear y1 y2 y3 y4 y5; omega
  have s1 : 0 < M' 30 0 + M' 30 1 ↔ m < wA1 l r f la := by clear y0 y2 y3 y4 y5; omega
  have s2 : 0 < M' 30 0 + M' 30 1 + M' 30 2 ↔ m < wA2 l r f la := by clear y0 y1 y3 y4 y5; omega
  have s3 : 0 < M' 30 0 + M' 30 1 + M' 30 2 + M' 30 3 ↔ m < wA3 l r f la := by clear y0 y1 y2 y4 y5; omega
  have s4 : 0 < M' 30 0 + M' 30 1 + M' 30 2 + M' 30 3 + M' 30 4 ↔ m < wA4 l r t f la ti := by clear y0 y1 y2 y3 y5; omega
  have s5 : 0 < M' 30 0 + M' 30 1 + M' 30 2 + M' 30 3 + M' 30 4 + M' 30 5 ↔ m < wA5 l r t f la ti := by clear y0 y1 y2 y3 y4; omega
  clear y0 y1 y2 y3 y4 y5
  unfold mvK
  by_cases c0 : m < wA0 l f
  · rw [if_pos (s0.mpr c0), if_pos c0]; omega
  · rw [if_neg (fun z => c0 (s0.mp z)), if_neg c0]
    have n0 : ¬ 0 < M' 30 0 := fun z => c0 (s0.mp z)
    by_cases c1 : m < wA1 l r f la
    · rw [if_pos (by have := s1.mpr c1; omega), if_pos c1]; omega
    · have n1 : ¬ 0 < M' 30 0 + M' 30 1 := fun z => c1 (s1.mp z)
      rw [if_neg (by omega), if_neg c1]
      by_cases c2 : m < wA2 l r f la
      · rw [if_pos (by have := s2.mpr c2; omega), if_pos c2]; omega
      · have n2 : ¬ 0 < M' 30 0 + M' 30 1 + M' 30 2 := fun z => c2 (s2.mp z)
        rw [if_neg (by omega), if_neg c2]
        by_cases c3 : m < wA3 l r f la
        · rw [if_pos (by have := s3.mpr c3; omega), if_pos c3]; omega
        · have n3 : ¬ 0 < M' 30 0 + M' 30 1 + M' 30 2 + M' 30 3 := fun z => c3 (s3.mp z)
          rw [if_neg (by omega), if_neg c3]
          by_cases c4 : m < wA4 l r t f la ti
          · rw [if_pos (by have := s4.mpr c4; omega), if_pos c4]; omega
          · have n4 : ¬ 0 < M' 30 0 + M' 30 1 + M' 30 2 + M' 30 3 + M' 30 4 := fun z => c4 (s4.mp z)
            rw [if_neg (by omega), if_neg c4, if_pos (by have := s5.mpr hlt; omega)]; omega
theorem mvC_of {M' : mmM} {l r t f la ti m : Int} (h : gaM M' l r t f la ti m) : (if mvK l r t f la ti m = 0 then M' 29 1 - 1 else if mvK l r t f la ti m = 1 then M' 29 2 + 1 else if mvK l r t f la ti m = 2 then M' 29 1 else if mvK l r t f la ti m = 3 then M' 29 2 else if mvK l r t f la ti m = 4 then M' 29 3 else M' 29 3 - 1) = mvC l r t f la ti m := by
  obtain ⟨z1, z2, z3, -⟩ := h
  rw [z1, z2, z3]
  unfold mvK mvC
  by_cases c0 : m < wA0 l f
  · simp only [c0, ↓reduceIte]
  · by_cases c1 : m < wA1 l r f la
    · simp only [c0, c1, ↓reduceIte, Int.reduceEq]
    · by_cases c2 : m < wA2 l r f la
      · simp only [c0, c1, c2, ↓reduceIte, Int.reduceEq]
      · by_cases c3 : m < wA3 l r f la
        · simp only [c0, c1, c2, c3, ↓reduceIte, Int.reduceEq]
        · by_cases c4 : m < wA4 l r t f la ti
          · simp only [c0, c1, c2, c3, c4, ↓reduceIte, Int.reduceEq]
          · simp only [c0, c1, c2, c3, c4, ↓reduceIte, Int.reduceEq]
theorem gaF_pos {F L T : Int → Int} : ∀ (d : Nat) (i l r t rem : Int) (x : Int × Int × Int × Int × Int), 0 ≤ rem → gaF F L T d i l r t rem = some x → 0 ≤ x.2.2.2.2
  | 0, _, _, _, _, _, _, _, h => by cases h
  | d + 1, i, l, r, t, rem, x, h0, h => by
    simp only [gaF] at h
    split at h
    · exact gaF_pos d _ _ _ _ _ x (by omega) h
    · cases h; exact h0
def t_P_move : mmT := fun as M Q => match as with
  | [.inr (.inr o), .inl m, .inl w] => o = 0 ∧ rwI M ∧ quI M 24 ∧ seI M ∧ (¬ (0 ≤ m ∧ 0 ≤ w ∧ w ≤ 2) → Q (some (vi (-1))) M) ∧ ((0 ≤ m ∧ 0 ≤ w ∧ w ≤ 2) → ∀ M' P sz, (∀ o', o' < 26 ∨ 30 < o' → M' o' = M o') → isOrd (sPl M 18 (-1)) (kyf M 18 (M 0 10) (M 0 11)) P sz → (gaF (fun i => M 20 (P i)) (fun i => M 21 (P i)) (fun i => M 22 (P i)) sz.toNat 0 0 (-1) 0 m = none → Q (some (vi (-1))) M') ∧ ∀ i l r t rem, gaF (fun i => M 20 (P i)) (fun i => M 21 (P i)) (fun i => M 22 (P i)) sz.toNat 0 0 (-1) 0 m = some (i, l, r, t, rem) → Q (some (vi (if w = 2 then P i else if w = 0 then mvK l r t (M 20 (P i)) (M 21 (P i)) (M 22 (P i)) rem else mvC l r t (M 20 (P i)) (M 21 (P i)) (M 22 (P i)) rem))) M')
  | _ => False
set_option maxHeartbeats 4000000 in
set_option maxRecDepth 100000 in
theorem p_P_move : ∀ as M Q, (∀ v ∈ as, mm_vin v) → mm_mem M → t_P_move as M Q → (mm_ent as).length ≤ 5 ∧ mm_ok mb_P_move [(101, t_Plan_lay), (106, t_Plan_goAhead), (906, t_Win_nextKind), (909, t_Win_movedBy)] (mm_entry 5 as) M Q := by
  intro as M Q hin hM h
  unfold t_P_move at h
  split at h
  rotate_left
  · exact h.elim
  rename_i o m w
  have hR_m : mm_R m := hin (vi m) (by simp)
  have hR_w : mm_R w := hin (vi w) (by simp)
  refine ⟨by simp [mm_ent], (show mm_ok mb_P_move [(101, t_Plan_lay), (106, t_Plan_goAhead), (906, t_Win_nextKind), (909, t_Win_movedBy)] [some (vr o), some (vi m), some (vi w), none, none] M Q from ?_)⟩
  intro J hJ
  obtain ⟨rfl, hr, hq, hs, hN, hY⟩ := h
  have hq25 : quI M 25 := ⟨hq.1, by have := hq.2.1; omega, hq.2.2⟩
  have hB := quB hr hq25
  have hs' := hs
  unfold seI at hs'
  have h13 : ¬ (0 ≤ m ∧ 0 ≤ w ∧ w ≤ 2) → J 13 [some (vr 0), some (vi m), some (vi w), none, none] [] M := by
    intro hz
    refine hJ 13 _ _ _ (show mm_wp _ _ _ mo_P_move_13 _ _ _ from ?_)
    simp only [mo_P_move_13, mm_wp, mm_ldi, mm_lda, mm_ldl, mm_sti, mm_sta, mm_stl, mm_inc, mm_2i, mm_mm, mm_2l, mm_lcmp, mm_i2l, mm_l2i, mm_cast8, mm_if1, mm_if2, mm_cmp, mm_swi, mm_sw, mm_pop1, mm_dup, mm_dup2, mm_geti, mm_geta, mm_puti, mm_iald, mm_bald, mm_aald, mm_iast, mm_bast, mm_alen, mm_acpy, mm_call, mm_callv, mm_recv, mm_pop, mm_find, mm_push, mm_cats, mm_cat, mm_reti, mm_retz, mm_retl, mm_reta, mm_retv, mm_set1, mm_set2, mm_kill, List.getElem?_cons_zero, List.getElem?_cons_succ, Int.reduceToNat, ↓reduceIte, Nat.reduceEqDiff, Nat.reduceDiv, Nat.reduceAdd, Nat.reduceLeDiff, Nat.zero_le, true_and, and_true, true_or, or_true, mm_b0, mm_b1, mm_lc_lt, mm_lc_le, mm_lc_gt, mm_lc_ge, mm_lc_eq, Int.not_lt, Int.not_le, Decidable.not_not, Int.sub_neg]
    exact hN hz
  have h15 : (0 ≤ m ∧ 0 ≤ w ∧ w ≤ 2) → J 15 [some (vr 0), some (vi m), some (vi w), none, none] [] M := by
    intro hz
    refine hJ 15 _ _ _ (show mm_wp _ _ _ mo_P_move_15 _ _ _ from ?_)
    simp only [mo_P_move_15, mm_wp, mm_ldi, mm_lda, mm_ldl, mm_sti, mm_sta, mm_stl, mm_inc, mm_2i, mm_mm, mm_2l, mm_lcmp, mm_i2l, mm_l2i, mm_cast8, mm_if1, mm_if2, mm_cmp, mm_swi, mm_sw, mm_pop1, mm_dup, mm_dup2, mm_geti, mm_geta, mm_puti, mm_iald, mm_bald, mm_aald, mm_iast, mm_bast, mm_alen, mm_acpy, mm_call, mm_callv, mm_recv, mm_pop, mm_find, mm_push, mm_cats, mm_cat, mm_reti, mm_retz, mm_retl, mm_reta, mm_retv, mm_set1, mm_set2, mm_kill, List.getElem?_cons_zero, List.getElem?_cons_succ, Int.reduceToNat, ↓reduceIte, Nat.reduceEqDiff, Nat.reduceDiv, Nat.reduceAdd, Nat.reduceLeDiff, Nat.zero_le, true_and, and_true, true_or, or_true, mm_b0, mm_b1, mm_lc_lt, mm_lc_le, mm_lc_gt, mm_lc_ge, mm_lc_eq, Int.not_lt, Int.not_le, Decidable.not_not, Int.sub_neg, c_0, c_1, c_2, l_2, c_3, c_4, l_4, c_5, l_5, c_6, l_6, c_7, l_7, c_8, c_9, l_9, c_10, l_10, c_11, l_11, c_12, l_12, c_13, c_14, l_14, c_15, l_15, c_16, l_16, c_17, l_17, c_18, c_19, l_19, c_20, l_20, c_21, l_21, c_22, l_22, c_23, c_24, l_24, c_25, l_25, c_26, c_27, c_28, l_28, c_29, c_30, l_30, c_31, c_32, l_32, c_33, l_33, c_34, l_34, c_35, l_35, c_36, l_36, c_37, l_37, c_38, l_38, c_39, l_39, c_40, c_41, l_41, c_42, c_43, c_44, l_44, c_45, c_46, l_46, c_47, c_48, l_48, c_49, l_49, c_50, l_50, c_51, l_51, c_52, l_52, c_53, l_53, c_54, l_54, c_55, l_55, c_56, l_56, c_57, l_57, c_58, l_58, c_59, l_59, c_60, l_60, c_61, l_61, c_62, c_63, l_63, c_64, l_64, c_65, l_65, c_66, l_66, c_67, l_67, c_68, l_68, c_69, l_69, c_70, l_70, c_71, l_71, c_72, l_72, c_73, l_73, c_74, l_74, c_75, l_75, c_76, l_76, t_Plan_lay, t_Plan_goAhead]
    refine ⟨isPl26, isQ18, hB, by decide, by omega, by omega, by omega, by omega, fun M0 f0 n0 k0 => ?_⟩
    have fl : ∀ o, o < 26 → M0 o = M o := fun o ho => f0 o (by omega) (by omega)
    have hPl := plB_of k0 n0 hB.2.1 (fl 18 (by decide))
    refine ⟨hz.1, qB_c fl hB, hPl, fun M1 f1 => ?_⟩
    have hY := hY hz M1 (plP M0) (M0 27 1) (fun o' c => by rw [f1 o' (by omega) (by omega), f0 o' (by omega) (by omega)]) k0.1
    rw [fl 20 (by decide), fl 21 (by decide), fl 22 (by decide)]
    have h58 : ∀ z, Q (some (vi z)) M1 → J 58 [some (vr 0), some (vi m), some (vi w), some (vi z), none] [] M1 := by
      intro z hz
      refine hJ 58 _ _ _ (show mm_wp _ _ _ mo_P_move_58 _ _ _ from ?_)
      simp only [mo_P_move_58, mm_wp, mm_ldi, mm_lda, mm_ldl, mm_sti, mm_sta, mm_stl, mm_inc, mm_2i, mm_mm, mm_2l, mm_lcmp, mm_i2l, mm_l2i, mm_cast8, mm_if1, mm_if2, mm_cmp, mm_swi, mm_sw, mm_pop1, mm_dup, mm_dup2, mm_geti, mm_geta, mm_puti, mm_iald, mm_bald, mm_aald, mm_iast, mm_bast, mm_alen, mm_acpy, mm_call, mm_callv, mm_recv, mm_pop, mm_find, mm_push, mm_cats, mm_cat, mm_reti, mm_retz, mm_retl, mm_reta, mm_retv, mm_set1, mm_set2, mm_kill, List.getElem?_cons_zero, List.getElem?_cons_succ, Int.reduceToNat, ↓reduceIte, Nat.reduceEqDiff, Nat.reduceDiv, Nat.reduceAdd, Nat.reduceLeDiff, Nat.zero_le, true_and, and_true, true_or, or_true, mm_b0, mm_b1, mm_lc_lt, mm_lc_le, mm_lc_gt, mm_lc_ge, mm_lc_eq, Int.not_lt, Int.not_le, Decidable.not_not, Int.sub_neg]
      exact hz
    refine ⟨fun hn => ⟨fun _ => h58 _ (hY.1 hn), fun z => absurd trivial z⟩, fun i l r t rem hg i0 hgm => ⟨fun z => ?_, fun z => ⟨fun z2 => ?_, fun z2 => h58 _ ?_⟩⟩⟩
    · exfalso
      have hi := k0.1.2.1
      have hw0 : 0 ≤ plP M0 i ∨ True := Or.inr trivial
      by_cases hi1 : i < M0 27 1
      · have h9 : 0 ≤ plP M0 i := (hi i i0 hi1).1
        omega
      · have hlt : ∀ (d : Nat) (j l r t rem : Int) (x : Int × Int × Int × Int × Int), gaF (fun i => M 20 (plP M0 i)) (fun i => M 21 (plP M0 i)) (fun i => M 22 (plP M0 i)) d j l r t rem = some x → x.1 < j + d := by
          intro d
          induction d with
          | zero => intro j l r t rem x h; cases h
          | succ d ih =>
            intro j l r t rem x h
            simp only [gaF] at h
            split at h
            · have := ih _ _ _ _ _ _ h; omega
            · cases h; omega
        have := hlt _ _ _ _ _ _ _ hg
        simp only at this
        have := k0.1.1
        omega
    · have hk := mvK_of (gaF_pos _ _ _ _ _ _ _ hz.1 hg) hgm
      have hc := mvC_of hgm
      have hq := hY.2 i l r t rem hg
      rw [if_neg z2] at hq
      have hgb := hgm.2.2.2.2.2.2
      refine hJ 60 _ _ _ (show mm_wp _ _ _ mo_P_move_60 _ _ _ from ?_)
      simp only [mo_P_move_60, mm_wp, mm_ldi, mm_lda, mm_ldl, mm_sti, mm_sta, mm_stl, mm_inc, mm_2i, mm_mm, mm_2l, mm_lcmp, mm_i2l, mm_l2i, mm_cast8, mm_if1, mm_if2, mm_cmp, mm_swi, mm_sw, mm_pop1, mm_dup, mm_dup2, mm_geti, mm_geta, mm_puti, mm_iald, mm_bald, mm_aald, mm_iast, mm_bast, mm_alen, mm_acpy, mm_call, mm_callv, mm_recv, mm_pop, mm_find, mm_push, mm_cats, mm_cat, mm_reti, mm_retz, mm_retl, mm_reta, mm_retv, mm_set1, mm_set2, mm_kill, List.getElem?_cons_zero, List.getElem?_cons_succ, Int.reduceToNat, ↓reduceIte, Nat.reduceEqDiff, Nat.reduceDiv, Nat.reduceAdd, Nat.reduceLeDiff, Nat.zero_le, true_and, and_true, true_or, or_true, mm_b0, mm_b1, mm_lc_lt, mm_lc_le, mm_lc_gt, mm_lc_ge, mm_lc_eq, Int.not_lt, Int.not_le, Decidable.not_not, Int.sub_neg, c_0, c_1, c_2, l_2, c_3, c_4, l_4, c_5, l_5, c_6, l_6, c_7, l_7, c_8, c_9, l_9, c_10, l_10, c_11, l_11, c_12, l_12, c_13, c_14, l_14, c_15, l_15, c_16, l_16, c_17, l_17, c_18, c_19, l_19, c_20, l_20, c_21, l_21, c_22, l_22, c_23, c_24, l_24, c_25, l_25, c_26, c_27, c_28, l_28, c_29, c_30, l_30, c_31, c_32, l_32, c_33, l_33, c_34, l_34, c_35, l_35, c_36, l_36, c_37, l_37, c_38, l_38, c_39, l_39, c_40, c_41, l_41, c_42, c_43, c_44, l_44, c_45, c_46, l_46, c_47, c_48, l_48, c_49, l_49, c_50, l_50, c_51, l_51, c_52, l_52, c_53, l_53, c_54, l_54, c_55, l_55, c_56, l_56, c_57, l_57, c_58, l_58, c_59, l_59, c_60, l_60, c_61, l_61, c_62, c_63, l_63, c_64, l_64, c_65, l_65, c_66, l_66, c_67, l_67, c_68, l_68, c_69, l_69, c_70, l_70, c_71, l_71, c_72, l_72, c_73, l_73, c_74, l_74, c_75, l_75, c_76, l_76, t_Win_nextKind]
      rw [hk.1]
      have h93 : ∀ z, Q (some (vi z)) M1 → J 93 [some (vr 0), some (vi m), some (vi w), some (vi (plP M0 i)), some (vi (mvK l r t (M 20 (plP M0 i)) (M 21 (plP M0 i)) (M 22 (plP M0 i)) rem))] [vi z] M1 := by
        intro z hz
        refine hJ 93 _ _ _ (show mm_wp _ _ _ mo_P_move_93 _ _ _ from ?_)
        simp only [mo_P_move_93, mm_wp, mm_ldi, mm_lda, mm_ldl, mm_sti, mm_sta, mm_stl, mm_inc, mm_2i, mm_mm, mm_2l, mm_lcmp, mm_i2l, mm_l2i, mm_cast8, mm_if1, mm_if2, mm_cmp, mm_swi, mm_sw, mm_pop1, mm_dup, mm_dup2, mm_geti, mm_geta, mm_puti, mm_iald, mm_bald, mm_aald, mm_iast, mm_bast, mm_alen, mm_acpy, mm_call, mm_callv, mm_recv, mm_pop, mm_find, mm_push, mm_cats, mm_cat, mm_reti, mm_retz, mm_retl, mm_reta, mm_retv, mm_set1, mm_set2, mm_kill, List.getElem?_cons_zero, List.getElem?_cons_succ, Int.reduceToNat, ↓reduceIte, Nat.reduceEqDiff, Nat.reduceDiv, Nat.reduceAdd, Nat.reduceLeDiff, Nat.zero_le, true_and, and_true, true_or, or_true, mm_b0, mm_b1, mm_lc_lt, mm_lc_le, mm_lc_gt, mm_lc_ge, mm_lc_eq, Int.not_lt, Int.not_le, Decidable.not_not, Int.sub_neg]
        exact hz
      refine ⟨isW29, fun z3 => ?_, fun z3 => h93 _ ?_⟩
      · rw [if_neg z3] at hq
        refine hJ 81 _ _ _ (show mm_wp _ _ _ mo_P_move_81 _ _ _ from ?_)
        simp only [mo_P_move_81, mm_wp, mm_ldi, mm_lda, mm_ldl, mm_sti, mm_sta, mm_stl, mm_inc, mm_2i, mm_mm, mm_2l, mm_lcmp, mm_i2l, mm_l2i, mm_cast8, mm_if1, mm_if2, mm_cmp, mm_swi, mm_sw, mm_pop1, mm_dup, mm_dup2, mm_geti, mm_geta, mm_puti, mm_iald, mm_bald, mm_aald, mm_iast, mm_bast, mm_alen, mm_acpy, mm_call, mm_callv, mm_recv, mm_pop, mm_find, mm_push, mm_cats, mm_cat, mm_reti, mm_retz, mm_retl, mm_reta, mm_retv, mm_set1, mm_set2, mm_kill, List.getElem?_cons_zero, List.getElem?_cons_succ, Int.reduceToNat, ↓reduceIte, Nat.reduceEqDiff, Nat.reduceDiv, Nat.reduceAdd, Nat.reduceLeDiff, Nat.zero_le, true_and, and_true, true_or, or_true, mm_b0, mm_b1, mm_lc_lt, mm_lc_le, mm_lc_gt, mm_lc_ge, mm_lc_eq, Int.not_lt, Int.not_le, Decidable.not_not, Int.sub_neg, c_0, c_1, c_2, l_2, c_3, c_4, l_4, c_5, l_5, c_6, l_6, c_7, l_7, c_8, c_9, l_9, c_10, l_10, c_11, l_11, c_12, l_12, c_13, c_14, l_14, c_15, l_15, c_16, l_16, c_17, l_17, c_18, c_19, l_19, c_20, l_20, c_21, l_21, c_22, l_22, c_23, c_24, l_24, c_25, l_25, c_26, c_27, c_28, l_28, c_29, c_30, l_30, c_31, c_32, l_32, c_33, l_33, c_34, l_34, c_35, l_35, c_36, l_36, c_37, l_37, c_38, l_38, c_39, l_39, c_40, c_41, l_41, c_42, c_43, c_44, l_44, c_45, c_46, l_46, c_47, c_48, l_48, c_49, l_49, c_50, l_50, c_51, l_51, c_52, l_52, c_53, l_53, c_54, l_54, c_55, l_55, c_56, l_56, c_57, l_57, c_58, l_58, c_59, l_59, c_60, l_60, c_61, l_61, c_62, c_63, l_63, c_64, l_64, c_65, l_65, c_66, l_66, c_67, l_67, c_68, l_68, c_69, l_69, c_70, l_70, c_71, l_71, c_72, l_72, c_73, l_73, c_74, l_74, c_75, l_75, c_76, l_76, t_Win_movedBy]
        rw [hc]
        have hk2 := hk.2.1
        have hk3 := hk.2.2
        clear hk hc
        exact ⟨isW29, ⟨hk2, hk3, hgb⟩, h93 _ hq⟩
      · rw [if_pos z3] at hq
        exact hq
    · have hq := hY.2 i l r t rem hg
      rw [if_pos z2] at hq
      exact hq
  refine hJ 0 _ _ _ (show mm_wp _ _ _ mo_P_move_0 _ _ _ from ?_)
  simp only [mo_P_move_0, mm_wp, mm_ldi, mm_lda, mm_ldl, mm_sti, mm_sta, mm_stl, mm_inc, mm_2i, mm_mm, mm_2l, mm_lcmp, mm_i2l, mm_l2i, mm_cast8, mm_if1, mm_if2, mm_cmp, mm_swi, mm_sw, mm_pop1, mm_dup, mm_dup2, mm_geti, mm_geta, mm_puti, mm_iald, mm_bald, mm_aald, mm_iast, mm_bast, mm_alen, mm_acpy, mm_call, mm_callv, mm_recv, mm_pop, mm_find, mm_push, mm_cats, mm_cat, mm_reti, mm_retz, mm_retl, mm_reta, mm_retv, mm_set1, mm_set2, mm_kill, List.getElem?_cons_zero, List.getElem?_cons_succ, Int.reduceToNat, ↓reduceIte, Nat.reduceEqDiff, Nat.reduceDiv, Nat.reduceAdd, Nat.reduceLeDiff, Nat.zero_le, true_and, and_true, true_or, or_true, mm_b0, mm_b1, mm_lc_lt, mm_lc_le, mm_lc_gt, mm_lc_ge, mm_lc_eq, Int.not_lt, Int.not_le, Decidable.not_not, Int.sub_neg]
  exact ⟨fun z => h13 (by omega), fun z => ⟨fun z2 => h13 (by omega), fun z2 => ⟨fun z3 => h15 (by omega), fun z3 => h13 (by omega)⟩⟩⟩
