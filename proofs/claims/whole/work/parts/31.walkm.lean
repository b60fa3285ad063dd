/-! walk, move -/
theorem wA_le (l r t f la ti : Int) : 0 ≤ wA0 l f ∧ wA0 l f ≤ wA1 l r f la ∧ wA1 l r f la ≤ wA2 l r f la ∧ wA2 l r f la ≤ wA3 l r f la ∧ wA3 l r f la ≤ wA4 l r t f la ti ∧ wA4 l r t f la ti ≤ wA5 l r t f la ti := by
  unfold wA5 wA4 wA3 wA2 wA1 wA0
  omega
theorem wk_full {l r t f la ti m : Int} (h : wA5 l r t f la ti ≤ m) : wkL l r f la m = f ∧ wkR l r f la m = la ∧ wkT l r t f la ti m = ti ∧ wkE l r f la m = wA3 l r f la ∧ wkU l r t f la ti m = wA5 l r t f la ti - wA3 l r f la := by
  obtain ⟨a0, a1, a2, a3, a4, a5⟩ := wA_le l r t f la ti
  unfold wkL wkR wkT wkE wkU
  rw [Int.min_eq_right (show wA0 l f ≤ m by omega), Int.min_eq_right (show wA1 l r f la ≤ m by omega), Int.min_eq_right (show wA2 l r f la ≤ m by omega), Int.min_eq_right (show wA3 l r f la ≤ m by omega), Int.min_eq_right (show wA4 l r t f la ti ≤ m by omega), Int.min_eq_right h]
  clear a0 a1 a2 a3 a4 a5 h
  unfold wA5 wA4 wA3 wA2 wA1 wA0
  refine ⟨by omega, by omega, by omega, by omega, by omega⟩
theorem wk_in {l r t f la ti m : Int} (hm : 0 ≤ m) (hl : 0 ≤ l ∧ l ≤ 60) (hr : -1 ≤ r ∧ r ≤ 60) (ht : 0 ≤ t ∧ t ≤ 32) (hf : 0 ≤ f ∧ f < 60) (hla : 0 ≤ la ∧ la < 60) (hti : 0 ≤ ti ∧ ti ≤ 32) : 0 ≤ wkE l r f la m ∧ wkE l r f la m ≤ 200 ∧ 0 ≤ wkU l r t f la ti m ∧ wkU l r t f la ti m ≤ 100 ∧ wkE l r f la m ≤ m ∧ wkE l r f la m + wkU l r t f la ti m = min m (wA5 l r t f la ti) ∧ wA5 l r t f la ti ≤ 300 := by
  obtain ⟨a0, a1, a2, a3, a4, a5⟩ := wA_le l r t f la ti
  have b3 : wA3 l r f la ≤ 200 := by clear a0 a1 a2 a3 a4 a5; unfold wA3 wA2 wA1 wA0; omega
  have b5 : wA5 l r t f la ti - wA3 l r f la ≤ 64 := by clear a0 a1 a2 a3 a4 a5 b3; unfold wA5 wA4; omega
  unfold wkE wkU
  omega
/-- the walk from question i on, with rem moves: where it stops -/
def wlkF (F L T : Int → Int) : Nat → Int → Int → Int → Int → Int → Int → Int → Int × Int × Int × Int × Int × Int × Int
  | 0, i, l, r, t, rem, e, u => (i, l, r, t, rem, e, u)
  | d + 1, i, l, r, t, rem, e, u => if wA5 l r t (F i) (L i) (T i) ≤ rem then wlkF F L T d (i + 1) (F i) (L i) (T i) (rem - wA5 l r t (F i) (L i) (T i)) (e + wA3 l r (F i) (L i)) (u + (wA5 l r t (F i) (L i) (T i) - wA3 l r (F i) (L i))) else (i, wkL l r (F i) (L i) rem, wkR l r (F i) (L i) rem, wkT l r t (F i) (L i) (T i) rem, 0, e + wkE l r (F i) (L i) rem, u + wkU l r t (F i) (L i) (T i) rem)
def t_P_walk : mmT := fun as M Q => match as with
  | [.inr (.inr o), .inl n] => o = 0 ∧ rwI M ∧ quI M 24 ∧ seI M ∧ wnI M ∧ (¬ (1 ≤ n ∧ n ≤ 400) → Q (some (vi (-1))) M) ∧ ((1 ≤ n ∧ n ≤ 400) → ∀ M' P sz k l r t rem e u, (∀ o', o' < 26 ∨ (30 < o' ∧ o' < 45) ∨ 46 < o' → M' o' = M o') → isOrd (sPl M 18 (-1)) (kyf M 18 (M 0 10) (M 0 11)) P sz → (k, l, r, t, rem, e, u) = wlkF (fun i => M 20 (P i)) (fun i => M 21 (P i)) (fun i => M 22 (P i)) (sz - min (M 45 6) sz).toNat (min (M 45 6) sz) (M 45 1) (M 45 2) (M 45 3) n (M 45 4) (M 45 5) → M' 45 1 = l → M' 45 2 = r → M' 45 3 = t → M' 45 4 = e → M' 45 5 = u → M' 45 6 = k → Q (some (vi (n - rem))) M')
  | _ => False
set_option maxHeartbeats 4000000 in
set_option maxRecDepth 100000 in
theorem p_P_walk : ∀ as M Q, (∀ v ∈ as, mm_vin v) → mm_mem M → t_P_walk as M Q → (mm_ent as).length ≤ 4 ∧ mm_ok mb_P_walk [(101, t_Plan_lay), (503, t_Srt_question), (212, t_Q_aim), (907, t_Win_make), (905, t_Win_distance)] (mm_entry 4 as) M Q := by
  intro as M Q hin hM h
  unfold t_P_walk at h
  split at h
  rotate_left
  · exact h.elim
  rename_i o n
  have hR_n : mm_R n := hin (vi n) (by simp)
  refine ⟨by simp [mm_ent], (show mm_ok mb_P_walk [(101, t_Plan_lay), (503, t_Srt_question), (212, t_Q_aim), (907, t_Win_make), (905, t_Win_distance)] [some (vr o), some (vi n), none, none] M Q from ?_)⟩
  intro J hJ
  obtain ⟨rfl, hr, hq, hs, hw, hN, hY⟩ := h
  have hq25 : quI M 25 := ⟨hq.1, by have := hq.2.1; omega, hq.2.2⟩
  have hB := quB hr hq25
  have hs' := hs
  unfold seI at hs'
  unfold wnI at hw
  have hr2 := hr.2.1
  have hr5 := hr.2.2.2.2.1
  have h12 : ¬ (1 ≤ n ∧ n ≤ 400) → J 12 [some (vr 0), some (vi n), none, none] [] M := by
    intro hz
    refine hJ 12 _ _ _ (show mm_wp _ _ _ mo_P_walk_12 _ _ _ from ?_)
    simp only [mo_P_walk_12, mm_wp, mm_ldi, mm_lda, mm_ldl, mm_sti, mm_sta, mm_stl, mm_inc, mm_2i, mm_mm, mm_2l, mm_lcmp, mm_i2l, mm_l2i, mm_cast8, mm_if1, mm_if2, mm_cmp, mm_swi, mm_sw, mm_pop1, mm_dup, mm_dup2, mm_geti, mm_geta, mm_puti, mm_iald, mm_bald, mm_aald, mm_iast, mm_bast, mm_alen, mm_acpy, mm_call, mm_callv, mm_recv, mm_pop, mm_find, mm_push, mm_cats, mm_cat, mm_reti, mm_retz, mm_retl, mm_reta, mm_retv, mm_set1, mm_set2, mm_kill, List.getElem?_cons_zero, List.getElem?_cons_succ, Int.reduceToNat, ↓reduceIte, Nat.reduceEqDiff, Nat.reduceDiv, Nat.reduceAdd, Nat.reduceLeDiff, Nat.zero_le, true_and, and_true, true_or, or_true, mm_b0, mm_b1, mm_lc_lt, mm_lc_le, mm_lc_gt, mm_lc_ge, mm_lc_eq, Int.not_lt, Int.not_le, Decidable.not_not, Int.sub_neg]
    exact hN hz
  have h14 : (1 ≤ n ∧ n ≤ 400) → J 14 [some (vr 0), some (vi n), none, none] [] M := by
    intro hz
    have hY := hY hz
    refine hJ 14 _ _ _ (show mm_wp _ _ _ mo_P_walk_14 _ _ _ from ?_)
    simp only [mo_P_walk_14, mm_wp, mm_ldi, mm_lda, mm_ldl, mm_sti, mm_sta, mm_stl, mm_inc, mm_2i, mm_mm, mm_2l, mm_lcmp, mm_i2l, mm_l2i, mm_cast8, mm_if1, mm_if2, mm_cmp, mm_swi, mm_sw, mm_pop1, mm_dup, mm_dup2, mm_geti, mm_geta, mm_puti, mm_iald, mm_bald, mm_aald, mm_iast, mm_bast, mm_alen, mm_acpy, mm_call, mm_callv, mm_recv, mm_pop, mm_find, mm_push, mm_cats, mm_cat, mm_reti, mm_retz, mm_retl, mm_reta, mm_retv, mm_set1, mm_set2, mm_kill, List.getElem?_cons_zero, List.getElem?_cons_succ, Int.reduceToNat, ↓reduceIte, Nat.reduceEqDiff, Nat.reduceDiv, Nat.reduceAdd, Nat.reduceLeDiff, Nat.zero_le, true_and, and_true, true_or, or_true, mm_b0, mm_b1, mm_lc_lt, mm_lc_le, mm_lc_gt, mm_lc_ge, mm_lc_eq, Int.not_lt, Int.not_le, Decidable.not_not, Int.sub_neg, c_0, c_1, c_2, l_2, c_3, c_4, l_4, c_5, l_5, c_6, l_6, c_7, l_7, c_8, c_9, l_9, c_10, l_10, c_11, l_11, c_12, l_12, c_13, c_14, l_14, c_15, l_15, c_16, l_16, c_17, l_17, c_18, c_19, l_19, c_20, l_20, c_21, l_21, c_22, l_22, c_23, c_24, l_24, c_25, l_25, c_26, c_27, c_28, l_28, c_29, c_30, l_30, c_31, c_32, l_32, c_33, l_33, c_34, l_34, c_35, l_35, c_36, l_36, c_37, l_37, c_38, l_38, c_39, l_39, c_40, c_41, l_41, c_42, c_43, c_44, l_44, c_45, c_46, l_46, c_47, c_48, l_48, c_49, l_49, c_50, l_50, c_51, l_51, c_52, l_52, c_53, l_53, c_54, l_54, c_55, l_55, c_56, l_56, c_57, l_57, c_58, l_58, c_59, l_59, c_60, l_60, c_61, l_61, c_62, c_63, l_63, c_64, l_64, c_65, l_65, c_66, l_66, c_67, l_67, c_68, l_68, c_69, l_69, c_70, l_70, c_71, l_71, c_72, l_72, c_73, l_73, c_74, l_74, c_75, l_75, c_76, l_76, t_Plan_lay]
    refine ⟨isPl26, isQ18, hB, by decide, by omega, by omega, by omega, by omega, fun M0 f0 n0 k0 => ?_⟩
    have e45 : M0 45 = M 45 := f0 45 (by decide) (by decide)
    rw [e45]
    have sz0 := k0.1.1
    have hB2 : ∀ q, 0 ≤ q → q < M 18 4 → 0 ≤ M 20 q ∧ M 20 q < 60 ∧ 0 ≤ M 21 q ∧ M 21 q < 60 ∧ 0 ≤ M 22 q ∧ M 22 q ≤ 32 := hB.2.2
    have hb25 := hB.2.1
    have hP : ∀ i, 0 ≤ i → i < M0 27 1 → 0 ≤ plP M0 i ∧ plP M0 i < M 18 4 := fun i i0 i1 => by
      have := k0.1.2.1 i i0 i1
      exact ⟨this.1, this.2.1⟩
    have hY := fun M' k l r t rem e u fr => hY M' (plP M0) (M0 27 1) k l r t rem e u fr k0.1
    generalize hF : (fun i => M 20 (plP M0 i)) = F at hY
    generalize hL : (fun i => M 21 (plP M0 i)) = L at hY
    generalize hT : (fun i => M 22 (plP M0 i)) = T at hY
    have hFv : ∀ i, M 20 (plP M0 i) = F i := fun i => by rw [← hF]
    have hLv : ∀ i, M 21 (plP M0 i) = L i := fun i => by rw [← hL]
    have hTv : ∀ i, M 22 (plP M0 i) = T i := fun i => by rw [← hT]
    have hl : ∀ (d : Nat) (i made : Int) (M1 : mmM), i + d = M0 27 1 → 0 ≤ i → 0 ≤ made → made ≤ n → (∀ o', o' ≠ 45 → o' ≠ 46 → M1 o' = M0 o') → wB M1 45 → 0 ≤ M1 45 4 → M1 45 4 ≤ 5000000 + 200 * i → 0 ≤ M1 45 5 → M1 45 5 ≤ 5000000 + 100 * i → M1 45 6 = i → wlkF F L T d i (M1 45 1) (M1 45 2) (M1 45 3) (n - made) (M1 45 4) (M1 45 5) = wlkF F L T (M0 27 1 - min (M 45 6) (M0 27 1)).toNat (min (M 45 6) (M0 27 1)) (M 45 1) (M 45 2) (M 45 3) n (M 45 4) (M 45 5) → J 71 [some (vr 0), some (vi n), some (vi made), some (vi i)] [] M1 := by
      intro d
      induction d with
      | zero =>
        intro i made M1 hk i0 m0 m1 f1 wb a4 a4' a5 a5' a6 he
        have e27 : M1 27 = M0 27 := f1 27 (by decide) (by decide)
        have h149 : J 149 [some (vr 0), some (vi n), some (vi made), some (vi i)] [] M1 := by
          refine hJ 149 _ _ _ (show mm_wp _ _ _ mo_P_walk_149 _ _ _ from ?_)
          simp only [mo_P_walk_149, mm_wp, mm_ldi, mm_lda, mm_ldl, mm_sti, mm_sta, mm_stl, mm_inc, mm_2i, mm_mm, mm_2l, mm_lcmp, mm_i2l, mm_l2i, mm_cast8, mm_if1, mm_if2, mm_cmp, mm_swi, mm_sw, mm_pop1, mm_dup, mm_dup2, mm_geti, mm_geta, mm_puti, mm_iald, mm_bald, mm_aald, mm_iast, mm_bast, mm_alen, mm_acpy, mm_call, mm_callv, mm_recv, mm_pop, mm_find, mm_push, mm_cats, mm_cat, mm_reti, mm_retz, mm_retl, mm_reta, mm_retv, mm_set1, mm_set2, mm_kill, List.getElem?_cons_zero, List.getElem?_cons_succ, Int.reduceToNat, ↓reduceIte, Nat.reduceEqDiff, Nat.reduceDiv, Nat.reduceAdd, Nat.reduceLeDiff, Nat.zero_le, true_and, and_true, true_or, or_true, mm_b0, mm_b1, mm_lc_lt, mm_lc_le, mm_lc_gt, mm_lc_ge, mm_lc_eq, Int.not_lt, Int.not_le, Decidable.not_not, Int.sub_neg]
          have := hY M1 i (M1 45 1) (M1 45 2) (M1 45 3) (n - made) (M1 45 4) (M1 45 5) (fun o' c => by rw [f1 o' (by omega) (by omega), f0 o' (by omega) (by omega)]) he rfl rfl rfl rfl rfl a6
          rw [show n - (n - made) = made by omega] at this
          exact this
        refine hJ 71 _ _ _ (show mm_wp _ _ _ mo_P_walk_71 _ _ _ from ?_)
        simp only [mo_P_walk_71, mm_wp, mm_ldi, mm_lda, mm_ldl, mm_sti, mm_sta, mm_stl, mm_inc, mm_2i, mm_mm, mm_2l, mm_lcmp, mm_i2l, mm_l2i, mm_cast8, mm_if1, mm_if2, mm_cmp, mm_swi, mm_sw, mm_pop1, mm_dup, mm_dup2, mm_geti, mm_geta, mm_puti, mm_iald, mm_bald, mm_aald, mm_iast, mm_bast, mm_alen, mm_acpy, mm_call, mm_callv, mm_recv, mm_pop, mm_find, mm_push, mm_cats, mm_cat, mm_reti, mm_retz, mm_retl, mm_reta, mm_retv, mm_set1, mm_set2, mm_kill, List.getElem?_cons_zero, List.getElem?_cons_succ, Int.reduceToNat, ↓reduceIte, Nat.reduceEqDiff, Nat.reduceDiv, Nat.reduceAdd, Nat.reduceLeDiff, Nat.zero_le, true_and, and_true, true_or, or_true, mm_b0, mm_b1, mm_lc_lt, mm_lc_le, mm_lc_gt, mm_lc_ge, mm_lc_eq, Int.not_lt, Int.not_le, Decidable.not_not, Int.sub_neg, c_0, c_1, c_2, l_2, c_3, c_4, l_4, c_5, l_5, c_6, l_6, c_7, l_7, c_8, c_9, l_9, c_10, l_10, c_11, l_11, c_12, l_12, c_13, c_14, l_14, c_15, l_15, c_16, l_16, c_17, l_17, c_18, c_19, l_19, c_20, l_20, c_21, l_21, c_22, l_22, c_23, c_24, l_24, c_25, l_25, c_26, c_27, c_28, l_28, c_29, c_30, l_30, c_31, c_32, l_32, c_33, l_33, c_34, l_34, c_35, l_35, c_36, l_36, c_37, l_37, c_38, l_38, c_39, l_39, c_40, c_41, l_41, c_42, c_43, c_44, l_44, c_45, c_46, l_46, c_47, c_48, l_48, c_49, l_49, c_50, l_50, c_51, l_51, c_52, l_52, c_53, l_53, c_54, l_54, c_55, l_55, c_56, l_56, c_57, l_57, c_58, l_58, c_59, l_59, c_60, l_60, c_61, l_61, c_62, c_63, l_63, c_64, l_64, c_65, l_65, c_66, l_66, c_67, l_67, c_68, l_68, c_69, l_69, c_70, l_70, c_71, l_71, c_72, l_72, c_73, l_73, c_74, l_74, c_75, l_75, c_76, l_76, e27]
        exact ⟨fun _ => h149, fun z => by omega⟩
      | succ d ih =>
        intro i made M1 hk i0 m0 m1 f1 wb a4 a4' a5 a5' a6 he
        have e27 : M1 27 = M0 27 := f1 27 (by decide) (by decide)
        have e28 : M1 28 = M0 28 := f1 28 (by decide) (by decide)
        have ee : ∀ o, o < 26 → M1 o = M o := fun o ho => by rw [f1 o (by omega) (by omega), f0 o (by omega) (by omega)]
        have hpi := hP i i0 (by omega)
        have hqi := hB2 _ hpi.1 hpi.2
        rw [hFv, hLv, hTv] at hqi
        have wb' := wb
        obtain ⟨w1, w2, w3, w4, w5, w6⟩ := wb'
        refine hJ 71 _ _ _ (show mm_wp _ _ _ mo_P_walk_71 _ _ _ from ?_)
        simp only [mo_P_walk_71, mm_wp, mm_ldi, mm_lda, mm_ldl, mm_sti, mm_sta, mm_stl, mm_inc, mm_2i, mm_mm, mm_2l, mm_lcmp, mm_i2l, mm_l2i, mm_cast8, mm_if1, mm_if2, mm_cmp, mm_swi, mm_sw, mm_pop1, mm_dup, mm_dup2, mm_geti, mm_geta, mm_puti, mm_iald, mm_bald, mm_aald, mm_iast, mm_bast, mm_alen, mm_acpy, mm_call, mm_callv, mm_recv, mm_pop, mm_find, mm_push, mm_cats, mm_cat, mm_reti, mm_retz, mm_retl, mm_reta, mm_retv, mm_set1, mm_set2, mm_kill, List.getElem?_cons_zero, List.getElem?_cons_succ, Int.reduceToNat, ↓reduceIte, Nat.reduceEqDiff, Nat.reduceDiv, Nat.reduceAdd, Nat.reduceLeDiff, Nat.zero_le, true_and, and_true, true_or, or_true, mm_b0, mm_b1, mm_lc_lt, mm_lc_le, mm_lc_gt, mm_lc_ge, mm_lc_eq, Int.not_lt, Int.not_le, Decidable.not_not, Int.sub_neg, c_0, c_1, c_2, l_2, c_3, c_4, l_4, c_5, l_5, c_6, l_6, c_7, l_7, c_8, c_9, l_9, c_10, l_10, c_11, l_11, c_12, l_12, c_13, c_14, l_14, c_15, l_15, c_16, l_16, c_17, l_17, c_18, c_19, l_19, c_20, l_20, c_21, l_21, c_22, l_22, c_23, c_24, l_24, c_25, l_25, c_26, c_27, c_28, l_28, c_29, c_30, l_30, c_31, c_32, l_32, c_33, l_33, c_34, l_34, c_35, l_35, c_36, l_36, c_37, l_37, c_38, l_38, c_39, l_39, c_40, c_41, l_41, c_42, c_43, c_44, l_44, c_45, c_46, l_46, c_47, c_48, l_48, c_49, l_49, c_50, l_50, c_51, l_51, c_52, l_52, c_53, l_53, c_54, l_54, c_55, l_55, c_56, l_56, c_57, l_57, c_58, l_58, c_59, l_59, c_60, l_60, c_61, l_61, c_62, c_63, l_63, c_64, l_64, c_65, l_65, c_66, l_66, c_67, l_67, c_68, l_68, c_69, l_69, c_70, l_70, c_71, l_71, c_72, l_72, c_73, l_73, c_74, l_74, c_75, l_75, c_76, l_76, e27, e28, t_Srt_question, t_Q_aim, t_Win_aim, t_Win_make, t_Win_distance]
        rw [if_pos ⟨by omega, by omega⟩, ee 18 (by decide), ee 20 (by decide), ee 21 (by decide), ee 22 (by decide)]
        have hp' : (M0 28 i).tmod 32 = plP M0 i := rfl
        rw [hp', hFv, hLv, hTv]
        refine ⟨fun z => by omega, fun _ => ⟨isSrt27, by omega, isQ18, isW45, by omega, isW45, wb, by omega, fun M2 f2 c0 c1 c2 c3 c4 c5 => ?_⟩⟩
        have g45 : M2 45 = M1 45 := f2 45 (by decide)
        rw [g45]
        refine ⟨by omega, isW45, by omega, by omega, by omega, fun M3 p0 p1 p2 p3 p4 p5 hp hm => ?_⟩
        obtain ⟨hgo, hsum⟩ := wGo_of (w := 45) wb (f := F i) (la := L i) (ti := T i) (by omega) (by omega) f2 c0 c1 c2 c3 c4 c5 hp hm
        rw [hsum]
        clear hsum hp hm c0 c1 c2 c3 c4 c5
        obtain ⟨z0, z1, z2, z3, z4, z5, z6, ⟨y0, y1, y2, y3, y4, y5⟩, zb⟩ := hgo
        have hki := wk_in (l := M1 45 1) (r := M1 45 2) (t := M1 45 3) (f := F i) (la := L i) (ti := T i) (m := n - made) (by omega) ⟨w1, w2⟩ ⟨w3, w4⟩ ⟨w5, w6⟩ (by omega) (by omega) (by omega)
        have hA := wA_le (M1 45 1) (M1 45 2) (M1 45 3) (F i) (L i) (T i)
        simp only [Nat.reduceAdd] at z0 y0 y1 y2 y3 y4 y5 zb
        refine ⟨by omega, isW45, fun j j0 j1 => ?_, ?_, ?_⟩
        · have hj : j = 0 ∨ j = 1 ∨ j = 2 ∨ j = 3 ∨ j = 4 ∨ j = 5 := by omega
          rcases hj with rfl | rfl | rfl | rfl | rfl | rfl <;> omega
        · intro hdone
          have hA5 : wA5 (M1 45 1) (M1 45 2) (M1 45 3) (F i) (L i) (T i) ≤ n - made := by omega
          obtain ⟨v1, v2, v3, v4, v5⟩ := wk_full hA5
          rw [v1] at z1
          rw [v2] at z2
          rw [v3] at z3
          rw [v4] at z4
          rw [v5] at z5
          have hstep := he
          simp only [wlkF] at hstep
          rw [if_pos hA5] at hstep
          refine hJ 133 _ _ _ (show mm_wp _ _ _ mo_P_walk_133 _ _ _ from ?_)
          simp only [mo_P_walk_133, mm_wp, mm_ldi, mm_lda, mm_ldl, mm_sti, mm_sta, mm_stl, mm_inc, mm_2i, mm_mm, mm_2l, mm_lcmp, mm_i2l, mm_l2i, mm_cast8, mm_if1, mm_if2, mm_cmp, mm_swi, mm_sw, mm_pop1, mm_dup, mm_dup2, mm_geti, mm_geta, mm_puti, mm_iald, mm_bald, mm_aald, mm_iast, mm_bast, mm_alen, mm_acpy, mm_call, mm_callv, mm_recv, mm_pop, mm_find, mm_push, mm_cats, mm_cat, mm_reti, mm_retz, mm_retl, mm_reta, mm_retv, mm_set1, mm_set2, mm_kill, List.getElem?_cons_zero, List.getElem?_cons_succ, Int.reduceToNat, ↓reduceIte, Nat.reduceEqDiff, Nat.reduceDiv, Nat.reduceAdd, Nat.reduceLeDiff, Nat.zero_le, true_and, and_true, true_or, or_true, mm_b0, mm_b1, mm_lc_lt, mm_lc_le, mm_lc_gt, mm_lc_ge, mm_lc_eq, Int.not_lt, Int.not_le, Decidable.not_not, Int.sub_neg, c_0, c_1, c_2, l_2, c_3, c_4, l_4, c_5, l_5, c_6, l_6, c_7, l_7, c_8, c_9, l_9, c_10, l_10, c_11, l_11, c_12, l_12, c_13, c_14, l_14, c_15, l_15, c_16, l_16, c_17, l_17, c_18, c_19, l_19, c_20, l_20, c_21, l_21, c_22, l_22, c_23, c_24, l_24, c_25, l_25, c_26, c_27, c_28, l_28, c_29, c_30, l_30, c_31, c_32, l_32, c_33, l_33, c_34, l_34, c_35, l_35, c_36, l_36, c_37, l_37, c_38, l_38, c_39, l_39, c_40, c_41, l_41, c_42, c_43, c_44, l_44, c_45, c_46, l_46, c_47, c_48, l_48, c_49, l_49, c_50, l_50, c_51, l_51, c_52, l_52, c_53, l_53, c_54, l_54, c_55, l_55, c_56, l_56, c_57, l_57, c_58, l_58, c_59, l_59, c_60, l_60, c_61, l_61, c_62, c_63, l_63, c_64, l_64, c_65, l_65, c_66, l_66, c_67, l_67, c_68, l_68, c_69, l_69, c_70, l_70, c_71, l_71, c_72, l_72, c_73, l_73, c_74, l_74, c_75, l_75, c_76, l_76]
          refine ⟨by omega, by omega, ih (i + 1) _ _ (by omega) (by omega) (by omega) (by omega) (fun o' d1 d2 => by rw [mm_up_o _ _ d1, z0 o' d1 d2, f1 o' d1 d2]) ?_ ?_ ?_ ?_ ?_ (mm_up_s _ _ _ _) ?_⟩
          · unfold wB; rw [mm_up_i _ (by decide), mm_up_i _ (by decide), mm_up_i _ (by decide)]; omega
          · rw [mm_up_i _ (by decide)]; omega
          · rw [mm_up_i _ (by decide)]; omega
          · rw [mm_up_i _ (by decide)]; omega
          · rw [mm_up_i _ (by decide)]; omega
          · rw [mm_up_i _ (by decide), mm_up_i _ (by decide), mm_up_i _ (by decide), mm_up_i _ (by decide), mm_up_i _ (by decide), z1, z2, z3, z4, z5, Int.min_eq_right hA5, show n - (made + wA5 (M1 45 1) (M1 45 2) (M1 45 3) (F i) (L i) (T i)) = n - made - wA5 (M1 45 1) (M1 45 2) (M1 45 3) (F i) (L i) (T i) by omega]
            exact hstep
        · intro hnot
          have hA5 : ¬ wA5 (M1 45 1) (M1 45 2) (M1 45 3) (F i) (L i) (T i) ≤ n - made := by omega
          have hstep := he
          simp only [wlkF] at hstep
          rw [if_neg hA5] at hstep
          refine hJ 149 _ _ _ (show mm_wp _ _ _ mo_P_walk_149 _ _ _ from ?_)
          simp only [mo_P_walk_149, mm_wp, mm_ldi, mm_lda, mm_ldl, mm_sti, mm_sta, mm_stl, mm_inc, mm_2i, mm_mm, mm_2l, mm_lcmp, mm_i2l, mm_l2i, mm_cast8, mm_if1, mm_if2, mm_cmp, mm_swi, mm_sw, mm_pop1, mm_dup, mm_dup2, mm_geti, mm_geta, mm_puti, mm_iald, mm_bald, mm_aald, mm_iast, mm_bast, mm_alen, mm_acpy, mm_call, mm_callv, mm_recv, mm_pop, mm_find, mm_push, mm_cats, mm_cat, mm_reti, mm_retz, mm_retl, mm_reta, mm_retv, mm_set1, mm_set2, mm_kill, List.getElem?_cons_zero, List.getElem?_cons_succ, Int.reduceToNat, ↓reduceIte, Nat.reduceEqDiff, Nat.reduceDiv, Nat.reduceAdd, Nat.reduceLeDiff, Nat.zero_le, true_and, and_true, true_or, or_true, mm_b0, mm_b1, mm_lc_lt, mm_lc_le, mm_lc_gt, mm_lc_ge, mm_lc_eq, Int.not_lt, Int.not_le, Decidable.not_not, Int.sub_neg]
          have := hY M3 _ _ _ _ _ _ _ (fun o' c => by rw [z0 o' (by omega) (by omega), f1 o' (by omega) (by omega), f0 o' (by omega) (by omega)]) hstep z1 z2 z3 z4 z5 (by rw [z6, a6])
          rw [show made + min (n - made) (wA5 (M1 45 1) (M1 45 2) (M1 45 3) (F i) (L i) (T i)) = n - 0 by omega]
          exact this
    have hm0 : 0 ≤ min (M 45 6) (M0 27 1) ∧ min (M 45 6) (M0 27 1) ≤ M0 27 1 ∧ min (M 45 6) (M0 27 1) ≤ 24 := by omega
    generalize hmm : min (M 45 6) (M0 27 1) = c0 at *
    rw [mm_up_s]
    refine hl (M0 27 1 - c0).toNat c0 0 _ (by omega) hm0.1 (by omega) (by omega) (fun o' d1 d2 => mm_up_o _ _ d1) ?_ ?_ ?_ ?_ ?_ (mm_up_s _ _ _ _) ?_
    · unfold wB; rw [mm_up_i _ (by decide), mm_up_i _ (by decide), mm_up_i _ (by decide), e45]; omega
    · rw [mm_up_i _ (by decide), e45]; omega
    · rw [mm_up_i _ (by decide), e45]; omega
    · rw [mm_up_i _ (by decide), e45]; omega
    · rw [mm_up_i _ (by decide), e45]; omega
    · rw [mm_up_i _ (by decide), mm_up_i _ (by decide), mm_up_i _ (by decide), mm_up_i _ (by decide), mm_up_i _ (by decide), e45, Int.sub_zero]
  refine hJ 0 _ _ _ (show mm_wp _ _ _ mo_P_walk_0 _ _ _ from ?_)
  simp only [mo_P_walk_0, mm_wp, mm_ldi, mm_lda, mm_ldl, mm_sti, mm_sta, mm_stl, mm_inc, mm_2i, mm_mm, mm_2l, mm_lcmp, mm_i2l, mm_l2i, mm_cast8, mm_if1, mm_if2, mm_cmp, mm_swi, mm_sw, mm_pop1, mm_dup, mm_dup2, mm_geti, mm_geta, mm_puti, mm_iald, mm_bald, mm_aald, mm_iast, mm_bast, mm_alen, mm_acpy, mm_call, mm_callv, mm_recv, mm_pop, mm_find, mm_push, mm_cats, mm_cat, mm_reti, mm_retz, mm_retl, mm_reta, mm_retv, mm_set1, mm_set2, mm_kill, List.getElem?_cons_zero, List.getElem?_cons_succ, Int.reduceToNat, ↓reduceIte, Nat.reduceEqDiff, Nat.reduceDiv, Nat.reduceAdd, Nat.reduceLeDiff, Nat.zero_le, true_and, and_true, true_or, or_true, mm_b0, mm_b1, mm_lc_lt, mm_lc_le, mm_lc_gt, mm_lc_ge, mm_lc_eq, Int.not_lt, Int.not_le, Decidable.not_not, Int.sub_neg]
  exact ⟨fun z => h12 (by omega), fun z => ⟨fun z2 => h14 (by omega), fun z2 => h12 (by omega)⟩⟩
