/-! going along the plan: objects by their numbers (plan 26, its window 29, questions 18) -/
def dA (a b : Int) : Int := max 0 (a - b) + max 0 (b - a)
def pv (f P : Int → Int) (d i : Int) : Int := if i = 0 then d else f (P (i - 1))
def stE (f l P : Int → Int) (i : Int) : Int := dA (pv f P 0 i) (f (P i)) + dA (pv l P (-1) i) (l (P i))
def stU (t P : Int → Int) (i : Int) : Int := dA (pv t P 0 i) (t (P i))
def mxN (g : Int → Int) : Nat → Int
  | 0 => 0
  | n + 1 => max (mxN g n) (g n)
theorem pv_s (f P : Int → Int) (d : Int) (n : Nat) : pv f P d ((n + 1 : Nat) : Int) = f (P n) := by
  unfold pv
  rw [if_neg (by omega), show ((n + 1 : Nat) : Int) - 1 = n by omega]
theorem wP_all {a0 a1 a2 a3 a4 a5 lim p0 p1 p2 p3 p4 p5 : Int} (h : wParts a0 a1 a2 a3 a4 a5 lim p0 p1 p2 p3 p4 p5) (hl : a0 + a1 + a2 + a3 + a4 + a5 ≤ lim) (h0 : 0 ≤ a0) (h1 : 0 ≤ a1) (h2 : 0 ≤ a2) (h3 : 0 ≤ a3) (h4 : 0 ≤ a4) (h5 : 0 ≤ a5) : p0 = a0 ∧ p1 = a1 ∧ p2 = a2 ∧ p3 = a3 ∧ p4 = a4 ∧ p5 = a5 := by
  obtain ⟨g0, g1, g2, g3, g4, g5⟩ := h
  have e0 : p0 = a0 := by omega
  subst e0
  have e1 : p1 = a1 := by clear g0 g2 g3 g4 g5; omega
  subst e1
  have e2 : p2 = a2 := by clear g0 g1 g3 g4 g5; omega
  subst e2
  have e3 : p3 = a3 := by clear g0 g1 g2 g4 g5; omega
  subst e3
  have e4 : p4 = a4 := by clear g0 g1 g2 g3 g5; omega
  subst e4
  have e5 : p5 = a5 := by clear g0 g1 g2 g3 g4; omega
  exact ⟨rfl, rfl, rfl, rfl, rfl, e5⟩
theorem isW29 : isW 29 := ⟨c_29, c_30, l_30⟩
theorem isW40 : isW 40 := ⟨c_40, c_41, l_41⟩
theorem isW45 : isW 45 := ⟨c_45, c_46, l_46⟩
theorem isQ18 : isQ 18 := ⟨c_18, c_19, c_20, c_21, c_22, l_19, l_20, l_21, l_22⟩
theorem isQ8 : isQ 8 := ⟨c_8, c_9, c_10, c_11, c_12, l_9, l_10, l_11, l_12⟩
theorem isSrt27 : isSrt 27 := ⟨c_27, c_28, l_28⟩
theorem isSrt43 : isSrt 43 := ⟨c_43, c_44, l_44⟩
theorem isPl26 : isPl 26 := ⟨c_26, isSrt27, isW29⟩
theorem isRow13 : isRow 13 := ⟨c_13, c_14, c_15, c_16, c_17, l_14, l_15, l_16, l_17⟩
theorem isRow3 : isRow 3 := ⟨c_3, c_4, c_5, c_6, c_7, l_4, l_5, l_6, l_7⟩
/-- the plan laid at 27, 28: n questions, all of 18's -/
def plB (M : mmM) : Prop := 0 ≤ M 27 1 ∧ M 27 1 ≤ 25 ∧ ∀ i, 0 ≤ i → i < M 27 1 → 0 ≤ (M 28 i).tmod 32 ∧ (M 28 i).tmod 32 < M 18 4
def plP (M : mmM) (i : Int) : Int := (M 28 i).tmod 32
def t_Plan_follow : mmT := fun as M Q => match as with
  | [.inr (.inr o), .inr (.inr qo)] => o = 26 ∧ qo = 18 ∧ qB M 18 ∧ plB M ∧ ∀ M', (∀ o', o' ≠ 26 → o' ≠ 29 → o' ≠ 30 → M' o' = M o') → M' 29 4 = sN (stE (M 20) (M 21) (plP M)) (M 27 1).toNat → M' 29 5 = sN (stU (M 22) (plP M)) (M 27 1).toNat → M' 26 2 = mxN (fun i => stE (M 20) (M 21) (plP M) i + stU (M 22) (plP M) i) (M 27 1).toNat → Q none M'
  | _ => False
set_option maxHeartbeats 4000000 in
set_option maxRecDepth 100000 in
theorem p_Plan_follow : ∀ as M Q, (∀ v ∈ as, mm_vin v) → mm_mem M → t_Plan_follow as M Q → (mm_ent as).length ≤ 3 ∧ mm_ok mb_Plan_follow [(901, t_Win_begin), (503, t_Srt_question), (212, t_Q_aim), (905, t_Win_distance), (907, t_Win_make)] (mm_entry 3 as) M Q := by
  intro as M Q hin hM h
  unfold t_Plan_follow at h
  split at h
  rotate_left
  · exact h.elim
  rename_i o qo
  refine ⟨by simp [mm_ent], (show mm_ok mb_Plan_follow [(901, t_Win_begin), (503, t_Srt_question), (212, t_Q_aim), (905, t_Win_distance), (907, t_Win_make)] [some (vr o), some (vr qo), none] M Q from ?_)⟩
  intro J hJ
  obtain ⟨rfl, rfl, hB, hP, h⟩ := h
  obtain ⟨n0, n1, hPq⟩ := hP
  have hB2 : ∀ q, 0 ≤ q → q < M 18 4 → 0 ≤ M 20 q ∧ M 20 q < 60 ∧ 0 ≤ M 21 q ∧ M 21 q < 60 ∧ 0 ≤ M 22 q ∧ M 22 q ≤ 32 := hB.2.2
  have hB1 := hB.2.1
  generalize hEf : stE (M 20) (M 21) (plP M) = E at h
  generalize hUf : stU (M 22) (plP M) = U at h
  have hEb : ∀ k : Nat, (k : Int) < M 27 1 → 0 ≤ E k ∧ E k ≤ 200 ∧ 0 ≤ U k ∧ U k ≤ 100 := by
    intro k hk
    have a := hB2 _ (hPq k (by omega) hk).1 (hPq k (by omega) hk).2
    rw [← hEf, ← hUf]
    unfold stE stU pv plP dA
    by_cases hk0 : (k : Int) = 0
    · simp only [hk0, ↓reduceIte] at a ⊢; omega
    · have b := hB2 _ (hPq ((k : Int) - 1) (by omega) (by omega)).1 (hPq ((k : Int) - 1) (by omega) (by omega)).2
      simp only [hk0, ↓reduceIte]; omega
  have hsum : ∀ k : Nat, (k : Int) ≤ M 27 1 → 0 ≤ sN E k ∧ sN E k ≤ 200 * k ∧ 0 ≤ sN U k ∧ sN U k ≤ 100 * k ∧ 0 ≤ mxN (fun i => E i + U i) k ∧ mxN (fun i => E i + U i) k ≤ 300 := by
    intro k
    induction k with
    | zero => intro _; simp [sN, mxN]
    | succ k ih =>
      intro hk
      have i1 := ih (by omega)
      have i2 := hEb k (by omega)
      simp only [sN, mxN]
      omega
  have hl : ∀ (d k : Nat) (M1 : mmM), (k : Int) + d = M 27 1 → (∀ o', o' ≠ 26 → o' ≠ 29 → o' ≠ 30 → M1 o' = M o') → M1 29 1 = pv (M 20) (plP M) 0 k → M1 29 2 = pv (M 21) (plP M) (-1) k → M1 29 3 = pv (M 22) (plP M) 0 k → M1 29 4 = sN E k → M1 29 5 = sN U k → M1 26 2 = mxN (fun i => E i + U i) k → J 14 [some (vr 26), some (vr 18), some (vi k)] [] M1 := by
    intro d
    induction d with
    | zero =>
      intro k M1 hk a w1 w2 w3 w4 w5 w6
      have e27 : M1 27 = M 27 := a 27 (by decide) (by decide) (by decide)
      have ek : k = (M 27 1).toNat := by omega
      have h72 : J 72 [some (vr 26), some (vr 18), some (vi k)] [] M1 := by
        refine hJ 72 _ _ _ (show mm_wp _ _ _ mo_Plan_follow_72 _ _ _ from ?_)
        simp only [mo_Plan_follow_72, mm_wp, mm_ldi, mm_lda, mm_ldl, mm_sti, mm_sta, mm_stl, mm_inc, mm_2i, mm_mm, mm_2l, mm_lcmp, mm_i2l, mm_l2i, mm_cast8, mm_if1, mm_if2, mm_cmp, mm_swi, mm_sw, mm_pop1, mm_dup, mm_dup2, mm_geti, mm_geta, mm_puti, mm_iald, mm_bald, mm_aald, mm_iast, mm_bast, mm_alen, mm_acpy, mm_call, mm_callv, mm_recv, mm_pop, mm_find, mm_push, mm_cats, mm_cat, mm_reti, mm_retz, mm_retl, mm_reta, mm_retv, mm_set1, mm_set2, mm_kill, List.getElem?_cons_zero, List.getElem?_cons_succ, Int.reduceToNat, ↓reduceIte, Nat.reduceEqDiff, Nat.reduceDiv, Nat.reduceAdd, Nat.reduceLeDiff, Nat.zero_le, true_and, and_true, true_or, or_true, mm_b0, mm_b1, mm_lc_lt, mm_lc_le, mm_lc_gt, mm_lc_ge, mm_lc_eq, Int.not_lt, Int.not_le, Decidable.not_not, Int.sub_neg]
        exact h M1 a (by rw [w4, ek]) (by rw [w5, ek]) (by rw [w6, ek])
      refine hJ 14 _ _ _ (show mm_wp _ _ _ mo_Plan_follow_14 _ _ _ from ?_)
      simp only [mo_Plan_follow_14, mm_wp, mm_ldi, mm_lda, mm_ldl, mm_sti, mm_sta, mm_stl, mm_inc, mm_2i, mm_mm, mm_2l, mm_lcmp, mm_i2l, mm_l2i, mm_cast8, mm_if1, mm_if2, mm_cmp, mm_swi, mm_sw, mm_pop1, mm_dup, mm_dup2, mm_geti, mm_geta, mm_puti, mm_iald, mm_bald, mm_aald, mm_iast, mm_bast, mm_alen, mm_acpy, mm_call, mm_callv, mm_recv, mm_pop, mm_find, mm_push, mm_cats, mm_cat, mm_reti, mm_retz, mm_retl, mm_reta, mm_retv, mm_set1, mm_set2, mm_kill, List.getElem?_cons_zero, List.getElem?_cons_succ, Int.reduceToNat, ↓reduceIte, Nat.reduceEqDiff, Nat.reduceDiv, Nat.reduceAdd, Nat.reduceLeDiff, Nat.zero_le, true_and, and_true, true_or, or_true, mm_b0, mm_b1, mm_lc_lt, mm_lc_le, mm_lc_gt, mm_lc_ge, mm_lc_eq, Int.not_lt, Int.not_le, Decidable.not_not, Int.sub_neg, c_0, c_1, c_2, l_2, c_3, c_4, l_4, c_5, l_5, c_6, l_6, c_7, l_7, c_8, c_9, l_9, c_10, l_10, c_11, l_11, c_12, l_12, c_13, c_14, l_14, c_15, l_15, c_16, l_16, c_17, l_17, c_18, c_19, l_19, c_20, l_20, c_21, l_21, c_22, l_22, c_23, c_24, l_24, c_25, l_25, c_26, c_27, c_28, l_28, c_29, c_30, l_30, c_31, c_32, l_32, c_33, l_33, c_34, l_34, c_35, l_35, c_36, l_36, c_37, l_37, c_38, l_38, c_39, l_39, c_40, c_41, l_41, c_42, c_43, c_44, l_44, c_45, c_46, l_46, c_47, c_48, l_48, c_49, l_49, c_50, l_50, c_51, l_51, c_52, l_52, c_53, l_53, c_54, l_54, c_55, l_55, c_56, l_56, c_57, l_57, c_58, l_58, c_59, l_59, c_60, l_60, c_61, l_61, c_62, c_63, l_63, c_64, l_64, c_65, l_65, c_66, l_66, c_67, l_67, c_68, l_68, c_69, l_69, c_70, l_70, c_71, l_71, c_72, l_72, c_73, l_73, c_74, l_74, c_75, l_75, c_76, l_76, e27]
      exact ⟨fun _ => h72, fun z => by omega⟩
    | succ d ih =>
      intro k M1 hk a w1 w2 w3 w4 w5 w6
      have e27 : M1 27 = M 27 := a 27 (by decide) (by decide) (by decide)
      have e28 : M1 28 = M 28 := a 28 (by decide) (by decide) (by decide)
      have e18 : M1 18 = M 18 := a 18 (by decide) (by decide) (by decide)
      have e20 : M1 20 = M 20 := a 20 (by decide) (by decide) (by decide)
      have e21 : M1 21 = M 21 := a 21 (by decide) (by decide) (by decide)
      have e22 : M1 22 = M 22 := a 22 (by decide) (by decide) (by decide)
      have hpk := hPq k (by omega) (by omega)
      have hqk := hB2 _ hpk.1 hpk.2
      have hEk := hEb k (by omega)
      have hS := hsum k (by omega)
      have hpv : 0 ≤ M1 29 1 ∧ M1 29 1 ≤ 60 ∧ -1 ≤ M1 29 2 ∧ M1 29 2 ≤ 60 ∧ 0 ≤ M1 29 3 ∧ M1 29 3 ≤ 32 := by
        rw [w1, w2, w3]
        unfold pv plP
        by_cases hk0 : (k : Int) = 0
        · simp only [hk0, ↓reduceIte]; omega
        · have b := hB2 _ (hPq ((k : Int) - 1) (by omega) (by omega)).1 (hPq ((k : Int) - 1) (by omega) (by omega)).2
          simp only [hk0, ↓reduceIte]; omega
      have eE : E k = dA (M1 29 1) (M 20 (plP M k)) + dA (M1 29 2) (M 21 (plP M k)) := by rw [w1, w2, ← hEf]; rfl
      have eU : U k = dA (M1 29 3) (M 22 (plP M k)) := by rw [w3, ← hUf]; rfl
      unfold dA plP at eE eU
      refine hJ 14 _ _ _ (show mm_wp _ _ _ mo_Plan_follow_14 _ _ _ from ?_)
      simp only [mo_Plan_follow_14, mm_wp, mm_ldi, mm_lda, mm_ldl, mm_sti, mm_sta, mm_stl, mm_inc, mm_2i, mm_mm, mm_2l, mm_lcmp, mm_i2l, mm_l2i, mm_cast8, mm_if1, mm_if2, mm_cmp, mm_swi, mm_sw, mm_pop1, mm_dup, mm_dup2, mm_geti, mm_geta, mm_puti, mm_iald, mm_bald, mm_aald, mm_iast, mm_bast, mm_alen, mm_acpy, mm_call, mm_callv, mm_recv, mm_pop, mm_find, mm_push, mm_cats, mm_cat, mm_reti, mm_retz, mm_retl, mm_reta, mm_retv, mm_set1, mm_set2, mm_kill, List.getElem?_cons_zero, List.getElem?_cons_succ, Int.reduceToNat, ↓reduceIte, Nat.reduceEqDiff, Nat.reduceDiv, Nat.reduceAdd, Nat.reduceLeDiff, Nat.zero_le, true_and, and_true, true_or, or_true, mm_b0, mm_b1, mm_lc_lt, mm_lc_le, mm_lc_gt, mm_lc_ge, mm_lc_eq, Int.not_lt, Int.not_le, Decidable.not_not, Int.sub_neg, c_0, c_1, c_2, l_2, c_3, c_4, l_4, c_5, l_5, c_6, l_6, c_7, l_7, c_8, c_9, l_9, c_10, l_10, c_11, l_11, c_12, l_12, c_13, c_14, l_14, c_15, l_15, c_16, l_16, c_17, l_17, c_18, c_19, l_19, c_20, l_20, c_21, l_21, c_22, l_22, c_23, c_24, l_24, c_25, l_25, c_26, c_27, c_28, l_28, c_29, c_30, l_30, c_31, c_32, l_32, c_33, l_33, c_34, l_34, c_35, l_35, c_36, l_36, c_37, l_37, c_38, l_38, c_39, l_39, c_40, c_41, l_41, c_42, c_43, c_44, l_44, c_45, c_46, l_46, c_47, c_48, l_48, c_49, l_49, c_50, l_50, c_51, l_51, c_52, l_52, c_53, l_53, c_54, l_54, c_55, l_55, c_56, l_56, c_57, l_57, c_58, l_58, c_59, l_59, c_60, l_60, c_61, l_61, c_62, c_63, l_63, c_64, l_64, c_65, l_65, c_66, l_66, c_67, l_67, c_68, l_68, c_69, l_69, c_70, l_70, c_71, l_71, c_72, l_72, c_73, l_73, c_74, l_74, c_75, l_75, c_76, l_76, e27, e28, t_Srt_question, t_Q_aim, t_Win_aim, t_Win_distance, t_Win_make]
      rw [if_pos ⟨by omega, by omega⟩, e18, e20, e21, e22]
      refine ⟨fun z => by omega, fun _ => ⟨isSrt27, by omega, isQ18, isW29, by omega, isW29, hpv, by omega, fun M2 f2 a0 a1 a2 a3 a4 a5 => ?_⟩⟩
      have g29 : M2 29 = M1 29 := f2 29 (by decide)
      have g26 : M2 26 = M1 26 := f2 26 (by decide)
      refine ⟨isW29, fun j j0 j1 => ?_, isW29, ?_⟩
      · have hj : j = 0 ∨ j = 1 ∨ j = 2 ∨ j = 3 ∨ j = 4 ∨ j = 5 := by omega
        rcases hj with rfl | rfl | rfl | rfl | rfl | rfl <;> omega
      rw [g29, g26]
      refine ⟨by omega, by omega, by omega, fun M3 p0 p1 p2 p3 p4 p5 hp hm => ?_⟩
      obtain ⟨r0, r1, r2, r3, r4, r5⟩ := wP_all hp (Int.le_refl _) (by omega) (by omega) (by omega) (by omega) (by omega) (by omega)
      obtain ⟨f3, m1, m2, m3, m4, m5, m6, -⟩ := hm
      rw [g29] at m1 m2 m3 m4 m5 m6
      refine ⟨by omega, ih (k + 1) _ (by omega) (fun o' c1 c2 c3 => by rw [mm_up_o _ _ c1, f3 o' c2 c3, f2 o' c3, a o' c1 c2 c3]) ?_ ?_ ?_ ?_ ?_ ?_⟩
      · rw [mm_up_o _ _ (by decide), pv_s, m1]; unfold plP; omega
      · rw [mm_up_o _ _ (by decide), pv_s, m2]; unfold plP; omega
      · rw [mm_up_o _ _ (by decide), pv_s, m3]; unfold plP; omega
      · rw [mm_up_o _ _ (by decide), m4]; simp only [sN]; omega
      · rw [mm_up_o _ _ (by decide), m5]; simp only [sN]; omega
      · rw [mm_up_s, w6]; simp only [mxN]; omega
  refine hJ 0 _ _ _ (show mm_wp _ _ _ mo_Plan_follow_0 _ _ _ from ?_)
  simp only [mo_Plan_follow_0, mm_wp, mm_ldi, mm_lda, mm_ldl, mm_sti, mm_sta, mm_stl, mm_inc, mm_2i, mm_mm, mm_2l, mm_lcmp, mm_i2l, mm_l2i, mm_cast8, mm_if1, mm_if2, mm_cmp, mm_swi, mm_sw, mm_pop1, mm_dup, mm_dup2, mm_geti, mm_geta, mm_puti, mm_iald, mm_bald, mm_aald, mm_iast, mm_bast, mm_alen, mm_acpy, mm_call, mm_callv, mm_recv, mm_pop, mm_find, mm_push, mm_cats, mm_cat, mm_reti, mm_retz, mm_retl, mm_reta, mm_retv, mm_set1, mm_set2, mm_kill, List.getElem?_cons_zero, List.getElem?_cons_succ, Int.reduceToNat, ↓reduceIte, Nat.reduceEqDiff, Nat.reduceDiv, Nat.reduceAdd, Nat.reduceLeDiff, Nat.zero_le, true_and, and_true, true_or, or_true, mm_b0, mm_b1, mm_lc_lt, mm_lc_le, mm_lc_gt, mm_lc_ge, mm_lc_eq, Int.not_lt, Int.not_le, Decidable.not_not, Int.sub_neg, c_0, c_1, c_2, l_2, c_3, c_4, l_4, c_5, l_5, c_6, l_6, c_7, l_7, c_8, c_9, l_9, c_10, l_10, c_11, l_11, c_12, l_12, c_13, c_14, l_14, c_15, l_15, c_16, l_16, c_17, l_17, c_18, c_19, l_19, c_20, l_20, c_21, l_21, c_22, l_22, c_23, c_24, l_24, c_25, l_25, c_26, c_27, c_28, l_28, c_29, c_30, l_30, c_31, c_32, l_32, c_33, l_33, c_34, l_34, c_35, l_35, c_36, l_36, c_37, l_37, c_38, l_38, c_39, l_39, c_40, c_41, l_41, c_42, c_43, c_44, l_44, c_45, c_46, l_46, c_47, c_48, l_48, c_49, l_49, c_50, l_50, c_51, l_51, c_52, l_52, c_53, l_53, c_54, l_54, c_55, l_55, c_56, l_56, c_57, l_57, c_58, l_58, c_59, l_59, c_60, l_60, c_61, l_61, c_62, c_63, l_63, c_64, l_64, c_65, l_65, c_66, l_66, c_67, l_67, c_68, l_68, c_69, l_69, c_70, l_70, c_71, l_71, c_72, l_72, c_73, l_73, c_74, l_74, c_75, l_75, c_76, l_76, t_Win_begin]
  refine ⟨isW29, fun M1 f1 b1 b2 b3 b4 b5 b6 => ?_⟩
  refine hl (M 27 1).toNat 0 _ (by omega) (fun o' c1 c2 _ => by rw [mm_up_o _ _ c1, f1 o' c2]) ?_ ?_ ?_ ?_ ?_ ?_
  · rw [mm_up_o _ _ (by decide), b1]; rfl
  · rw [mm_up_o _ _ (by decide), b2]; rfl
  · rw [mm_up_o _ _ (by decide), b3]; rfl
  · rw [mm_up_o _ _ (by decide), b4]; rfl
  · rw [mm_up_o _ _ (by decide), b5]; rfl
  · rw [mm_up_s]; rfl
