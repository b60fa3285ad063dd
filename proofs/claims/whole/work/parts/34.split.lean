/-! the plan parted among workers -/
/-- what a fresh window costs to the i-th of the plan; along the whole plan up to it -/
def anW (f l t P : Int → Int) (w i : Int) : Int := dA 0 (f (P i)) + dA (-1) (l (P i)) + w * dA 0 (t (P i))
theorem wgo {o : Nat} {M : mmM} {f l t : Int} {K : mmM → Prop} (hw : isW o) (hB : wB M o) (hb : 0 ≤ f ∧ f ≤ 60 ∧ 0 ≤ l ∧ l ≤ 60 ∧ 0 ≤ t ∧ t ≤ 32) (h4 : 0 ≤ M o 4 ∧ M o 4 ≤ 10000000 ∧ 0 ≤ M o 5 ∧ M o 5 ≤ 10000000) (h : ∀ M', (∀ o', o' ≠ o → o' ≠ o + 1 → M' o' = M o') → M' o 1 = f → M' o 2 = l → M' o 3 = t → M' o 4 = M o 4 + dA (M o 1) f + dA (M o 2) l → M' o 5 = M o 5 + dA (M o 3) t → M' o 6 = M o 6 → K M') : isW o ∧ wB M o ∧ (0 ≤ f ∧ f ≤ 60 ∧ 0 ≤ l ∧ l ≤ 60 ∧ 0 ≤ t ∧ t ≤ 32) ∧ ∀ M' : mmM, (∀ o', o' ≠ o + 1 → M' o' = M o') → M' (o + 1) 0 = max 0 (M o 1 - f) → M' (o + 1) 1 = max 0 (l - M o 2) → M' (o + 1) 2 = max 0 (f - M o 1) → M' (o + 1) 3 = max 0 (M o 2 - l) → M' (o + 1) 4 = max 0 (t - M o 3) → M' (o + 1) 5 = max 0 (M o 3 - t) → isW o ∧ (∀ k, 0 ≤ k → k < 6 → 0 ≤ M' (o + 1) k ∧ M' (o + 1) k ≤ 100) ∧ isW o ∧ 0 ≤ M' (o + 1) 0 + M' (o + 1) 1 + M' (o + 1) 2 + M' (o + 1) 3 + M' (o + 1) 4 + M' (o + 1) 5 ∧ (0 ≤ M' (o + 1) 0 ∧ M' (o + 1) 0 ≤ 61 ∧ 0 ≤ M' (o + 1) 1 ∧ M' (o + 1) 1 ≤ 61 ∧ 0 ≤ M' (o + 1) 2 ∧ M' (o + 1) 2 ≤ 61 ∧ 0 ≤ M' (o + 1) 3 ∧ M' (o + 1) 3 ≤ 61 ∧ 0 ≤ M' (o + 1) 4 ∧ M' (o + 1) 4 ≤ 61 ∧ 0 ≤ M' (o + 1) 5 ∧ M' (o + 1) 5 ≤ 61) ∧ (M' (o + 1) 0 ≤ M' o 1 ∧ M' o 1 + M' (o + 1) 2 ≤ 61 ∧ -1 ≤ M' o 2 - M' (o + 1) 3 ∧ M' o 2 + M' (o + 1) 1 ≤ 61 ∧ 0 ≤ M' o 3 - M' (o + 1) 5 ∧ M' o 3 + M' (o + 1) 4 ≤ 61 ∧ 0 ≤ M' o 4 ∧ M' o 4 ≤ 10000000 ∧ 0 ≤ M' o 5 ∧ M' o 5 ≤ 10000000) ∧ ∀ (M1 : mmM) (p0 p1 p2 p3 p4 p5 : Int), wParts (M' (o + 1) 0) (M' (o + 1) 1) (M' (o + 1) 2) (M' (o + 1) 3) (M' (o + 1) 4) (M' (o + 1) 5) (M' (o + 1) 0 + M' (o + 1) 1 + M' (o + 1) 2 + M' (o + 1) 3 + M' (o + 1) 4 + M' (o + 1) 5) p0 p1 p2 p3 p4 p5 → wMade o M' M1 p0 p1 p2 p3 p4 p5 → K M1 := by
  unfold wB at hB
  refine ⟨hw, hB, hb, fun M2 f2 a0 a1 a2 a3 a4 a5 => ?_⟩
  have g : M2 o = M o := f2 o (by omega)
  refine ⟨hw, fun j j0 j1 => ?_, hw, ?_⟩
  · have hj : j = 0 ∨ j = 1 ∨ j = 2 ∨ j = 3 ∨ j = 4 ∨ j = 5 := by omega
    rcases hj with rfl | rfl | rfl | rfl | rfl | rfl <;> omega
  rw [g]
  refine ⟨by omega, by omega, by omega, fun M3 p0 p1 p2 p3 p4 p5 hp hm => ?_⟩
  obtain ⟨r0, r1, r2, r3, r4, r5⟩ := wP_all hp (Int.le_refl _) (by omega) (by omega) (by omega) (by omega) (by omega) (by omega)
  obtain ⟨f3, m1, m2, m3, m4, m5, m6, -⟩ := hm
  rw [g] at m1 m2 m3 m4 m5 m6
  refine h M3 (fun o' c1 c2 => by rw [f3 o' c1 c2, f2 o' c2]) ?_ ?_ ?_ ?_ ?_ m6
  · omega
  · omega
  · omega
  · unfold dA; omega
  · unfold dA; omega
def t_Spl_measure : mmT := fun as M Q => match as with
  | [.inr (.inr o), .inr (.inr po), .inr (.inr qo), .inl w] => o = 31 ∧ po = 26 ∧ qo = 18 ∧ qB M 18 ∧ plB M ∧ M 27 1 ≤ 24 ∧ 0 ≤ w ∧ w ≤ 9 ∧ ∀ M', (∀ o', o' < 26 ∨ 41 < o' ∨ o' = 27 ∨ o' = 28 ∨ (33 < o' ∧ o' < 40) → M' o' = M o') → M' 31 4 = M 27 1 → (∀ i, 0 ≤ i → i < M 27 1 → M' 32 i = anW (M 20) (M 21) (M 22) (plP M) w i ∧ M' 33 i = coF (M 20) (M 21) (M 22) (plP M) (i + 1) w) → Q none M'
  | _ => False
set_option maxHeartbeats 4000000 in
set_option maxRecDepth 100000 in
theorem p_Spl_measure : ∀ as M Q, (∀ v ∈ as, mm_vin v) → mm_mem M → t_Spl_measure as M Q → (mm_ent as).length ≤ 6 ∧ mm_ok mb_Spl_measure [(901, t_Win_begin), (503, t_Srt_question), (212, t_Q_aim), (905, t_Win_distance), (907, t_Win_make), (903, t_Win_cost)] (mm_entry 6 as) M Q := by
  intro as M Q hin hM h
  unfold t_Spl_measure at h
  split at h
  rotate_left
  · exact h.elim
  rename_i o po qo w
  have hR_w : mm_R w := hin (vi w) (by simp)
  refine ⟨by simp [mm_ent], (show mm_ok mb_Spl_measure [(901, t_Win_begin), (503, t_Srt_question), (212, t_Q_aim), (905, t_Win_distance), (907, t_Win_make), (903, t_Win_cost)] [some (vr o), some (vr po), some (vr qo), some (vi w), none, none] M Q from ?_)⟩
  intro J hJ
  obtain ⟨rfl, rfl, rfl, hB, hP, hn24, w0, w9, h⟩ := h
  have hsb := st_b hB hP
  obtain ⟨n0, n1, hPq⟩ := hP
  have hB2 : ∀ q, 0 ≤ q → q < M 18 4 → 0 ≤ M 20 q ∧ M 20 q < 60 ∧ 0 ≤ M 21 q ∧ M 21 q < 60 ∧ 0 ≤ M 22 q ∧ M 22 q ≤ 32 := hB.2.2
  have hB1 := hB.2.1
  unfold coF at h
  have eEE : ∀ k : Nat, stE (M 20) (M 21) (plP M) k = dA (pv (M 20) (plP M) 0 k) (M 20 (plP M k)) + dA (pv (M 21) (plP M) (-1) k) (M 21 (plP M k)) := fun _ => rfl
  have eUU : ∀ k : Nat, stU (M 22) (plP M) k = dA (pv (M 22) (plP M) 0 k) (M 22 (plP M k)) := fun _ => rfl
  generalize hEf : stE (M 20) (M 21) (plP M) = E at h hsb eEE
  generalize hUf : stU (M 22) (plP M) = U at h hsb eUU
  have hl : ∀ (d k : Nat) (x5 : Option mmV) (M1 : mmM), (k : Int) + d = M 27 1 → (∀ o', o' < 26 ∨ 41 < o' ∨ o' = 27 ∨ o' = 28 ∨ (33 < o' ∧ o' < 40) → M1 o' = M o') → M1 31 4 = M 27 1 → M1 29 1 = pv (M 20) (plP M) 0 k → M1 29 2 = pv (M 21) (plP M) (-1) k → M1 29 3 = pv (M 22) (plP M) 0 k → M1 29 4 = sN E k → M1 29 5 = sN U k → (∀ i : Int, 0 ≤ i → i < k → M1 32 i = anW (M 20) (M 21) (M 22) (plP M) w i ∧ M1 33 i = sN E (i + 1).toNat + w * sN U (i + 1).toNat) → J 26 [some (vr 31), some (vr 26), some (vr 18), some (vi w), some (vi k), x5] [] M1 := by
    intro d
    induction d with
    | zero =>
      intro k x5 M1 hk a s4 w1 w2 w3 w4 w5 w6
      have h139 : J 139 [some (vr 31), some (vr 26), some (vr 18), some (vi w), some (vi k), x5] [] M1 := by
        refine hJ 139 _ _ _ (show mm_wp _ _ _ mo_Spl_measure_139 _ _ _ from ?_)
        simp only [mo_Spl_measure_139, mm_wp, mm_ldi, mm_lda, mm_ldl, mm_sti, mm_sta, mm_stl, mm_inc, mm_2i, mm_mm, mm_2l, mm_lcmp, mm_i2l, mm_l2i, mm_cast8, mm_if1, mm_if2, mm_cmp, mm_swi, mm_sw, mm_pop1, mm_dup, mm_dup2, mm_geti, mm_geta, mm_puti, mm_iald, mm_bald, mm_aald, mm_iast, mm_bast, mm_alen, mm_acpy, mm_call, mm_callv, mm_recv, mm_pop, mm_find, mm_push, mm_cats, mm_cat, mm_reti, mm_retz, mm_retl, mm_reta, mm_retv, mm_set1, mm_set2, mm_kill, List.getElem?_cons_zero, List.getElem?_cons_succ, Int.reduceToNat, ↓reduceIte, Nat.reduceEqDiff, Nat.reduceDiv, Nat.reduceAdd, Nat.reduceLeDiff, Nat.zero_le, true_and, and_true, true_or, or_true, mm_b0, mm_b1, mm_lc_lt, mm_lc_le, mm_lc_gt, mm_lc_ge, mm_lc_eq, Int.not_lt, Int.not_le, Decidable.not_not, Int.sub_neg]
        exact h M1 a s4 (fun i i0 i1 => w6 i i0 (by omega))
      refine hJ 26 _ _ _ (show mm_wp _ _ _ mo_Spl_measure_26 _ _ _ from ?_)
      simp only [mo_Spl_measure_26, mm_wp, mm_ldi, mm_lda, mm_ldl, mm_sti, mm_sta, mm_stl, mm_inc, mm_2i, mm_mm, mm_2l, mm_lcmp, mm_i2l, mm_l2i, mm_cast8, mm_if1, mm_if2, mm_cmp, mm_swi, mm_sw, mm_pop1, mm_dup, mm_dup2, mm_geti, mm_geta, mm_puti, mm_iald, mm_bald, mm_aald, mm_iast, mm_bast, mm_alen, mm_acpy, mm_call, mm_callv, mm_recv, mm_pop, mm_find, mm_push, mm_cats, mm_cat, mm_reti, mm_retz, mm_retl, mm_reta, mm_retv, mm_set1, mm_set2, mm_kill, List.getElem?_cons_zero, List.getElem?_cons_succ, Int.reduceToNat, ↓reduceIte, Nat.reduceEqDiff, Nat.reduceDiv, Nat.reduceAdd, Nat.reduceLeDiff, Nat.zero_le, true_and, and_true, true_or, or_true, mm_b0, mm_b1, mm_lc_lt, mm_lc_le, mm_lc_gt, mm_lc_ge, mm_lc_eq, Int.not_lt, Int.not_le, Decidable.not_not, Int.sub_neg, c_0, c_1, c_2, l_2, c_3, c_4, l_4, c_5, l_5, c_6, l_6, c_7, l_7, c_8, c_9, l_9, c_10, l_10, c_11, l_11, c_12, l_12, c_13, c_14, l_14, c_15, l_15, c_16, l_16, c_17, l_17, c_18, c_19, l_19, c_20, l_20, c_21, l_21, c_22, l_22, c_23, c_24, l_24, c_25, l_25, c_26, c_27, c_28, l_28, c_29, c_30, l_30, c_31, c_32, l_32, c_33, l_33, c_34, l_34, c_35, l_35, c_36, l_36, c_37, l_37, c_38, l_38, c_39, l_39, c_40, c_41, l_41, c_42, c_43, c_44, l_44, c_45, c_46, l_46, c_47, c_48, l_48, c_49, l_49, c_50, l_50, c_51, l_51, c_52, l_52, c_53, l_53, c_54, l_54, c_55, l_55, c_56, l_56, c_57, l_57, c_58, l_58, c_59, l_59, c_60, l_60, c_61, l_61, c_62, c_63, l_63, c_64, l_64, c_65, l_65, c_66, l_66, c_67, l_67, c_68, l_68, c_69, l_69, c_70, l_70, c_71, l_71, c_72, l_72, c_73, l_73, c_74, l_74, c_75, l_75, c_76, l_76]
      exact ⟨fun _ => h139, fun z => by omega⟩
    | succ d ih =>
      intro k x5 M1 hk a s4 w1 w2 w3 w4 w5 w6
      have e27 : M1 27 = M 27 := a 27 (by decide)
      have e28 : M1 28 = M 28 := a 28 (by decide)
      have e18 : M1 18 = M 18 := a 18 (by decide)
      have e20 : M1 20 = M 20 := a 20 (by decide)
      have e21 : M1 21 = M 21 := a 21 (by decide)
      have e22 : M1 22 = M 22 := a 22 (by decide)
      have hpk := hPq k (by omega) (by omega)
      have hqk := hB2 _ hpk.1 hpk.2
      have hS := hsb k (by omega)
      have hS2 := hsb (k + 1) (by omega)
      have hpv : 0 ≤ M1 29 1 ∧ M1 29 1 ≤ 60 ∧ -1 ≤ M1 29 2 ∧ M1 29 2 ≤ 60 ∧ 0 ≤ M1 29 3 ∧ M1 29 3 ≤ 32 := by
        rw [w1, w2, w3]
        unfold pv plP
        by_cases hk0 : (k : Int) = 0
        · simp only [hk0, ↓reduceIte]; omega
        · have b := hB2 _ (hPq ((k : Int) - 1) (by omega) (by omega)).1 (hPq ((k : Int) - 1) (by omega) (by omega)).2
          simp only [hk0, ↓reduceIte]; omega
      have eE : E k = dA (M1 29 1) (M 20 (plP M k)) + dA (M1 29 2) (M 21 (plP M k)) := by rw [w1, w2, eEE]
      have eU : U k = dA (M1 29 3) (M 22 (plP M k)) := by rw [w3, eUU]
      have ePk : plP M k = (M 28 k).tmod 32 := rfl
      refine hJ 26 _ _ _ (show mm_wp _ _ _ mo_Spl_measure_26 _ _ _ from ?_)
      simp only [mo_Spl_measure_26, mm_wp, mm_ldi, mm_lda, mm_ldl, mm_sti, mm_sta, mm_stl, mm_inc, mm_2i, mm_mm, mm_2l, mm_lcmp, mm_i2l, mm_l2i, mm_cast8, mm_if1, mm_if2, mm_cmp, mm_swi, mm_sw, mm_pop1, mm_dup, mm_dup2, mm_geti, mm_geta, mm_puti, mm_iald, mm_bald, mm_aald, mm_iast, mm_bast, mm_alen, mm_acpy, mm_call, mm_callv, mm_recv, mm_pop, mm_find, mm_push, mm_cats, mm_cat, mm_reti, mm_retz, mm_retl, mm_reta, mm_retv, mm_set1, mm_set2, mm_kill, List.getElem?_cons_zero, List.getElem?_cons_succ, Int.reduceToNat, ↓reduceIte, Nat.reduceEqDiff, Nat.reduceDiv, Nat.reduceAdd, Nat.reduceLeDiff, Nat.zero_le, true_and, and_true, true_or, or_true, mm_b0, mm_b1, mm_lc_lt, mm_lc_le, mm_lc_gt, mm_lc_ge, mm_lc_eq, Int.not_lt, Int.not_le, Decidable.not_not, Int.sub_neg, c_0, c_1, c_2, l_2, c_3, c_4, l_4, c_5, l_5, c_6, l_6, c_7, l_7, c_8, c_9, l_9, c_10, l_10, c_11, l_11, c_12, l_12, c_13, c_14, l_14, c_15, l_15, c_16, l_16, c_17, l_17, c_18, c_19, l_19, c_20, l_20, c_21, l_21, c_22, l_22, c_23, c_24, l_24, c_25, l_25, c_26, c_27, c_28, l_28, c_29, c_30, l_30, c_31, c_32, l_32, c_33, l_33, c_34, l_34, c_35, l_35, c_36, l_36, c_37, l_37, c_38, l_38, c_39, l_39, c_40, c_41, l_41, c_42, c_43, c_44, l_44, c_45, c_46, l_46, c_47, c_48, l_48, c_49, l_49, c_50, l_50, c_51, l_51, c_52, l_52, c_53, l_53, c_54, l_54, c_55, l_55, c_56, l_56, c_57, l_57, c_58, l_58, c_59, l_59, c_60, l_60, c_61, l_61, c_62, c_63, l_63, c_64, l_64, c_65, l_65, c_66, l_66, c_67, l_67, c_68, l_68, c_69, l_69, c_70, l_70, c_71, l_71, c_72, l_72, c_73, l_73, c_74, l_74, c_75, l_75, c_76, l_76, e27, e28, s4, t_Srt_question, t_Q_aim, t_Win_aim, t_Win_distance, t_Win_make, t_Win_begin, t_Win_cost]
      rw [if_pos ⟨by omega, by omega⟩, ← ePk]
      rw [← ePk] at hqk hpk
      generalize hq : plP M k = q at *
      refine ⟨fun z => by omega, fun _ => ⟨isSrt27, by omega, isW40, fun M2 f2 b1 b2 b3 b4 b5 b6 => ?_⟩⟩
      rw [f2 18 (by decide), f2 20 (by decide), f2 21 (by decide), f2 22 (by decide), e18, e20, e21, e22]
      refine ⟨isQ18, isW40, by omega, wgo (o := 40) isW40 (by unfold wB; omega) (by omega) (by omega) (fun M3 f3 c1 c2 c3 c4 c5 c6 => ?_)⟩
      rw [b1, b2, b4] at c4
      rw [b3, b5] at c5
      have g29 : M3 29 = M1 29 := by rw [f3 29 (by decide) (by decide), f2 29 (by decide)]
      have bd : 0 ≤ dA 0 (M 20 q) ∧ dA 0 (M 20 q) ≤ 60 ∧ 0 ≤ dA (-1) (M 21 q) ∧ dA (-1) (M 21 q) ≤ 61 ∧ 0 ≤ dA 0 (M 22 q) ∧ dA 0 (M 22 q) ≤ 60 := by unfold dA; omega
      refine ⟨isW40, w0, w9, by omega, by omega, by omega, by omega, by omega, isQ18, isW29, ?_⟩
      have hfr : ∀ o', o' < 26 ∨ 41 < o' ∨ o' = 27 ∨ o' = 28 ∨ (33 < o' ∧ o' < 40) → mm_up M3 32 k (M3 40 4 + w * M3 40 5) o' = M o' := fun o' c => by rw [mm_up_o _ _ (by omega), f3 o' (by omega) (by omega), f2 o' (by omega), a o' c]
      rw [hfr 18 (by decide), hfr 20 (by decide), hfr 21 (by decide), hfr 22 (by decide)]
      have u29 : mm_up M3 32 k (M3 40 4 + w * M3 40 5) 29 = M1 29 := by rw [mm_up_o _ _ (by decide), g29]
      refine ⟨by omega, wgo (o := 29) isW29 (by unfold wB; rw [u29]; exact hpv) (by omega) (by rw [u29, w4, w5]; omega) (fun M4 f4 d1 d2 d3 d4 d5 d6 => ?_)⟩
      rw [u29, w4, Int.add_assoc, ← eE] at d4
      rw [u29, w5, ← eU] at d5
      have t4 : M4 29 4 = sN E (k + 1) := d4
      have t5 : M4 29 5 = sN U (k + 1) := d5
      refine ⟨isW29, w0, w9, by omega, by omega, by omega, by omega, by omega, by omega, ?_⟩
      have e2 := ih (k + 1) (some (vi q)) (mm_up M4 33 k (M4 29 4 + w * M4 29 5)) (by omega) (fun o' c => by rw [mm_up_o _ _ (by omega), f4 o' (by omega) (by omega), hfr o' c]) ?_ ?_ ?_ ?_ ?_ ?_ ?_
      · exact e2
      · rw [mm_up_o _ _ (by decide), f4 31 (by decide) (by decide), mm_up_o _ _ (by decide), f3 31 (by decide) (by decide), f2 31 (by decide), s4]
      · rw [mm_up_o _ _ (by decide), pv_s, d1, ← hq]
      · rw [mm_up_o _ _ (by decide), pv_s, d2, ← hq]
      · rw [mm_up_o _ _ (by decide), pv_s, d3, ← hq]
      · rw [mm_up_o _ _ (by decide), t4]
      · rw [mm_up_o _ _ (by decide), t5]
      · intro i i0 i1
        rw [mm_up_o _ _ (by decide), f4 32 (by decide) (by decide), mm_up_if, mm_up_if]
        by_cases hik : i = k
        · subst hik
          rw [if_pos rfl, if_pos rfl, c4, c5, t4, t5]
          refine ⟨?_, rfl⟩
          unfold anW
          rw [hq, Int.zero_add, Int.zero_add]
        · rw [if_neg hik, if_neg hik, f4 33 (by decide) (by decide), mm_up_o _ _ (by decide), f3 32 (by decide) (by decide), f2 32 (by decide), f3 33 (by decide) (by decide), f2 33 (by decide)]
          exact w6 i i0 (by omega)
  refine hJ 0 _ _ _ (show mm_wp _ _ _ mo_Spl_measure_0 _ _ _ from ?_)
  simp only [mo_Spl_measure_0, mm_wp, mm_ldi, mm_lda, mm_ldl, mm_sti, mm_sta, mm_stl, mm_inc, mm_2i, mm_mm, mm_2l, mm_lcmp, mm_i2l, mm_l2i, mm_cast8, mm_if1, mm_if2, mm_cmp, mm_swi, mm_sw, mm_pop1, mm_dup, mm_dup2, mm_geti, mm_geta, mm_puti, mm_iald, mm_bald, mm_aald, mm_iast, mm_bast, mm_alen, mm_acpy, mm_call, mm_callv, mm_recv, mm_pop, mm_find, mm_push, mm_cats, mm_cat, mm_reti, mm_retz, mm_retl, mm_reta, mm_retv, mm_set1, mm_set2, mm_kill, List.getElem?_cons_zero, List.getElem?_cons_succ, Int.reduceToNat, ↓reduceIte, Nat.reduceEqDiff, Nat.reduceDiv, Nat.reduceAdd, Nat.reduceLeDiff, Nat.zero_le, true_and, and_true, true_or, or_true, mm_b0, mm_b1, mm_lc_lt, mm_lc_le, mm_lc_gt, mm_lc_ge, mm_lc_eq, Int.not_lt, Int.not_le, Decidable.not_not, Int.sub_neg, c_0, c_1, c_2, l_2, c_3, c_4, l_4, c_5, l_5, c_6, l_6, c_7, l_7, c_8, c_9, l_9, c_10, l_10, c_11, l_11, c_12, l_12, c_13, c_14, l_14, c_15, l_15, c_16, l_16, c_17, l_17, c_18, c_19, l_19, c_20, l_20, c_21, l_21, c_22, l_22, c_23, c_24, l_24, c_25, l_25, c_26, c_27, c_28, l_28, c_29, c_30, l_30, c_31, c_32, l_32, c_33, l_33, c_34, l_34, c_35, l_35, c_36, l_36, c_37, l_37, c_38, l_38, c_39, l_39, c_40, c_41, l_41, c_42, c_43, c_44, l_44, c_45, c_46, l_46, c_47, c_48, l_48, c_49, l_49, c_50, l_50, c_51, l_51, c_52, l_52, c_53, l_53, c_54, l_54, c_55, l_55, c_56, l_56, c_57, l_57, c_58, l_58, c_59, l_59, c_60, l_60, c_61, l_61, c_62, c_63, l_63, c_64, l_64, c_65, l_65, c_66, l_66, c_67, l_67, c_68, l_68, c_69, l_69, c_70, l_70, c_71, l_71, c_72, l_72, c_73, l_73, c_74, l_74, c_75, l_75, c_76, l_76, t_Win_begin]
  refine ⟨isW29, fun M1 f1 b1 b2 b3 b4 b5 b6 => ?_⟩
  refine hl (M 27 1).toNat 0 none M1 (by omega) (fun o' c => by rw [f1 o' (by omega), mm_up_o _ _ (by omega)]) ?_ b1 b2 b3 b4 b5 (fun i i0 i1 => by omega)
  rw [f1 31 (by decide), mm_up_s]
  omega
def crW (an on : Int → Int) (n a b : Int) : Int := if a < 0 ∨ b ≤ a ∨ n < b then 0 else an a + on (b - 1) - on a
def mnN (I : Int) (g : Int → Int) (a : Int) : Nat → Int
  | 0 => I
  | k + 1 => min (mnN I g a k) (g (a + k))
def lsF (I : Int) (c : Int → Int → Int) (n : Int) : Nat → Int → Int
  | 0, a => if a = n then 0 else I
  | h + 1, a => mnN I (fun j => max (c a j) (lsF I c n h j)) a (n - a + 1).toNat
theorem mnN_cong {I : Int} {g g' : Int → Int} {a : Int} : ∀ (k : Nat), (∀ j : Int, a ≤ j → j < a + k → g j = g' j) → mnN I g a k = mnN I g' a k
  | 0, _ => rfl
  | k + 1, h => by
    simp only [mnN]
    rw [mnN_cong k (fun j j0 j1 => h j j0 (by omega)), h (a + k) (by omega) (by omega)]
def spB (M : mmM) : Prop := 0 ≤ M 31 4 ∧ M 31 4 ≤ 24 ∧ ∀ i, 0 ≤ i → i < M 31 4 → 0 ≤ M 32 i ∧ M 32 i ≤ 1000 ∧ 0 ≤ M 33 i ∧ M 33 i ≤ 30000
theorem c35 : ∀ j : Nat, j < 5 → mm_cls (35 + j) = 100 ∧ mm_len (35 + j) = 26 := by decide +kernel
theorem spB_c {M M' : mmM} (h : ∀ o', o' < 34 → M' o' = M o') (hb : spB M) : spB M' := by
  unfold spB
  rw [h 31 (by decide), h 32 (by decide), h 33 (by decide)]
  exact hb
def t_Spl_costOfRow : mmT := fun as M Q => match as with
  | [.inr (.inr o), .inl a, .inl b] => o = 31 ∧ spB M ∧ Q (some (vi (crW (M 32) (M 33) (M 31 4) a b))) M
  | _ => False
set_option maxHeartbeats 4000000 in
set_option maxRecDepth 100000 in
theorem p_Spl_costOfRow : ∀ as M Q, (∀ v ∈ as, mm_vin v) → mm_mem M → t_Spl_costOfRow as M Q → (mm_ent as).length ≤ 3 ∧ mm_ok mb_Spl_costOfRow [] (mm_entry 3 as) M Q := by
  intro as M Q hin hM h
  unfold t_Spl_costOfRow at h
  split at h
  rotate_left
  · exact h.elim
  rename_i o a b
  have hR_a : mm_R a := hin (vi a) (by simp)
  have hR_b : mm_R b := hin (vi b) (by simp)
  refine ⟨by simp [mm_ent], (show mm_ok mb_Spl_costOfRow [] [some (vr o), some (vi a), some (vi b)] M Q from ?_)⟩
  intro J hJ
  obtain ⟨rfl, ⟨n0, n1, hb⟩, h⟩ := h
  unfold crW at h
  by_cases hc : a < 0 ∨ b ≤ a ∨ M 31 4 < b
  · rw [if_pos hc] at h
    repeat' first | (refine And.intro ?_ ?_) | (intro _) | (refine hJ 0 _ _ _ ?_; show mm_wp _ _ _ mo_Spl_costOfRow_0 _ _ _; simp only [mo_Spl_costOfRow_0, mm_wp, mm_ldi, mm_lda, mm_ldl, mm_sti, mm_sta, mm_stl, mm_inc, mm_2i, mm_mm, mm_2l, mm_lcmp, mm_i2l, mm_l2i, mm_cast8, mm_if1, mm_if2, mm_cmp, mm_swi, mm_sw, mm_pop1, mm_dup, mm_dup2, mm_geti, mm_geta, mm_puti, mm_iald, mm_bald, mm_aald, mm_iast, mm_bast, mm_alen, mm_acpy, mm_call, mm_callv, mm_recv, mm_pop, mm_find, mm_push, mm_cats, mm_cat, mm_reti, mm_retz, mm_retl, mm_reta, mm_retv, mm_set1, mm_set2, mm_kill, List.getElem?_cons_zero, List.getElem?_cons_succ, Int.reduceToNat, ↓reduceIte, Nat.reduceEqDiff, Nat.reduceDiv, Nat.reduceAdd, Nat.reduceLeDiff, Nat.zero_le, true_and, and_true, true_or, or_true, mm_b0, mm_b1, mm_lc_lt, mm_lc_le, mm_lc_gt, mm_lc_ge, mm_lc_eq, Int.not_lt, Int.not_le, Decidable.not_not, Int.sub_neg, c_0, c_1, c_2, l_2, c_3, c_4, l_4, c_5, l_5, c_6, l_6, c_7, l_7, c_8, c_9, l_9, c_10, l_10, c_11, l_11, c_12, l_12, c_13, c_14, l_14, c_15, l_15, c_16, l_16, c_17, l_17, c_18, c_19, l_19, c_20, l_20, c_21, l_21, c_22, l_22, c_23, c_24, l_24, c_25, l_25, c_26, c_27, c_28, l_28, c_29, c_30, l_30, c_31, c_32, l_32, c_33, l_33, c_34, l_34, c_35, l_35, c_36, l_36, c_37, l_37, c_38, l_38, c_39, l_39, c_40, c_41, l_41, c_42, c_43, c_44, l_44, c_45, c_46, l_46, c_47, c_48, l_48, c_49, l_49, c_50, l_50, c_51, l_51, c_52, l_52, c_53, l_53, c_54, l_54, c_55, l_55, c_56, l_56, c_57, l_57, c_58, l_58, c_59, l_59, c_60, l_60, c_61, l_61, c_62, c_63, l_63, c_64, l_64, c_65, l_65, c_66, l_66, c_67, l_67, c_68, l_68, c_69, l_69, c_70, l_70, c_71, l_71, c_72, l_72, c_73, l_73, c_74, l_74, c_75, l_75, c_76, l_76]) | (refine hJ 17 _ _ _ ?_; show mm_wp _ _ _ mo_Spl_costOfRow_17 _ _ _; simp only [mo_Spl_costOfRow_17, mm_wp, mm_ldi, mm_lda, mm_ldl, mm_sti, mm_sta, mm_stl, mm_inc, mm_2i, mm_mm, mm_2l, mm_lcmp, mm_i2l, mm_l2i, mm_cast8, mm_if1, mm_if2, mm_cmp, mm_swi, mm_sw, mm_pop1, mm_dup, mm_dup2, mm_geti, mm_geta, mm_puti, mm_iald, mm_bald, mm_aald, mm_iast, mm_bast, mm_alen, mm_acpy, mm_call, mm_callv, mm_recv, mm_pop, mm_find, mm_push, mm_cats, mm_cat, mm_reti, mm_retz, mm_retl, mm_reta, mm_retv, mm_set1, mm_set2, mm_kill, List.getElem?_cons_zero, List.getElem?_cons_succ, Int.reduceToNat, ↓reduceIte, Nat.reduceEqDiff, Nat.reduceDiv, Nat.reduceAdd, Nat.reduceLeDiff, Nat.zero_le, true_and, and_true, true_or, or_true, mm_b0, mm_b1, mm_lc_lt, mm_lc_le, mm_lc_gt, mm_lc_ge, mm_lc_eq, Int.not_lt, Int.not_le, Decidable.not_not, Int.sub_neg, c_0, c_1, c_2, l_2, c_3, c_4, l_4, c_5, l_5, c_6, l_6, c_7, l_7, c_8, c_9, l_9, c_10, l_10, c_11, l_11, c_12, l_12, c_13, c_14, l_14, c_15, l_15, c_16, l_16, c_17, l_17, c_18, c_19, l_19, c_20, l_20, c_21, l_21, c_22, l_22, c_23, c_24, l_24, c_25, l_25, c_26, c_27, c_28, l_28, c_29, c_30, l_30, c_31, c_32, l_32, c_33, l_33, c_34, l_34, c_35, l_35, c_36, l_36, c_37, l_37, c_38, l_38, c_39, l_39, c_40, c_41, l_41, c_42, c_43, c_44, l_44, c_45, c_46, l_46, c_47, c_48, l_48, c_49, l_49, c_50, l_50, c_51, l_51, c_52, l_52, c_53, l_53, c_54, l_54, c_55, l_55, c_56, l_56, c_57, l_57, c_58, l_58, c_59, l_59, c_60, l_60, c_61, l_61, c_62, c_63, l_63, c_64, l_64, c_65, l_65, c_66, l_66, c_67, l_67, c_68, l_68, c_69, l_69, c_70, l_70, c_71, l_71, c_72, l_72, c_73, l_73, c_74, l_74, c_75, l_75, c_76, l_76]) | (refine hJ 19 _ _ _ ?_; show mm_wp _ _ _ mo_Spl_costOfRow_19 _ _ _; simp only [mo_Spl_costOfRow_19, mm_wp, mm_ldi, mm_lda, mm_ldl, mm_sti, mm_sta, mm_stl, mm_inc, mm_2i, mm_mm, mm_2l, mm_lcmp, mm_i2l, mm_l2i, mm_cast8, mm_if1, mm_if2, mm_cmp, mm_swi, mm_sw, mm_pop1, mm_dup, mm_dup2, mm_geti, mm_geta, mm_puti, mm_iald, mm_bald, mm_aald, mm_iast, mm_bast, mm_alen, mm_acpy, mm_call, mm_callv, mm_recv, mm_pop, mm_find, mm_push, mm_cats, mm_cat, mm_reti, mm_retz, mm_retl, mm_reta, mm_retv, mm_set1, mm_set2, mm_kill, List.getElem?_cons_zero, List.getElem?_cons_succ, Int.reduceToNat, ↓reduceIte, Nat.reduceEqDiff, Nat.reduceDiv, Nat.reduceAdd, Nat.reduceLeDiff, Nat.zero_le, true_and, and_true, true_or, or_true, mm_b0, mm_b1, mm_lc_lt, mm_lc_le, mm_lc_gt, mm_lc_ge, mm_lc_eq, Int.not_lt, Int.not_le, Decidable.not_not, Int.sub_neg, c_0, c_1, c_2, l_2, c_3, c_4, l_4, c_5, l_5, c_6, l_6, c_7, l_7, c_8, c_9, l_9, c_10, l_10, c_11, l_11, c_12, l_12, c_13, c_14, l_14, c_15, l_15, c_16, l_16, c_17, l_17, c_18, c_19, l_19, c_20, l_20, c_21, l_21, c_22, l_22, c_23, c_24, l_24, c_25, l_25, c_26, c_27, c_28, l_28, c_29, c_30, l_30, c_31, c_32, l_32, c_33, l_33, c_34, l_34, c_35, l_35, c_36, l_36, c_37, l_37, c_38, l_38, c_39, l_39, c_40, c_41, l_41, c_42, c_43, c_44, l_44, c_45, c_46, l_46, c_47, c_48, l_48, c_49, l_49, c_50, l_50, c_51, l_51, c_52, l_52, c_53, l_53, c_54, l_54, c_55, l_55, c_56, l_56, c_57, l_57, c_58, l_58, c_59, l_59, c_60, l_60, c_61, l_61, c_62, c_63, l_63, c_64, l_64, c_65, l_65, c_66, l_66, c_67, l_67, c_68, l_68, c_69, l_69, c_70, l_70, c_71, l_71, c_72, l_72, c_73, l_73, c_74, l_74, c_75, l_75, c_76, l_76])
    all_goals first | assumption | (exact Or.inl rfl) | (exact Or.inr rfl) | (exact rfl) | trivial | omega
  · rw [if_neg hc] at h
    have b1 := hb a (by omega) (by omega)
    have b2 := hb (b - 1) (by omega) (by omega)
    repeat' first | (refine And.intro ?_ ?_) | (intro _) | (refine hJ 0 _ _ _ ?_; show mm_wp _ _ _ mo_Spl_costOfRow_0 _ _ _; simp only [mo_Spl_costOfRow_0, mm_wp, mm_ldi, mm_lda, mm_ldl, mm_sti, mm_sta, mm_stl, mm_inc, mm_2i, mm_mm, mm_2l, mm_lcmp, mm_i2l, mm_l2i, mm_cast8, mm_if1, mm_if2, mm_cmp, mm_swi, mm_sw, mm_pop1, mm_dup, mm_dup2, mm_geti, mm_geta, mm_puti, mm_iald, mm_bald, mm_aald, mm_iast, mm_bast, mm_alen, mm_acpy, mm_call, mm_callv, mm_recv, mm_pop, mm_find, mm_push, mm_cats, mm_cat, mm_reti, mm_retz, mm_retl, mm_reta, mm_retv, mm_set1, mm_set2, mm_kill, List.getElem?_cons_zero, List.getElem?_cons_succ, Int.reduceToNat, ↓reduceIte, Nat.reduceEqDiff, Nat.reduceDiv, Nat.reduceAdd, Nat.reduceLeDiff, Nat.zero_le, true_and, and_true, true_or, or_true, mm_b0, mm_b1, mm_lc_lt, mm_lc_le, mm_lc_gt, mm_lc_ge, mm_lc_eq, Int.not_lt, Int.not_le, Decidable.not_not, Int.sub_neg, c_0, c_1, c_2, l_2, c_3, c_4, l_4, c_5, l_5, c_6, l_6, c_7, l_7, c_8, c_9, l_9, c_10, l_10, c_11, l_11, c_12, l_12, c_13, c_14, l_14, c_15, l_15, c_16, l_16, c_17, l_17, c_18, c_19, l_19, c_20, l_20, c_21, l_21, c_22, l_22, c_23, c_24, l_24, c_25, l_25, c_26, c_27, c_28, l_28, c_29, c_30, l_30, c_31, c_32, l_32, c_33, l_33, c_34, l_34, c_35, l_35, c_36, l_36, c_37, l_37, c_38, l_38, c_39, l_39, c_40, c_41, l_41, c_42, c_43, c_44, l_44, c_45, c_46, l_46, c_47, c_48, l_48, c_49, l_49, c_50, l_50, c_51, l_51, c_52, l_52, c_53, l_53, c_54, l_54, c_55, l_55, c_56, l_56, c_57, l_57, c_58, l_58, c_59, l_59, c_60, l_60, c_61, l_61, c_62, c_63, l_63, c_64, l_64, c_65, l_65, c_66, l_66, c_67, l_67, c_68, l_68, c_69, l_69, c_70, l_70, c_71, l_71, c_72, l_72, c_73, l_73, c_74, l_74, c_75, l_75, c_76, l_76]) | (refine hJ 17 _ _ _ ?_; show mm_wp _ _ _ mo_Spl_costOfRow_17 _ _ _; simp only [mo_Spl_costOfRow_17, mm_wp, mm_ldi, mm_lda, mm_ldl, mm_sti, mm_sta, mm_stl, mm_inc, mm_2i, mm_mm, mm_2l, mm_lcmp, mm_i2l, mm_l2i, mm_cast8, mm_if1, mm_if2, mm_cmp, mm_swi, mm_sw, mm_pop1, mm_dup, mm_dup2, mm_geti, mm_geta, mm_puti, mm_iald, mm_bald, mm_aald, mm_iast, mm_bast, mm_alen, mm_acpy, mm_call, mm_callv, mm_recv, mm_pop, mm_find, mm_push, mm_cats, mm_cat, mm_reti, mm_retz, mm_retl, mm_reta, mm_retv, mm_set1, mm_set2, mm_kill, List.getElem?_cons_zero, List.getElem?_cons_succ, Int.reduceToNat, ↓reduceIte, Nat.reduceEqDiff, Nat.reduceDiv, Nat.reduceAdd, Nat.reduceLeDiff, Nat.zero_le, true_and, and_true, true_or, or_true, mm_b0, mm_b1, mm_lc_lt, mm_lc_le, mm_lc_gt, mm_lc_ge, mm_lc_eq, Int.not_lt, Int.not_le, Decidable.not_not, Int.sub_neg, c_0, c_1, c_2, l_2, c_3, c_4, l_4, c_5, l_5, c_6, l_6, c_7, l_7, c_8, c_9, l_9, c_10, l_10, c_11, l_11, c_12, l_12, c_13, c_14, l_14, c_15, l_15, c_16, l_16, c_17, l_17, c_18, c_19, l_19, c_20, l_20, c_21, l_21, c_22, l_22, c_23, c_24, l_24, c_25, l_25, c_26, c_27, c_28, l_28, c_29, c_30, l_30, c_31, c_32, l_32, c_33, l_33, c_34, l_34, c_35, l_35, c_36, l_36, c_37, l_37, c_38, l_38, c_39, l_39, c_40, c_41, l_41, c_42, c_43, c_44, l_44, c_45, c_46, l_46, c_47, c_48, l_48, c_49, l_49, c_50, l_50, c_51, l_51, c_52, l_52, c_53, l_53, c_54, l_54, c_55, l_55, c_56, l_56, c_57, l_57, c_58, l_58, c_59, l_59, c_60, l_60, c_61, l_61, c_62, c_63, l_63, c_64, l_64, c_65, l_65, c_66, l_66, c_67, l_67, c_68, l_68, c_69, l_69, c_70, l_70, c_71, l_71, c_72, l_72, c_73, l_73, c_74, l_74, c_75, l_75, c_76, l_76]) | (refine hJ 19 _ _ _ ?_; show mm_wp _ _ _ mo_Spl_costOfRow_19 _ _ _; simp only [mo_Spl_costOfRow_19, mm_wp, mm_ldi, mm_lda, mm_ldl, mm_sti, mm_sta, mm_stl, mm_inc, mm_2i, mm_mm, mm_2l, mm_lcmp, mm_i2l, mm_l2i, mm_cast8, mm_if1, mm_if2, mm_cmp, mm_swi, mm_sw, mm_pop1, mm_dup, mm_dup2, mm_geti, mm_geta, mm_puti, mm_iald, mm_bald, mm_aald, mm_iast, mm_bast, mm_alen, mm_acpy, mm_call, mm_callv, mm_recv, mm_pop, mm_find, mm_push, mm_cats, mm_cat, mm_reti, mm_retz, mm_retl, mm_reta, mm_retv, mm_set1, mm_set2, mm_kill, List.getElem?_cons_zero, List.getElem?_cons_succ, Int.reduceToNat, ↓reduceIte, Nat.reduceEqDiff, Nat.reduceDiv, Nat.reduceAdd, Nat.reduceLeDiff, Nat.zero_le, true_and, and_true, true_or, or_true, mm_b0, mm_b1, mm_lc_lt, mm_lc_le, mm_lc_gt, mm_lc_ge, mm_lc_eq, Int.not_lt, Int.not_le, Decidable.not_not, Int.sub_neg, c_0, c_1, c_2, l_2, c_3, c_4, l_4, c_5, l_5, c_6, l_6, c_7, l_7, c_8, c_9, l_9, c_10, l_10, c_11, l_11, c_12, l_12, c_13, c_14, l_14, c_15, l_15, c_16, l_16, c_17, l_17, c_18, c_19, l_19, c_20, l_20, c_21, l_21, c_22, l_22, c_23, c_24, l_24, c_25, l_25, c_26, c_27, c_28, l_28, c_29, c_30, l_30, c_31, c_32, l_32, c_33, l_33, c_34, l_34, c_35, l_35, c_36, l_36, c_37, l_37, c_38, l_38, c_39, l_39, c_40, c_41, l_41, c_42, c_43, c_44, l_44, c_45, c_46, l_46, c_47, c_48, l_48, c_49, l_49, c_50, l_50, c_51, l_51, c_52, l_52, c_53, l_53, c_54, l_54, c_55, l_55, c_56, l_56, c_57, l_57, c_58, l_58, c_59, l_59, c_60, l_60, c_61, l_61, c_62, c_63, l_63, c_64, l_64, c_65, l_65, c_66, l_66, c_67, l_67, c_68, l_68, c_69, l_69, c_70, l_70, c_71, l_71, c_72, l_72, c_73, l_73, c_74, l_74, c_75, l_75, c_76, l_76])
    all_goals first | assumption | (exact Or.inl rfl) | (exact Or.inr rfl) | (exact rfl) | trivial | omega
def t_Spl_leastFrom : mmT := fun as M Q => match as with
  | [.inr (.inr o), .inl hd, .inl a] => o = 31 ∧ spB M ∧ 1 ≤ hd ∧ hd ≤ 4 ∧ 0 ≤ a ∧ a ≤ M 31 4 ∧ Q (some (vi (mnN 1000000000 (fun j => max (crW (M 32) (M 33) (M 31 4) a j) (M (35 + (hd - 1).toNat) j)) a (M 31 4 - a + 1).toNat))) M
  | _ => False
set_option maxHeartbeats 4000000 in
set_option maxRecDepth 100000 in
theorem p_Spl_leastFrom : ∀ as M Q, (∀ v ∈ as, mm_vin v) → mm_mem M → t_Spl_leastFrom as M Q → (mm_ent as).length ≤ 5 ∧ mm_ok mb_Spl_leastFrom [(602, t_Spl_costOfRow)] (mm_entry 5 as) M Q := by
  intro as M Q hin hM h
  unfold t_Spl_leastFrom at h
  split at h
  rotate_left
  · exact h.elim
  rename_i o hd a
  have hR_hd : mm_R hd := hin (vi hd) (by simp)
  have hR_a : mm_R a := hin (vi a) (by simp)
  refine ⟨by simp [mm_ent], (show mm_ok mb_Spl_leastFrom [(602, t_Spl_costOfRow)] [some (vr o), some (vi hd), some (vi a), none, none] M Q from ?_)⟩
  intro J hJ
  obtain ⟨rfl, hb, h0, h1, a0, a1, h⟩ := h
  have n1 := hb.2.1
  have hc := c35 (hd - 1).toNat (by omega)
  have hl : ∀ (d k : Nat), (k : Int) + d = M 31 4 - a + 1 → J 6 [some (vr 31), some (vi hd), some (vi a), some (vi (mnN 1000000000 (fun j => max (crW (M 32) (M 33) (M 31 4) a j) (M (35 + (hd - 1).toNat) j)) a k)), some (vi (a + k))] [] M := by
    intro d
    induction d with
    | zero =>
      intro k hk
      have ek : k = (M 31 4 - a + 1).toNat := by omega
      have h47 : J 47 [some (vr 31), some (vi hd), some (vi a), some (vi (mnN 1000000000 (fun j => max (crW (M 32) (M 33) (M 31 4) a j) (M (35 + (hd - 1).toNat) j)) a k)), some (vi (a + k))] [] M := by
        refine hJ 47 _ _ _ (show mm_wp _ _ _ mo_Spl_leastFrom_47 _ _ _ from ?_)
        simp only [mo_Spl_leastFrom_47, mm_wp, mm_ldi, mm_lda, mm_ldl, mm_sti, mm_sta, mm_stl, mm_inc, mm_2i, mm_mm, mm_2l, mm_lcmp, mm_i2l, mm_l2i, mm_cast8, mm_if1, mm_if2, mm_cmp, mm_swi, mm_sw, mm_pop1, mm_dup, mm_dup2, mm_geti, mm_geta, mm_puti, mm_iald, mm_bald, mm_aald, mm_iast, mm_bast, mm_alen, mm_acpy, mm_call, mm_callv, mm_recv, mm_pop, mm_find, mm_push, mm_cats, mm_cat, mm_reti, mm_retz, mm_retl, mm_reta, mm_retv, mm_set1, mm_set2, mm_kill, List.getElem?_cons_zero, List.getElem?_cons_succ, Int.reduceToNat, ↓reduceIte, Nat.reduceEqDiff, Nat.reduceDiv, Nat.reduceAdd, Nat.reduceLeDiff, Nat.zero_le, true_and, and_true, true_or, or_true, mm_b0, mm_b1, mm_lc_lt, mm_lc_le, mm_lc_gt, mm_lc_ge, mm_lc_eq, Int.not_lt, Int.not_le, Decidable.not_not, Int.sub_neg]
        rw [ek]
        exact h
      refine hJ 6 _ _ _ (show mm_wp _ _ _ mo_Spl_leastFrom_6 _ _ _ from ?_)
      simp only [mo_Spl_leastFrom_6, mm_wp, mm_ldi, mm_lda, mm_ldl, mm_sti, mm_sta, mm_stl, mm_inc, mm_2i, mm_mm, mm_2l, mm_lcmp, mm_i2l, mm_l2i, mm_cast8, mm_if1, mm_if2, mm_cmp, mm_swi, mm_sw, mm_pop1, mm_dup, mm_dup2, mm_geti, mm_geta, mm_puti, mm_iald, mm_bald, mm_aald, mm_iast, mm_bast, mm_alen, mm_acpy, mm_call, mm_callv, mm_recv, mm_pop, mm_find, mm_push, mm_cats, mm_cat, mm_reti, mm_retz, mm_retl, mm_reta, mm_retv, mm_set1, mm_set2, mm_kill, List.getElem?_cons_zero, List.getElem?_cons_succ, Int.reduceToNat, ↓reduceIte, Nat.reduceEqDiff, Nat.reduceDiv, Nat.reduceAdd, Nat.reduceLeDiff, Nat.zero_le, true_and, and_true, true_or, or_true, mm_b0, mm_b1, mm_lc_lt, mm_lc_le, mm_lc_gt, mm_lc_ge, mm_lc_eq, Int.not_lt, Int.not_le, Decidable.not_not, Int.sub_neg, c_0, c_1, c_2, l_2, c_3, c_4, l_4, c_5, l_5, c_6, l_6, c_7, l_7, c_8, c_9, l_9, c_10, l_10, c_11, l_11, c_12, l_12, c_13, c_14, l_14, c_15, l_15, c_16, l_16, c_17, l_17, c_18, c_19, l_19, c_20, l_20, c_21, l_21, c_22, l_22, c_23, c_24, l_24, c_25, l_25, c_26, c_27, c_28, l_28, c_29, c_30, l_30, c_31, c_32, l_32, c_33, l_33, c_34, l_34, c_35, l_35, c_36, l_36, c_37, l_37, c_38, l_38, c_39, l_39, c_40, c_41, l_41, c_42, c_43, c_44, l_44, c_45, c_46, l_46, c_47, c_48, l_48, c_49, l_49, c_50, l_50, c_51, l_51, c_52, l_52, c_53, l_53, c_54, l_54, c_55, l_55, c_56, l_56, c_57, l_57, c_58, l_58, c_59, l_59, c_60, l_60, c_61, l_61, c_62, c_63, l_63, c_64, l_64, c_65, l_65, c_66, l_66, c_67, l_67, c_68, l_68, c_69, l_69, c_70, l_70, c_71, l_71, c_72, l_72, c_73, l_73, c_74, l_74, c_75, l_75, c_76, l_76]
      exact ⟨fun _ => h47, fun z => by omega⟩
    | succ d ih =>
      intro k hk
      refine hJ 6 _ _ _ (show mm_wp _ _ _ mo_Spl_leastFrom_6 _ _ _ from ?_)
      simp only [mo_Spl_leastFrom_6, mm_wp, mm_ldi, mm_lda, mm_ldl, mm_sti, mm_sta, mm_stl, mm_inc, mm_2i, mm_mm, mm_2l, mm_lcmp, mm_i2l, mm_l2i, mm_cast8, mm_if1, mm_if2, mm_cmp, mm_swi, mm_sw, mm_pop1, mm_dup, mm_dup2, mm_geti, mm_geta, mm_puti, mm_iald, mm_bald, mm_aald, mm_iast, mm_bast, mm_alen, mm_acpy, mm_call, mm_callv, mm_recv, mm_pop, mm_find, mm_push, mm_cats, mm_cat, mm_reti, mm_retz, mm_retl, mm_reta, mm_retv, mm_set1, mm_set2, mm_kill, List.getElem?_cons_zero, List.getElem?_cons_succ, Int.reduceToNat, ↓reduceIte, Nat.reduceEqDiff, Nat.reduceDiv, Nat.reduceAdd, Nat.reduceLeDiff, Nat.zero_le, true_and, and_true, true_or, or_true, mm_b0, mm_b1, mm_lc_lt, mm_lc_le, mm_lc_gt, mm_lc_ge, mm_lc_eq, Int.not_lt, Int.not_le, Decidable.not_not, Int.sub_neg, c_0, c_1, c_2, l_2, c_3, c_4, l_4, c_5, l_5, c_6, l_6, c_7, l_7, c_8, c_9, l_9, c_10, l_10, c_11, l_11, c_12, l_12, c_13, c_14, l_14, c_15, l_15, c_16, l_16, c_17, l_17, c_18, c_19, l_19, c_20, l_20, c_21, l_21, c_22, l_22, c_23, c_24, l_24, c_25, l_25, c_26, c_27, c_28, l_28, c_29, c_30, l_30, c_31, c_32, l_32, c_33, l_33, c_34, l_34, c_35, l_35, c_36, l_36, c_37, l_37, c_38, l_38, c_39, l_39, c_40, c_41, l_41, c_42, c_43, c_44, l_44, c_45, c_46, l_46, c_47, c_48, l_48, c_49, l_49, c_50, l_50, c_51, l_51, c_52, l_52, c_53, l_53, c_54, l_54, c_55, l_55, c_56, l_56, c_57, l_57, c_58, l_58, c_59, l_59, c_60, l_60, c_61, l_61, c_62, c_63, l_63, c_64, l_64, c_65, l_65, c_66, l_66, c_67, l_67, c_68, l_68, c_69, l_69, c_70, l_70, c_71, l_71, c_72, l_72, c_73, l_73, c_74, l_74, c_75, l_75, c_76, l_76, t_Spl_costOfRow, hc.1, hc.2]
      refine ⟨fun z => by omega, fun _ => ⟨hb, by omega, by omega, by omega, by omega, ?_⟩⟩
      have := ih (k + 1) (by omega)
      rw [show a + ((k + 1 : Nat) : Int) = a + k + 1 by omega] at this
      exact this
  refine hJ 0 _ _ _ (show mm_wp _ _ _ mo_Spl_leastFrom_0 _ _ _ from ?_)
  simp only [mo_Spl_leastFrom_0, mm_wp, mm_ldi, mm_lda, mm_ldl, mm_sti, mm_sta, mm_stl, mm_inc, mm_2i, mm_mm, mm_2l, mm_lcmp, mm_i2l, mm_l2i, mm_cast8, mm_if1, mm_if2, mm_cmp, mm_swi, mm_sw, mm_pop1, mm_dup, mm_dup2, mm_geti, mm_geta, mm_puti, mm_iald, mm_bald, mm_aald, mm_iast, mm_bast, mm_alen, mm_acpy, mm_call, mm_callv, mm_recv, mm_pop, mm_find, mm_push, mm_cats, mm_cat, mm_reti, mm_retz, mm_retl, mm_reta, mm_retv, mm_set1, mm_set2, mm_kill, List.getElem?_cons_zero, List.getElem?_cons_succ, Int.reduceToNat, ↓reduceIte, Nat.reduceEqDiff, Nat.reduceDiv, Nat.reduceAdd, Nat.reduceLeDiff, Nat.zero_le, true_and, and_true, true_or, or_true, mm_b0, mm_b1, mm_lc_lt, mm_lc_le, mm_lc_gt, mm_lc_ge, mm_lc_eq, Int.not_lt, Int.not_le, Decidable.not_not, Int.sub_neg]
  have := hl (M 31 4 - a + 1).toNat 0 (by omega)
  simp only [Int.natCast_zero, Int.add_zero] at this
  exact this
def t_Spl_solve : mmT := fun as M Q => match as with
  | [.inr (.inr o), .inl k] => o = 31 ∧ spB M ∧ 1 ≤ k ∧ k ≤ 4 ∧ ∀ M', (∀ o', o' < 35 ∨ 39 < o' → M' o' = M o') → (∀ (h : Nat) (a : Int), (h : Int) ≤ k → 0 ≤ a → a ≤ M 31 4 → M' (35 + h) a = lsF 1000000000 (crW (M 32) (M 33) (M 31 4)) (M 31 4) h a) → Q none M'
  | _ => False
set_option maxHeartbeats 4000000 in
set_option maxRecDepth 100000 in
theorem p_Spl_solve : ∀ as M Q, (∀ v ∈ as, mm_vin v) → mm_mem M → t_Spl_solve as M Q → (mm_ent as).length ≤ 4 ∧ mm_ok mb_Spl_solve [(604, t_Spl_leastFrom)] (mm_entry 4 as) M Q := by
  intro as M Q hin hM h
  unfold t_Spl_solve at h
  split at h
  rotate_left
  · exact h.elim
  rename_i o k
  have hR_k : mm_R k := hin (vi k) (by simp)
  refine ⟨by simp [mm_ent], (show mm_ok mb_Spl_solve [(604, t_Spl_leastFrom)] [some (vr o), some (vi k), none, none] M Q from ?_)⟩
  intro J hJ
  obtain ⟨rfl, hb, k0, k1, h⟩ := h
  have n1 := hb.2.1
  have n0 := hb.1
  have h40 : ∀ (d : Nat) (hd : Nat) (x3 : Option mmV) (M1 : mmM), (hd : Int) + d = k → (∀ o', o' < 35 ∨ 39 < o' → M1 o' = M o') → (∀ (h : Nat) (a : Int), h ≤ hd → 0 ≤ a → a ≤ M 31 4 → M1 (35 + h) a = lsF 1000000000 (crW (M 32) (M 33) (M 31 4)) (M 31 4) h a) → J 40 [some (vr 31), some (vi k), some (vi (hd + 1)), x3] [] M1 := by
    intro d
    induction d with
    | zero =>
      intro hd x3 M1 hk f1 hv
      have h86 : J 86 [some (vr 31), some (vi k), some (vi (hd + 1)), x3] [] M1 := by
        refine hJ 86 _ _ _ (show mm_wp _ _ _ mo_Spl_solve_86 _ _ _ from ?_)
        simp only [mo_Spl_solve_86, mm_wp, mm_ldi, mm_lda, mm_ldl, mm_sti, mm_sta, mm_stl, mm_inc, mm_2i, mm_mm, mm_2l, mm_lcmp, mm_i2l, mm_l2i, mm_cast8, mm_if1, mm_if2, mm_cmp, mm_swi, mm_sw, mm_pop1, mm_dup, mm_dup2, mm_geti, mm_geta, mm_puti, mm_iald, mm_bald, mm_aald, mm_iast, mm_bast, mm_alen, mm_acpy, mm_call, mm_callv, mm_recv, mm_pop, mm_find, mm_push, mm_cats, mm_cat, mm_reti, mm_retz, mm_retl, mm_reta, mm_retv, mm_set1, mm_set2, mm_kill, List.getElem?_cons_zero, List.getElem?_cons_succ, Int.reduceToNat, ↓reduceIte, Nat.reduceEqDiff, Nat.reduceDiv, Nat.reduceAdd, Nat.reduceLeDiff, Nat.zero_le, true_and, and_true, true_or, or_true, mm_b0, mm_b1, mm_lc_lt, mm_lc_le, mm_lc_gt, mm_lc_ge, mm_lc_eq, Int.not_lt, Int.not_le, Decidable.not_not, Int.sub_neg]
        exact h M1 f1 (fun h' a q0 => hv h' a (by omega))
      refine hJ 40 _ _ _ (show mm_wp _ _ _ mo_Spl_solve_40 _ _ _ from ?_)
      simp only [mo_Spl_solve_40, mm_wp, mm_ldi, mm_lda, mm_ldl, mm_sti, mm_sta, mm_stl, mm_inc, mm_2i, mm_mm, mm_2l, mm_lcmp, mm_i2l, mm_l2i, mm_cast8, mm_if1, mm_if2, mm_cmp, mm_swi, mm_sw, mm_pop1, mm_dup, mm_dup2, mm_geti, mm_geta, mm_puti, mm_iald, mm_bald, mm_aald, mm_iast, mm_bast, mm_alen, mm_acpy, mm_call, mm_callv, mm_recv, mm_pop, mm_find, mm_push, mm_cats, mm_cat, mm_reti, mm_retz, mm_retl, mm_reta, mm_retv, mm_set1, mm_set2, mm_kill, List.getElem?_cons_zero, List.getElem?_cons_succ, Int.reduceToNat, ↓reduceIte, Nat.reduceEqDiff, Nat.reduceDiv, Nat.reduceAdd, Nat.reduceLeDiff, Nat.zero_le, true_and, and_true, true_or, or_true, mm_b0, mm_b1, mm_lc_lt, mm_lc_le, mm_lc_gt, mm_lc_ge, mm_lc_eq, Int.not_lt, Int.not_le, Decidable.not_not, Int.sub_neg, c_0, c_1, c_2, l_2, c_3, c_4, l_4, c_5, l_5, c_6, l_6, c_7, l_7, c_8, c_9, l_9, c_10, l_10, c_11, l_11, c_12, l_12, c_13, c_14, l_14, c_15, l_15, c_16, l_16, c_17, l_17, c_18, c_19, l_19, c_20, l_20, c_21, l_21, c_22, l_22, c_23, c_24, l_24, c_25, l_25, c_26, c_27, c_28, l_28, c_29, c_30, l_30, c_31, c_32, l_32, c_33, l_33, c_34, l_34, c_35, l_35, c_36, l_36, c_37, l_37, c_38, l_38, c_39, l_39, c_40, c_41, l_41, c_42, c_43, c_44, l_44, c_45, c_46, l_46, c_47, c_48, l_48, c_49, l_49, c_50, l_50, c_51, l_51, c_52, l_52, c_53, l_53, c_54, l_54, c_55, l_55, c_56, l_56, c_57, l_57, c_58, l_58, c_59, l_59, c_60, l_60, c_61, l_61, c_62, c_63, l_63, c_64, l_64, c_65, l_65, c_66, l_66, c_67, l_67, c_68, l_68, c_69, l_69, c_70, l_70, c_71, l_71, c_72, l_72, c_73, l_73, c_74, l_74, c_75, l_75, c_76, l_76]
      exact ⟨fun _ => h86, fun z => by omega⟩
    | succ d ih =>
      intro hd x3 M1 hk f1 hv
      have h52 : ∀ (d2 j : Nat) (M2 : mmM), (j : Int) + d2 = M 31 4 + 1 → (∀ o', o' ≠ 35 + hd + 1 → M2 o' = M1 o') → (∀ a : Int, 0 ≤ a → a < j → M2 (35 + hd + 1) a = lsF 1000000000 (crW (M 32) (M 33) (M 31 4)) (M 31 4) (hd + 1) a) → J 52 [some (vr 31), some (vi k), some (vi (hd + 1)), some (vi j)] [] M2 := by
        intro d2
        induction d2 with
        | zero =>
          intro j M2 hj f2 hv2
          have e31 : M2 31 = M 31 := by rw [f2 31 (by omega), f1 31 (by omega)]
          have h80 : J 80 [some (vr 31), some (vi k), some (vi (hd + 1)), some (vi j)] [] M2 := by
            refine hJ 80 _ _ _ (show mm_wp _ _ _ mo_Spl_solve_80 _ _ _ from ?_)
            simp only [mo_Spl_solve_80, mm_wp, mm_ldi, mm_lda, mm_ldl, mm_sti, mm_sta, mm_stl, mm_inc, mm_2i, mm_mm, mm_2l, mm_lcmp, mm_i2l, mm_l2i, mm_cast8, mm_if1, mm_if2, mm_cmp, mm_swi, mm_sw, mm_pop1, mm_dup, mm_dup2, mm_geti, mm_geta, mm_puti, mm_iald, mm_bald, mm_aald, mm_iast, mm_bast, mm_alen, mm_acpy, mm_call, mm_callv, mm_recv, mm_pop, mm_find, mm_push, mm_cats, mm_cat, mm_reti, mm_retz, mm_retl, mm_reta, mm_retv, mm_set1, mm_set2, mm_kill, List.getElem?_cons_zero, List.getElem?_cons_succ, Int.reduceToNat, ↓reduceIte, Nat.reduceEqDiff, Nat.reduceDiv, Nat.reduceAdd, Nat.reduceLeDiff, Nat.zero_le, true_and, and_true, true_or, or_true, mm_b0, mm_b1, mm_lc_lt, mm_lc_le, mm_lc_gt, mm_lc_ge, mm_lc_eq, Int.not_lt, Int.not_le, Decidable.not_not, Int.sub_neg]
            have := ih (hd + 1) (some (vi j)) M2 (by omega) (fun o' c => by rw [f2 o' (by omega), f1 o' c]) ?_
            · exact ⟨by omega, this⟩
            · intro h' a h1 a0 a1
              by_cases hh : h' = hd + 1
              · subst hh
                exact hv2 a a0 (by omega)
              · rw [f2 (35 + h') (by omega)]
                exact hv h' a (by omega) a0 a1
          refine hJ 52 _ _ _ (show mm_wp _ _ _ mo_Spl_solve_52 _ _ _ from ?_)
          simp only [mo_Spl_solve_52, mm_wp, mm_ldi, mm_lda, mm_ldl, mm_sti, mm_sta, mm_stl, mm_inc, mm_2i, mm_mm, mm_2l, mm_lcmp, mm_i2l, mm_l2i, mm_cast8, mm_if1, mm_if2, mm_cmp, mm_swi, mm_sw, mm_pop1, mm_dup, mm_dup2, mm_geti, mm_geta, mm_puti, mm_iald, mm_bald, mm_aald, mm_iast, mm_bast, mm_alen, mm_acpy, mm_call, mm_callv, mm_recv, mm_pop, mm_find, mm_push, mm_cats, mm_cat, mm_reti, mm_retz, mm_retl, mm_reta, mm_retv, mm_set1, mm_set2, mm_kill, List.getElem?_cons_zero, List.getElem?_cons_succ, Int.reduceToNat, ↓reduceIte, Nat.reduceEqDiff, Nat.reduceDiv, Nat.reduceAdd, Nat.reduceLeDiff, Nat.zero_le, true_and, and_true, true_or, or_true, mm_b0, mm_b1, mm_lc_lt, mm_lc_le, mm_lc_gt, mm_lc_ge, mm_lc_eq, Int.not_lt, Int.not_le, Decidable.not_not, Int.sub_neg, c_0, c_1, c_2, l_2, c_3, c_4, l_4, c_5, l_5, c_6, l_6, c_7, l_7, c_8, c_9, l_9, c_10, l_10, c_11, l_11, c_12, l_12, c_13, c_14, l_14, c_15, l_15, c_16, l_16, c_17, l_17, c_18, c_19, l_19, c_20, l_20, c_21, l_21, c_22, l_22, c_23, c_24, l_24, c_25, l_25, c_26, c_27, c_28, l_28, c_29, c_30, l_30, c_31, c_32, l_32, c_33, l_33, c_34, l_34, c_35, l_35, c_36, l_36, c_37, l_37, c_38, l_38, c_39, l_39, c_40, c_41, l_41, c_42, c_43, c_44, l_44, c_45, c_46, l_46, c_47, c_48, l_48, c_49, l_49, c_50, l_50, c_51, l_51, c_52, l_52, c_53, l_53, c_54, l_54, c_55, l_55, c_56, l_56, c_57, l_57, c_58, l_58, c_59, l_59, c_60, l_60, c_61, l_61, c_62, c_63, l_63, c_64, l_64, c_65, l_65, c_66, l_66, c_67, l_67, c_68, l_68, c_69, l_69, c_70, l_70, c_71, l_71, c_72, l_72, c_73, l_73, c_74, l_74, c_75, l_75, c_76, l_76, e31]
          exact ⟨fun _ => h80, fun z => by omega⟩
        | succ d2 ih2 =>
          intro j M2 hj f2 hv2
          have fo : ∀ o', o' < 35 ∨ 39 < o' → M2 o' = M o' := fun o' c => by rw [f2 o' (by omega), f1 o' c]
          have e31 : M2 31 = M 31 := fo 31 (by decide)
          have hc := c35 (hd + 1) (by omega)
          have hb2 : spB M2 := spB_c (fun o' c => fo o' (by omega)) hb
          have eo : 34 + 1 + ((hd : Int) + 1).toNat = 35 + (hd + 1) := by omega
          have eo2 : ((hd : Int) + 1 - 1).toNat = hd := by omega
          refine hJ 52 _ _ _ (show mm_wp _ _ _ mo_Spl_solve_52 _ _ _ from ?_)
          simp only [mo_Spl_solve_52, mm_wp, mm_ldi, mm_lda, mm_ldl, mm_sti, mm_sta, mm_stl, mm_inc, mm_2i, mm_mm, mm_2l, mm_lcmp, mm_i2l, mm_l2i, mm_cast8, mm_if1, mm_if2, mm_cmp, mm_swi, mm_sw, mm_pop1, mm_dup, mm_dup2, mm_geti, mm_geta, mm_puti, mm_iald, mm_bald, mm_aald, mm_iast, mm_bast, mm_alen, mm_acpy, mm_call, mm_callv, mm_recv, mm_pop, mm_find, mm_push, mm_cats, mm_cat, mm_reti, mm_retz, mm_retl, mm_reta, mm_retv, mm_set1, mm_set2, mm_kill, List.getElem?_cons_zero, List.getElem?_cons_succ, Int.reduceToNat, ↓reduceIte, Nat.reduceEqDiff, Nat.reduceDiv, Nat.reduceAdd, Nat.reduceLeDiff, Nat.zero_le, true_and, and_true, true_or, or_true, mm_b0, mm_b1, mm_lc_lt, mm_lc_le, mm_lc_gt, mm_lc_ge, mm_lc_eq, Int.not_lt, Int.not_le, Decidable.not_not, Int.sub_neg, c_0, c_1, c_2, l_2, c_3, c_4, l_4, c_5, l_5, c_6, l_6, c_7, l_7, c_8, c_9, l_9, c_10, l_10, c_11, l_11, c_12, l_12, c_13, c_14, l_14, c_15, l_15, c_16, l_16, c_17, l_17, c_18, c_19, l_19, c_20, l_20, c_21, l_21, c_22, l_22, c_23, c_24, l_24, c_25, l_25, c_26, c_27, c_28, l_28, c_29, c_30, l_30, c_31, c_32, l_32, c_33, l_33, c_34, l_34, c_35, l_35, c_36, l_36, c_37, l_37, c_38, l_38, c_39, l_39, c_40, c_41, l_41, c_42, c_43, c_44, l_44, c_45, c_46, l_46, c_47, c_48, l_48, c_49, l_49, c_50, l_50, c_51, l_51, c_52, l_52, c_53, l_53, c_54, l_54, c_55, l_55, c_56, l_56, c_57, l_57, c_58, l_58, c_59, l_59, c_60, l_60, c_61, l_61, c_62, c_63, l_63, c_64, l_64, c_65, l_65, c_66, l_66, c_67, l_67, c_68, l_68, c_69, l_69, c_70, l_70, c_71, l_71, c_72, l_72, c_73, l_73, c_74, l_74, c_75, l_75, c_76, l_76, e31, t_Spl_leastFrom, eo, eo2, hc.1, hc.2]
          refine ⟨fun z => by omega, fun _ => ⟨by omega, hb2, by omega, by omega, by omega, by omega, by omega, by omega, ?_⟩⟩
          rw [fo 32 (by decide), fo 33 (by decide)]
          have := ih2 (j + 1) (mm_up M2 (35 + (hd + 1)) j (mnN 1000000000 (fun j_1 => max (crW (M 32) (M 33) (M 31 4) j j_1) (M2 (35 + hd) j_1)) j (M 31 4 - j + 1).toNat)) (by omega) (fun o' c => by rw [mm_up_o _ _ (by omega), f2 o' c]) ?_
          · exact this
          · intro a a0 a1
            rw [show 35 + hd + 1 = 35 + (hd + 1) by omega, mm_up_if]
            by_cases ha : a = j
            · subst ha
              rw [if_pos rfl]
              show _ = mnN 1000000000 _ _ _
              refine mnN_cong _ (fun q q0 q1 => ?_)
              rw [f2 (35 + hd) (by omega), hv hd q (by omega) (by omega) (by omega)]
            · rw [if_neg ha]
              exact hv2 a a0 (by omega)
      refine hJ 40 _ _ _ (show mm_wp _ _ _ mo_Spl_solve_40 _ _ _ from ?_)
      simp only [mo_Spl_solve_40, mm_wp, mm_ldi, mm_lda, mm_ldl, mm_sti, mm_sta, mm_stl, mm_inc, mm_2i, mm_mm, mm_2l, mm_lcmp, mm_i2l, mm_l2i, mm_cast8, mm_if1, mm_if2, mm_cmp, mm_swi, mm_sw, mm_pop1, mm_dup, mm_dup2, mm_geti, mm_geta, mm_puti, mm_iald, mm_bald, mm_aald, mm_iast, mm_bast, mm_alen, mm_acpy, mm_call, mm_callv, mm_recv, mm_pop, mm_find, mm_push, mm_cats, mm_cat, mm_reti, mm_retz, mm_retl, mm_reta, mm_retv, mm_set1, mm_set2, mm_kill, List.getElem?_cons_zero, List.getElem?_cons_succ, Int.reduceToNat, ↓reduceIte, Nat.reduceEqDiff, Nat.reduceDiv, Nat.reduceAdd, Nat.reduceLeDiff, Nat.zero_le, true_and, and_true, true_or, or_true, mm_b0, mm_b1, mm_lc_lt, mm_lc_le, mm_lc_gt, mm_lc_ge, mm_lc_eq, Int.not_lt, Int.not_le, Decidable.not_not, Int.sub_neg, c_0, c_1, c_2, l_2, c_3, c_4, l_4, c_5, l_5, c_6, l_6, c_7, l_7, c_8, c_9, l_9, c_10, l_10, c_11, l_11, c_12, l_12, c_13, c_14, l_14, c_15, l_15, c_16, l_16, c_17, l_17, c_18, c_19, l_19, c_20, l_20, c_21, l_21, c_22, l_22, c_23, c_24, l_24, c_25, l_25, c_26, c_27, c_28, l_28, c_29, c_30, l_30, c_31, c_32, l_32, c_33, l_33, c_34, l_34, c_35, l_35, c_36, l_36, c_37, l_37, c_38, l_38, c_39, l_39, c_40, c_41, l_41, c_42, c_43, c_44, l_44, c_45, c_46, l_46, c_47, c_48, l_48, c_49, l_49, c_50, l_50, c_51, l_51, c_52, l_52, c_53, l_53, c_54, l_54, c_55, l_55, c_56, l_56, c_57, l_57, c_58, l_58, c_59, l_59, c_60, l_60, c_61, l_61, c_62, c_63, l_63, c_64, l_64, c_65, l_65, c_66, l_66, c_67, l_67, c_68, l_68, c_69, l_69, c_70, l_70, c_71, l_71, c_72, l_72, c_73, l_73, c_74, l_74, c_75, l_75, c_76, l_76]
      exact ⟨fun z => by omega, fun _ => ⟨fun z => by omega, fun _ => h52 (M 31 4 + 1).toNat 0 M1 (by omega) (fun _ _ => rfl) (fun a a0 a1 => by omega)⟩⟩
  have h2 : ∀ (d2 j : Nat) (M2 : mmM), (j : Int) + d2 = M 31 4 + 1 → (∀ o', o' ≠ 35 → M2 o' = M o') → (∀ a : Int, 0 ≤ a → a < j → M2 35 a = lsF 1000000000 (crW (M 32) (M 33) (M 31 4)) (M 31 4) 0 a) → J 2 [some (vr 31), some (vi k), some (vi j), none] [] M2 := by
    intro d2
    induction d2 with
    | zero =>
      intro j M2 hj f2 hv2
      have e31 : M2 31 = M 31 := by rw [f2 31 (by omega)]
      have h38 : J 38 [some (vr 31), some (vi k), some (vi j), none] [] M2 := by
        refine hJ 38 _ _ _ (show mm_wp _ _ _ mo_Spl_solve_38 _ _ _ from ?_)
        simp only [mo_Spl_solve_38, mm_wp, mm_ldi, mm_lda, mm_ldl, mm_sti, mm_sta, mm_stl, mm_inc, mm_2i, mm_mm, mm_2l, mm_lcmp, mm_i2l, mm_l2i, mm_cast8, mm_if1, mm_if2, mm_cmp, mm_swi, mm_sw, mm_pop1, mm_dup, mm_dup2, mm_geti, mm_geta, mm_puti, mm_iald, mm_bald, mm_aald, mm_iast, mm_bast, mm_alen, mm_acpy, mm_call, mm_callv, mm_recv, mm_pop, mm_find, mm_push, mm_cats, mm_cat, mm_reti, mm_retz, mm_retl, mm_reta, mm_retv, mm_set1, mm_set2, mm_kill, List.getElem?_cons_zero, List.getElem?_cons_succ, Int.reduceToNat, ↓reduceIte, Nat.reduceEqDiff, Nat.reduceDiv, Nat.reduceAdd, Nat.reduceLeDiff, Nat.zero_le, true_and, and_true, true_or, or_true, mm_b0, mm_b1, mm_lc_lt, mm_lc_le, mm_lc_gt, mm_lc_ge, mm_lc_eq, Int.not_lt, Int.not_le, Decidable.not_not, Int.sub_neg]
        exact h40 k.toNat 0 none M2 (by omega) (fun o' c => f2 o' (by omega)) (fun h' a h1 a0 a1 => by rw [show h' = 0 by omega]; exact hv2 a a0 (by omega))
      refine hJ 2 _ _ _ (show mm_wp _ _ _ mo_Spl_solve_2 _ _ _ from ?_)
      simp only [mo_Spl_solve_2, mm_wp, mm_ldi, mm_lda, mm_ldl, mm_sti, mm_sta, mm_stl, mm_inc, mm_2i, mm_mm, mm_2l, mm_lcmp, mm_i2l, mm_l2i, mm_cast8, mm_if1, mm_if2, mm_cmp, mm_swi, mm_sw, mm_pop1, mm_dup, mm_dup2, mm_geti, mm_geta, mm_puti, mm_iald, mm_bald, mm_aald, mm_iast, mm_bast, mm_alen, mm_acpy, mm_call, mm_callv, mm_recv, mm_pop, mm_find, mm_push, mm_cats, mm_cat, mm_reti, mm_retz, mm_retl, mm_reta, mm_retv, mm_set1, mm_set2, mm_kill, List.getElem?_cons_zero, List.getElem?_cons_succ, Int.reduceToNat, ↓reduceIte, Nat.reduceEqDiff, Nat.reduceDiv, Nat.reduceAdd, Nat.reduceLeDiff, Nat.zero_le, true_and, and_true, true_or, or_true, mm_b0, mm_b1, mm_lc_lt, mm_lc_le, mm_lc_gt, mm_lc_ge, mm_lc_eq, Int.not_lt, Int.not_le, Decidable.not_not, Int.sub_neg, c_0, c_1, c_2, l_2, c_3, c_4, l_4, c_5, l_5, c_6, l_6, c_7, l_7, c_8, c_9, l_9, c_10, l_10, c_11, l_11, c_12, l_12, c_13, c_14, l_14, c_15, l_15, c_16, l_16, c_17, l_17, c_18, c_19, l_19, c_20, l_20, c_21, l_21, c_22, l_22, c_23, c_24, l_24, c_25, l_25, c_26, c_27, c_28, l_28, c_29, c_30, l_30, c_31, c_32, l_32, c_33, l_33, c_34, l_34, c_35, l_35, c_36, l_36, c_37, l_37, c_38, l_38, c_39, l_39, c_40, c_41, l_41, c_42, c_43, c_44, l_44, c_45, c_46, l_46, c_47, c_48, l_48, c_49, l_49, c_50, l_50, c_51, l_51, c_52, l_52, c_53, l_53, c_54, l_54, c_55, l_55, c_56, l_56, c_57, l_57, c_58, l_58, c_59, l_59, c_60, l_60, c_61, l_61, c_62, c_63, l_63, c_64, l_64, c_65, l_65, c_66, l_66, c_67, l_67, c_68, l_68, c_69, l_69, c_70, l_70, c_71, l_71, c_72, l_72, c_73, l_73, c_74, l_74, c_75, l_75, c_76, l_76, e31]
      exact ⟨fun _ => h38, fun z => by omega⟩
    | succ d2 ih2 =>
      intro j M2 hj f2 hv2
      have e31 : M2 31 = M 31 := by rw [f2 31 (by omega)]
      have h31 : ∀ v, v = lsF 1000000000 (crW (M 32) (M 33) (M 31 4)) (M 31 4) 0 j → J 31 [some (vr 31), some (vi k), some (vi j), none] [vi v, vi j, vr 35] M2 := by
        intro v hv
        refine hJ 31 _ _ _ (show mm_wp _ _ _ mo_Spl_solve_31 _ _ _ from ?_)
        simp only [mo_Spl_solve_31, mm_wp, mm_ldi, mm_lda, mm_ldl, mm_sti, mm_sta, mm_stl, mm_inc, mm_2i, mm_mm, mm_2l, mm_lcmp, mm_i2l, mm_l2i, mm_cast8, mm_if1, mm_if2, mm_cmp, mm_swi, mm_sw, mm_pop1, mm_dup, mm_dup2, mm_geti, mm_geta, mm_puti, mm_iald, mm_bald, mm_aald, mm_iast, mm_bast, mm_alen, mm_acpy, mm_call, mm_callv, mm_recv, mm_pop, mm_find, mm_push, mm_cats, mm_cat, mm_reti, mm_retz, mm_retl, mm_reta, mm_retv, mm_set1, mm_set2, mm_kill, List.getElem?_cons_zero, List.getElem?_cons_succ, Int.reduceToNat, ↓reduceIte, Nat.reduceEqDiff, Nat.reduceDiv, Nat.reduceAdd, Nat.reduceLeDiff, Nat.zero_le, true_and, and_true, true_or, or_true, mm_b0, mm_b1, mm_lc_lt, mm_lc_le, mm_lc_gt, mm_lc_ge, mm_lc_eq, Int.not_lt, Int.not_le, Decidable.not_not, Int.sub_neg, c_0, c_1, c_2, l_2, c_3, c_4, l_4, c_5, l_5, c_6, l_6, c_7, l_7, c_8, c_9, l_9, c_10, l_10, c_11, l_11, c_12, l_12, c_13, c_14, l_14, c_15, l_15, c_16, l_16, c_17, l_17, c_18, c_19, l_19, c_20, l_20, c_21, l_21, c_22, l_22, c_23, c_24, l_24, c_25, l_25, c_26, c_27, c_28, l_28, c_29, c_30, l_30, c_31, c_32, l_32, c_33, l_33, c_34, l_34, c_35, l_35, c_36, l_36, c_37, l_37, c_38, l_38, c_39, l_39, c_40, c_41, l_41, c_42, c_43, c_44, l_44, c_45, c_46, l_46, c_47, c_48, l_48, c_49, l_49, c_50, l_50, c_51, l_51, c_52, l_52, c_53, l_53, c_54, l_54, c_55, l_55, c_56, l_56, c_57, l_57, c_58, l_58, c_59, l_59, c_60, l_60, c_61, l_61, c_62, c_63, l_63, c_64, l_64, c_65, l_65, c_66, l_66, c_67, l_67, c_68, l_68, c_69, l_69, c_70, l_70, c_71, l_71, c_72, l_72, c_73, l_73, c_74, l_74, c_75, l_75, c_76, l_76]
        have := ih2 (j + 1) (mm_up M2 35 j v) (by omega) (fun o' c => by rw [mm_up_o _ _ c, f2 o' c]) ?_
        · exact ⟨by omega, by omega, this⟩
        · intro a a0 a1
          rw [mm_up_if]
          by_cases ha : a = j
          · subst ha
            rw [if_pos rfl, hv]
          · rw [if_neg ha]
            exact hv2 a a0 (by omega)
      have h29 : ¬ (j : Int) = M 31 4 → J 29 [some (vr 31), some (vi k), some (vi j), none] [vi j, vr 35] M2 := by
        intro hj
        refine hJ 29 _ _ _ (show mm_wp _ _ _ mo_Spl_solve_29 _ _ _ from ?_)
        simp only [mo_Spl_solve_29, mm_wp, mm_ldi, mm_lda, mm_ldl, mm_sti, mm_sta, mm_stl, mm_inc, mm_2i, mm_mm, mm_2l, mm_lcmp, mm_i2l, mm_l2i, mm_cast8, mm_if1, mm_if2, mm_cmp, mm_swi, mm_sw, mm_pop1, mm_dup, mm_dup2, mm_geti, mm_geta, mm_puti, mm_iald, mm_bald, mm_aald, mm_iast, mm_bast, mm_alen, mm_acpy, mm_call, mm_callv, mm_recv, mm_pop, mm_find, mm_push, mm_cats, mm_cat, mm_reti, mm_retz, mm_retl, mm_reta, mm_retv, mm_set1, mm_set2, mm_kill, List.getElem?_cons_zero, List.getElem?_cons_succ, Int.reduceToNat, ↓reduceIte, Nat.reduceEqDiff, Nat.reduceDiv, Nat.reduceAdd, Nat.reduceLeDiff, Nat.zero_le, true_and, and_true, true_or, or_true, mm_b0, mm_b1, mm_lc_lt, mm_lc_le, mm_lc_gt, mm_lc_ge, mm_lc_eq, Int.not_lt, Int.not_le, Decidable.not_not, Int.sub_neg]
        exact h31 _ (by simp only [lsF]; rw [if_neg hj])
      refine hJ 2 _ _ _ (show mm_wp _ _ _ mo_Spl_solve_2 _ _ _ from ?_)
      simp only [mo_Spl_solve_2, mm_wp, mm_ldi, mm_lda, mm_ldl, mm_sti, mm_sta, mm_stl, mm_inc, mm_2i, mm_mm, mm_2l, mm_lcmp, mm_i2l, mm_l2i, mm_cast8, mm_if1, mm_if2, mm_cmp, mm_swi, mm_sw, mm_pop1, mm_dup, mm_dup2, mm_geti, mm_geta, mm_puti, mm_iald, mm_bald, mm_aald, mm_iast, mm_bast, mm_alen, mm_acpy, mm_call, mm_callv, mm_recv, mm_pop, mm_find, mm_push, mm_cats, mm_cat, mm_reti, mm_retz, mm_retl, mm_reta, mm_retv, mm_set1, mm_set2, mm_kill, List.getElem?_cons_zero, List.getElem?_cons_succ, Int.reduceToNat, ↓reduceIte, Nat.reduceEqDiff, Nat.reduceDiv, Nat.reduceAdd, Nat.reduceLeDiff, Nat.zero_le, true_and, and_true, true_or, or_true, mm_b0, mm_b1, mm_lc_lt, mm_lc_le, mm_lc_gt, mm_lc_ge, mm_lc_eq, Int.not_lt, Int.not_le, Decidable.not_not, Int.sub_neg, c_0, c_1, c_2, l_2, c_3, c_4, l_4, c_5, l_5, c_6, l_6, c_7, l_7, c_8, c_9, l_9, c_10, l_10, c_11, l_11, c_12, l_12, c_13, c_14, l_14, c_15, l_15, c_16, l_16, c_17, l_17, c_18, c_19, l_19, c_20, l_20, c_21, l_21, c_22, l_22, c_23, c_24, l_24, c_25, l_25, c_26, c_27, c_28, l_28, c_29, c_30, l_30, c_31, c_32, l_32, c_33, l_33, c_34, l_34, c_35, l_35, c_36, l_36, c_37, l_37, c_38, l_38, c_39, l_39, c_40, c_41, l_41, c_42, c_43, c_44, l_44, c_45, c_46, l_46, c_47, c_48, l_48, c_49, l_49, c_50, l_50, c_51, l_51, c_52, l_52, c_53, l_53, c_54, l_54, c_55, l_55, c_56, l_56, c_57, l_57, c_58, l_58, c_59, l_59, c_60, l_60, c_61, l_61, c_62, c_63, l_63, c_64, l_64, c_65, l_65, c_66, l_66, c_67, l_67, c_68, l_68, c_69, l_69, c_70, l_70, c_71, l_71, c_72, l_72, c_73, l_73, c_74, l_74, c_75, l_75, c_76, l_76, e31, Int.toNat_zero, Nat.add_zero]
      exact ⟨fun z => by omega, fun _ => ⟨by omega, fun z => h29 z, fun z => h31 _ (by simp only [lsF]; rw [if_pos z])⟩⟩
  refine hJ 0 _ _ _ (show mm_wp _ _ _ mo_Spl_solve_0 _ _ _ from ?_)
  simp only [mo_Spl_solve_0, mm_wp, mm_ldi, mm_lda, mm_ldl, mm_sti, mm_sta, mm_stl, mm_inc, mm_2i, mm_mm, mm_2l, mm_lcmp, mm_i2l, mm_l2i, mm_cast8, mm_if1, mm_if2, mm_cmp, mm_swi, mm_sw, mm_pop1, mm_dup, mm_dup2, mm_geti, mm_geta, mm_puti, mm_iald, mm_bald, mm_aald, mm_iast, mm_bast, mm_alen, mm_acpy, mm_call, mm_callv, mm_recv, mm_pop, mm_find, mm_push, mm_cats, mm_cat, mm_reti, mm_retz, mm_retl, mm_reta, mm_retv, mm_set1, mm_set2, mm_kill, List.getElem?_cons_zero, List.getElem?_cons_succ, Int.reduceToNat, ↓reduceIte, Nat.reduceEqDiff, Nat.reduceDiv, Nat.reduceAdd, Nat.reduceLeDiff, Nat.zero_le, true_and, and_true, true_or, or_true, mm_b0, mm_b1, mm_lc_lt, mm_lc_le, mm_lc_gt, mm_lc_ge, mm_lc_eq, Int.not_lt, Int.not_le, Decidable.not_not, Int.sub_neg]
  exact h2 (M 31 4 + 1).toNat 0 M (by omega) (fun _ _ => rfl) (fun a a0 a1 => by omega)
def t_Spl_greatest : mmT := fun as M Q => match as with
  | [.inr (.inr o), .inl k] => o = 31 ∧ 0 ≤ k ∧ k ≤ 4 ∧ Q (some (vi (M (35 + k.toNat) 0))) M
  | _ => False
set_option maxHeartbeats 4000000 in
set_option maxRecDepth 100000 in
theorem p_Spl_greatest : ∀ as M Q, (∀ v ∈ as, mm_vin v) → mm_mem M → t_Spl_greatest as M Q → (mm_ent as).length ≤ 2 ∧ mm_ok mb_Spl_greatest [] (mm_entry 2 as) M Q := by
  intro as M Q hin hM h
  unfold t_Spl_greatest at h
  split at h
  rotate_left
  · exact h.elim
  rename_i o k
  have hR_k : mm_R k := hin (vi k) (by simp)
  refine ⟨by simp [mm_ent], (show mm_ok mb_Spl_greatest [] [some (vr o), some (vi k)] M Q from ?_)⟩
  intro J hJ
  obtain ⟨rfl, k0, k1, h⟩ := h
  have hc := c35 k.toNat (by omega)
  repeat' first | (refine And.intro ?_ ?_) | (intro _) | (refine hJ 0 _ _ _ ?_; show mm_wp _ _ _ mo_Spl_greatest_0 _ _ _; simp only [mo_Spl_greatest_0, mm_wp, mm_ldi, mm_lda, mm_ldl, mm_sti, mm_sta, mm_stl, mm_inc, mm_2i, mm_mm, mm_2l, mm_lcmp, mm_i2l, mm_l2i, mm_cast8, mm_if1, mm_if2, mm_cmp, mm_swi, mm_sw, mm_pop1, mm_dup, mm_dup2, mm_geti, mm_geta, mm_puti, mm_iald, mm_bald, mm_aald, mm_iast, mm_bast, mm_alen, mm_acpy, mm_call, mm_callv, mm_recv, mm_pop, mm_find, mm_push, mm_cats, mm_cat, mm_reti, mm_retz, mm_retl, mm_reta, mm_retv, mm_set1, mm_set2, mm_kill, List.getElem?_cons_zero, List.getElem?_cons_succ, Int.reduceToNat, ↓reduceIte, Nat.reduceEqDiff, Nat.reduceDiv, Nat.reduceAdd, Nat.reduceLeDiff, Nat.zero_le, true_and, and_true, true_or, or_true, mm_b0, mm_b1, mm_lc_lt, mm_lc_le, mm_lc_gt, mm_lc_ge, mm_lc_eq, Int.not_lt, Int.not_le, Decidable.not_not, Int.sub_neg, c_0, c_1, c_2, l_2, c_3, c_4, l_4, c_5, l_5, c_6, l_6, c_7, l_7, c_8, c_9, l_9, c_10, l_10, c_11, l_11, c_12, l_12, c_13, c_14, l_14, c_15, l_15, c_16, l_16, c_17, l_17, c_18, c_19, l_19, c_20, l_20, c_21, l_21, c_22, l_22, c_23, c_24, l_24, c_25, l_25, c_26, c_27, c_28, l_28, c_29, c_30, l_30, c_31, c_32, l_32, c_33, l_33, c_34, l_34, c_35, l_35, c_36, l_36, c_37, l_37, c_38, l_38, c_39, l_39, c_40, c_41, l_41, c_42, c_43, c_44, l_44, c_45, c_46, l_46, c_47, c_48, l_48, c_49, l_49, c_50, l_50, c_51, l_51, c_52, l_52, c_53, l_53, c_54, l_54, c_55, l_55, c_56, l_56, c_57, l_57, c_58, l_58, c_59, l_59, c_60, l_60, c_61, l_61, c_62, c_63, l_63, c_64, l_64, c_65, l_65, c_66, l_66, c_67, l_67, c_68, l_68, c_69, l_69, c_70, l_70, c_71, l_71, c_72, l_72, c_73, l_73, c_74, l_74, c_75, l_75, c_76, l_76, hc.1, hc.2]) | (refine hJ 20 _ _ _ ?_; show mm_wp _ _ _ mo_Spl_greatest_20 _ _ _; simp only [mo_Spl_greatest_20, mm_wp, mm_ldi, mm_lda, mm_ldl, mm_sti, mm_sta, mm_stl, mm_inc, mm_2i, mm_mm, mm_2l, mm_lcmp, mm_i2l, mm_l2i, mm_cast8, mm_if1, mm_if2, mm_cmp, mm_swi, mm_sw, mm_pop1, mm_dup, mm_dup2, mm_geti, mm_geta, mm_puti, mm_iald, mm_bald, mm_aald, mm_iast, mm_bast, mm_alen, mm_acpy, mm_call, mm_callv, mm_recv, mm_pop, mm_find, mm_push, mm_cats, mm_cat, mm_reti, mm_retz, mm_retl, mm_reta, mm_retv, mm_set1, mm_set2, mm_kill, List.getElem?_cons_zero, List.getElem?_cons_succ, Int.reduceToNat, ↓reduceIte, Nat.reduceEqDiff, Nat.reduceDiv, Nat.reduceAdd, Nat.reduceLeDiff, Nat.zero_le, true_and, and_true, true_or, or_true, mm_b0, mm_b1, mm_lc_lt, mm_lc_le, mm_lc_gt, mm_lc_ge, mm_lc_eq, Int.not_lt, Int.not_le, Decidable.not_not, Int.sub_neg, c_0, c_1, c_2, l_2, c_3, c_4, l_4, c_5, l_5, c_6, l_6, c_7, l_7, c_8, c_9, l_9, c_10, l_10, c_11, l_11, c_12, l_12, c_13, c_14, l_14, c_15, l_15, c_16, l_16, c_17, l_17, c_18, c_19, l_19, c_20, l_20, c_21, l_21, c_22, l_22, c_23, c_24, l_24, c_25, l_25, c_26, c_27, c_28, l_28, c_29, c_30, l_30, c_31, c_32, l_32, c_33, l_33, c_34, l_34, c_35, l_35, c_36, l_36, c_37, l_37, c_38, l_38, c_39, l_39, c_40, c_41, l_41, c_42, c_43, c_44, l_44, c_45, c_46, l_46, c_47, c_48, l_48, c_49, l_49, c_50, l_50, c_51, l_51, c_52, l_52, c_53, l_53, c_54, l_54, c_55, l_55, c_56, l_56, c_57, l_57, c_58, l_58, c_59, l_59, c_60, l_60, c_61, l_61, c_62, c_63, l_63, c_64, l_64, c_65, l_65, c_66, l_66, c_67, l_67, c_68, l_68, c_69, l_69, c_70, l_70, c_71, l_71, c_72, l_72, c_73, l_73, c_74, l_74, c_75, l_75, c_76, l_76, hc.1, hc.2]) | (refine hJ 21 _ _ _ ?_; show mm_wp _ _ _ mo_Spl_greatest_21 _ _ _; simp only [mo_Spl_greatest_21, mm_wp, mm_ldi, mm_lda, mm_ldl, mm_sti, mm_sta, mm_stl, mm_inc, mm_2i, mm_mm, mm_2l, mm_lcmp, mm_i2l, mm_l2i, mm_cast8, mm_if1, mm_if2, mm_cmp, mm_swi, mm_sw, mm_pop1, mm_dup, mm_dup2, mm_geti, mm_geta, mm_puti, mm_iald, mm_bald, mm_aald, mm_iast, mm_bast, mm_alen, mm_acpy, mm_call, mm_callv, mm_recv, mm_pop, mm_find, mm_push, mm_cats, mm_cat, mm_reti, mm_retz, mm_retl, mm_reta, mm_retv, mm_set1, mm_set2, mm_kill, List.getElem?_cons_zero, List.getElem?_cons_succ, Int.reduceToNat, ↓reduceIte, Nat.reduceEqDiff, Nat.reduceDiv, Nat.reduceAdd, Nat.reduceLeDiff, Nat.zero_le, true_and, and_true, true_or, or_true, mm_b0, mm_b1, mm_lc_lt, mm_lc_le, mm_lc_gt, mm_lc_ge, mm_lc_eq, Int.not_lt, Int.not_le, Decidable.not_not, Int.sub_neg, c_0, c_1, c_2, l_2, c_3, c_4, l_4, c_5, l_5, c_6, l_6, c_7, l_7, c_8, c_9, l_9, c_10, l_10, c_11, l_11, c_12, l_12, c_13, c_14, l_14, c_15, l_15, c_16, l_16, c_17, l_17, c_18, c_19, l_19, c_20, l_20, c_21, l_21, c_22, l_22, c_23, c_24, l_24, c_25, l_25, c_26, c_27, c_28, l_28, c_29, c_30, l_30, c_31, c_32, l_32, c_33, l_33, c_34, l_34, c_35, l_35, c_36, l_36, c_37, l_37, c_38, l_38, c_39, l_39, c_40, c_41, l_41, c_42, c_43, c_44, l_44, c_45, c_46, l_46, c_47, c_48, l_48, c_49, l_49, c_50, l_50, c_51, l_51, c_52, l_52, c_53, l_53, c_54, l_54, c_55, l_55, c_56, l_56, c_57, l_57, c_58, l_58, c_59, l_59, c_60, l_60, c_61, l_61, c_62, c_63, l_63, c_64, l_64, c_65, l_65, c_66, l_66, c_67, l_67, c_68, l_68, c_69, l_69, c_70, l_70, c_71, l_71, c_72, l_72, c_73, l_73, c_74, l_74, c_75, l_75, c_76, l_76, hc.1, hc.2])
  all_goals first | assumption | (exact Or.inl rfl) | (exact Or.inr rfl) | (exact rfl) | trivial | omega
/-- the furthest of k behind a for which g holds -/
noncomputable def fuF (g : Int → Prop) (a : Int) : Nat → Int
  | 0 => a
  | k + 1 => @ite _ (g (a + k + 1)) (Classical.propDecidable _) (a + k + 1) (fuF g a k)
theorem fuF_b (g : Int → Prop) (a : Int) : ∀ k : Nat, a ≤ fuF g a k ∧ fuF g a k ≤ a + k
  | 0 => by simp [fuF]
  | k + 1 => by
    have := fuF_b g a k
    simp only [fuF]
    split <;> omega
theorem fuF_cong {g g' : Int → Prop} {a : Int} : ∀ (k : Nat), (∀ j : Int, a < j → j ≤ a + k → (g j ↔ g' j)) → fuF g a k = fuF g' a k
  | 0, _ => rfl
  | k + 1, h => by
    simp only [fuF]
    rw [fuF_cong k (fun j j0 j1 => h j j0 (by omega))]
    have := h (a + k + 1) (by omega) (by omega)
    by_cases c : g (a + k + 1)
    · rw [if_pos c, if_pos (this.mp c)]
    · rw [if_neg c, if_neg (fun w => c (this.mpr w))]
def t_Spl_furthest : mmT := fun as M Q => match as with
  | [.inr (.inr o), .inl a, .inl hd, .inl lim] => o = 31 ∧ spB M ∧ 0 ≤ hd ∧ hd ≤ 4 ∧ 0 ≤ a ∧ a ≤ M 31 4 ∧ Q (some (vi (fuF (fun j => crW (M 32) (M 33) (M 31 4) a j ≤ lim ∧ M (35 + hd.toNat) j ≤ lim) a (M 31 4 - a).toNat))) M
  | _ => False
set_option maxHeartbeats 4000000 in
set_option maxRecDepth 100000 in
theorem p_Spl_furthest : ∀ as M Q, (∀ v ∈ as, mm_vin v) → mm_mem M → t_Spl_furthest as M Q → (mm_ent as).length ≤ 5 ∧ mm_ok mb_Spl_furthest [(602, t_Spl_costOfRow)] (mm_entry 5 as) M Q := by
  intro as M Q hin hM h
  unfold t_Spl_furthest at h
  split at h
  rotate_left
  · exact h.elim
  rename_i o a hd lim
  have hR_a : mm_R a := hin (vi a) (by simp)
  have hR_hd : mm_R hd := hin (vi hd) (by simp)
  have hR_lim : mm_R lim := hin (vi lim) (by simp)
  refine ⟨by simp [mm_ent], (show mm_ok mb_Spl_furthest [(602, t_Spl_costOfRow)] [some (vr o), some (vi a), some (vi hd), some (vi lim), none] M Q from ?_)⟩
  intro J hJ
  obtain ⟨rfl, hb, h0, h1, a0, a1, h⟩ := h
  have n1 := hb.2.1
  have hc := c35 hd.toNat (by omega)
  have hl : ∀ (k : Nat), (k : Int) + a ≤ M 31 4 → Q (some (vi (fuF (fun j => crW (M 32) (M 33) (M 31 4) a j ≤ lim ∧ M (35 + hd.toNat) j ≤ lim) a k))) M → J 6 [some (vr 31), some (vi a), some (vi hd), some (vi lim), some (vi (a + k))] [] M := by
    intro k
    induction k with
    | zero =>
      intro hk hq
      have h45 : J 45 [some (vr 31), some (vi a), some (vi hd), some (vi lim), some (vi (a + 0))] [] M := by
        refine hJ 45 _ _ _ (show mm_wp _ _ _ mo_Spl_furthest_45 _ _ _ from ?_)
        simp only [mo_Spl_furthest_45, mm_wp, mm_ldi, mm_lda, mm_ldl, mm_sti, mm_sta, mm_stl, mm_inc, mm_2i, mm_mm, mm_2l, mm_lcmp, mm_i2l, mm_l2i, mm_cast8, mm_if1, mm_if2, mm_cmp, mm_swi, mm_sw, mm_pop1, mm_dup, mm_dup2, mm_geti, mm_geta, mm_puti, mm_iald, mm_bald, mm_aald, mm_iast, mm_bast, mm_alen, mm_acpy, mm_call, mm_callv, mm_recv, mm_pop, mm_find, mm_push, mm_cats, mm_cat, mm_reti, mm_retz, mm_retl, mm_reta, mm_retv, mm_set1, mm_set2, mm_kill, List.getElem?_cons_zero, List.getElem?_cons_succ, Int.reduceToNat, ↓reduceIte, Nat.reduceEqDiff, Nat.reduceDiv, Nat.reduceAdd, Nat.reduceLeDiff, Nat.zero_le, true_and, and_true, true_or, or_true, mm_b0, mm_b1, mm_lc_lt, mm_lc_le, mm_lc_gt, mm_lc_ge, mm_lc_eq, Int.not_lt, Int.not_le, Decidable.not_not, Int.sub_neg]
        exact hq
      refine hJ 6 _ _ _ (show mm_wp _ _ _ mo_Spl_furthest_6 _ _ _ from ?_)
      simp only [mo_Spl_furthest_6, mm_wp, mm_ldi, mm_lda, mm_ldl, mm_sti, mm_sta, mm_stl, mm_inc, mm_2i, mm_mm, mm_2l, mm_lcmp, mm_i2l, mm_l2i, mm_cast8, mm_if1, mm_if2, mm_cmp, mm_swi, mm_sw, mm_pop1, mm_dup, mm_dup2, mm_geti, mm_geta, mm_puti, mm_iald, mm_bald, mm_aald, mm_iast, mm_bast, mm_alen, mm_acpy, mm_call, mm_callv, mm_recv, mm_pop, mm_find, mm_push, mm_cats, mm_cat, mm_reti, mm_retz, mm_retl, mm_reta, mm_retv, mm_set1, mm_set2, mm_kill, List.getElem?_cons_zero, List.getElem?_cons_succ, Int.reduceToNat, ↓reduceIte, Nat.reduceEqDiff, Nat.reduceDiv, Nat.reduceAdd, Nat.reduceLeDiff, Nat.zero_le, true_and, and_true, true_or, or_true, mm_b0, mm_b1, mm_lc_lt, mm_lc_le, mm_lc_gt, mm_lc_ge, mm_lc_eq, Int.not_lt, Int.not_le, Decidable.not_not, Int.sub_neg, c_0, c_1, c_2, l_2, c_3, c_4, l_4, c_5, l_5, c_6, l_6, c_7, l_7, c_8, c_9, l_9, c_10, l_10, c_11, l_11, c_12, l_12, c_13, c_14, l_14, c_15, l_15, c_16, l_16, c_17, l_17, c_18, c_19, l_19, c_20, l_20, c_21, l_21, c_22, l_22, c_23, c_24, l_24, c_25, l_25, c_26, c_27, c_28, l_28, c_29, c_30, l_30, c_31, c_32, l_32, c_33, l_33, c_34, l_34, c_35, l_35, c_36, l_36, c_37, l_37, c_38, l_38, c_39, l_39, c_40, c_41, l_41, c_42, c_43, c_44, l_44, c_45, c_46, l_46, c_47, c_48, l_48, c_49, l_49, c_50, l_50, c_51, l_51, c_52, l_52, c_53, l_53, c_54, l_54, c_55, l_55, c_56, l_56, c_57, l_57, c_58, l_58, c_59, l_59, c_60, l_60, c_61, l_61, c_62, c_63, l_63, c_64, l_64, c_65, l_65, c_66, l_66, c_67, l_67, c_68, l_68, c_69, l_69, c_70, l_70, c_71, l_71, c_72, l_72, c_73, l_73, c_74, l_74, c_75, l_75, c_76, l_76]
      exact ⟨fun _ => h45, fun z => by omega⟩
    | succ k ih =>
      intro hk hq
      simp only [fuF] at hq
      have h39 : ¬ (crW (M 32) (M 33) (M 31 4) a (a + k + 1) ≤ lim ∧ M (35 + hd.toNat) (a + k + 1) ≤ lim) → J 39 [some (vr 31), some (vi a), some (vi hd), some (vi lim), some (vi (a + k + 1))] [] M := by
        intro hn
        rw [if_neg hn] at hq
        refine hJ 39 _ _ _ (show mm_wp _ _ _ mo_Spl_furthest_39 _ _ _ from ?_)
        simp only [mo_Spl_furthest_39, mm_wp, mm_ldi, mm_lda, mm_ldl, mm_sti, mm_sta, mm_stl, mm_inc, mm_2i, mm_mm, mm_2l, mm_lcmp, mm_i2l, mm_l2i, mm_cast8, mm_if1, mm_if2, mm_cmp, mm_swi, mm_sw, mm_pop1, mm_dup, mm_dup2, mm_geti, mm_geta, mm_puti, mm_iald, mm_bald, mm_aald, mm_iast, mm_bast, mm_alen, mm_acpy, mm_call, mm_callv, mm_recv, mm_pop, mm_find, mm_push, mm_cats, mm_cat, mm_reti, mm_retz, mm_retl, mm_reta, mm_retv, mm_set1, mm_set2, mm_kill, List.getElem?_cons_zero, List.getElem?_cons_succ, Int.reduceToNat, ↓reduceIte, Nat.reduceEqDiff, Nat.reduceDiv, Nat.reduceAdd, Nat.reduceLeDiff, Nat.zero_le, true_and, and_true, true_or, or_true, mm_b0, mm_b1, mm_lc_lt, mm_lc_le, mm_lc_gt, mm_lc_ge, mm_lc_eq, Int.not_lt, Int.not_le, Decidable.not_not, Int.sub_neg]
        rw [show a + (k : Int) + 1 + -1 = a + k by omega]
        exact ⟨by omega, ih (by omega) hq⟩
      rw [show a + ((k + 1 : Nat) : Int) = a + k + 1 by omega]
      refine hJ 6 _ _ _ (show mm_wp _ _ _ mo_Spl_furthest_6 _ _ _ from ?_)
      simp only [mo_Spl_furthest_6, mm_wp, mm_ldi, mm_lda, mm_ldl, mm_sti, mm_sta, mm_stl, mm_inc, mm_2i, mm_mm, mm_2l, mm_lcmp, mm_i2l, mm_l2i, mm_cast8, mm_if1, mm_if2, mm_cmp, mm_swi, mm_sw, mm_pop1, mm_dup, mm_dup2, mm_geti, mm_geta, mm_puti, mm_iald, mm_bald, mm_aald, mm_iast, mm_bast, mm_alen, mm_acpy, mm_call, mm_callv, mm_recv, mm_pop, mm_find, mm_push, mm_cats, mm_cat, mm_reti, mm_retz, mm_retl, mm_reta, mm_retv, mm_set1, mm_set2, mm_kill, List.getElem?_cons_zero, List.getElem?_cons_succ, Int.reduceToNat, ↓reduceIte, Nat.reduceEqDiff, Nat.reduceDiv, Nat.reduceAdd, Nat.reduceLeDiff, Nat.zero_le, true_and, and_true, true_or, or_true, mm_b0, mm_b1, mm_lc_lt, mm_lc_le, mm_lc_gt, mm_lc_ge, mm_lc_eq, Int.not_lt, Int.not_le, Decidable.not_not, Int.sub_neg, c_0, c_1, c_2, l_2, c_3, c_4, l_4, c_5, l_5, c_6, l_6, c_7, l_7, c_8, c_9, l_9, c_10, l_10, c_11, l_11, c_12, l_12, c_13, c_14, l_14, c_15, l_15, c_16, l_16, c_17, l_17, c_18, c_19, l_19, c_20, l_20, c_21, l_21, c_22, l_22, c_23, c_24, l_24, c_25, l_25, c_26, c_27, c_28, l_28, c_29, c_30, l_30, c_31, c_32, l_32, c_33, l_33, c_34, l_34, c_35, l_35, c_36, l_36, c_37, l_37, c_38, l_38, c_39, l_39, c_40, c_41, l_41, c_42, c_43, c_44, l_44, c_45, c_46, l_46, c_47, c_48, l_48, c_49, l_49, c_50, l_50, c_51, l_51, c_52, l_52, c_53, l_53, c_54, l_54, c_55, l_55, c_56, l_56, c_57, l_57, c_58, l_58, c_59, l_59, c_60, l_60, c_61, l_61, c_62, c_63, l_63, c_64, l_64, c_65, l_65, c_66, l_66, c_67, l_67, c_68, l_68, c_69, l_69, c_70, l_70, c_71, l_71, c_72, l_72, c_73, l_73, c_74, l_74, c_75, l_75, c_76, l_76, t_Spl_costOfRow, hc.1, hc.2]
      refine ⟨fun z => by omega, fun _ => ⟨hb, fun z => h39 (fun w => by omega), fun z => ⟨by omega, by omega, fun z2 => h39 (fun w => by omega), fun z2 => ?_⟩⟩⟩
      rw [if_pos ⟨z, z2⟩] at hq
      exact hq
  refine hJ 0 _ _ _ (show mm_wp _ _ _ mo_Spl_furthest_0 _ _ _ from ?_)
  simp only [mo_Spl_furthest_0, mm_wp, mm_ldi, mm_lda, mm_ldl, mm_sti, mm_sta, mm_stl, mm_inc, mm_2i, mm_mm, mm_2l, mm_lcmp, mm_i2l, mm_l2i, mm_cast8, mm_if1, mm_if2, mm_cmp, mm_swi, mm_sw, mm_pop1, mm_dup, mm_dup2, mm_geti, mm_geta, mm_puti, mm_iald, mm_bald, mm_aald, mm_iast, mm_bast, mm_alen, mm_acpy, mm_call, mm_callv, mm_recv, mm_pop, mm_find, mm_push, mm_cats, mm_cat, mm_reti, mm_retz, mm_retl, mm_reta, mm_retv, mm_set1, mm_set2, mm_kill, List.getElem?_cons_zero, List.getElem?_cons_succ, Int.reduceToNat, ↓reduceIte, Nat.reduceEqDiff, Nat.reduceDiv, Nat.reduceAdd, Nat.reduceLeDiff, Nat.zero_le, true_and, and_true, true_or, or_true, mm_b0, mm_b1, mm_lc_lt, mm_lc_le, mm_lc_gt, mm_lc_ge, mm_lc_eq, Int.not_lt, Int.not_le, Decidable.not_not, Int.sub_neg, c_0, c_1, c_2, l_2, c_3, c_4, l_4, c_5, l_5, c_6, l_6, c_7, l_7, c_8, c_9, l_9, c_10, l_10, c_11, l_11, c_12, l_12, c_13, c_14, l_14, c_15, l_15, c_16, l_16, c_17, l_17, c_18, c_19, l_19, c_20, l_20, c_21, l_21, c_22, l_22, c_23, c_24, l_24, c_25, l_25, c_26, c_27, c_28, l_28, c_29, c_30, l_30, c_31, c_32, l_32, c_33, l_33, c_34, l_34, c_35, l_35, c_36, l_36, c_37, l_37, c_38, l_38, c_39, l_39, c_40, c_41, l_41, c_42, c_43, c_44, l_44, c_45, c_46, l_46, c_47, c_48, l_48, c_49, l_49, c_50, l_50, c_51, l_51, c_52, l_52, c_53, l_53, c_54, l_54, c_55, l_55, c_56, l_56, c_57, l_57, c_58, l_58, c_59, l_59, c_60, l_60, c_61, l_61, c_62, c_63, l_63, c_64, l_64, c_65, l_65, c_66, l_66, c_67, l_67, c_68, l_68, c_69, l_69, c_70, l_70, c_71, l_71, c_72, l_72, c_73, l_73, c_74, l_74, c_75, l_75, c_76, l_76]
  have := hl (M 31 4 - a).toNat (by omega) h
  rw [show a + ((M 31 4 - a).toNat : Int) = M 31 4 by omega] at this
  exact this
/-- where the w-th worker ends, and how many it has -/
noncomputable def shF (c : Int → Int → Int) (L : Nat → Int → Int) (n k lim : Int) : Nat → Int × Int
  | 0 => (0, 0)
  | w + 1 => (fuF (fun j => c (shF c L n k lim w).1 j ≤ lim ∧ L (k - (w + 1)).toNat j ≤ lim) (shF c L n k lim w).1 (n - (shF c L n k lim w).1).toNat, fuF (fun j => c (shF c L n k lim w).1 j ≤ lim ∧ L (k - (w + 1)).toNat j ≤ lim) (shF c L n k lim w).1 (n - (shF c L n k lim w).1).toNat - (shF c L n k lim w).1)
theorem shF_b {c : Int → Int → Int} {L : Nat → Int → Int} {n k lim : Int} (hn : 0 ≤ n) : ∀ w : Nat, 0 ≤ (shF c L n k lim w).1 ∧ (shF c L n k lim w).1 ≤ n ∧ 0 ≤ (shF c L n k lim w).2 ∧ (shF c L n k lim w).2 ≤ n
  | 0 => by simp [shF]; omega
  | w + 1 => by
    have ih := shF_b (c := c) (L := L) (k := k) (lim := lim) hn w
    have := fuF_b (fun j => c (shF c L n k lim w).1 j ≤ lim ∧ L (k - (w + 1)).toNat j ≤ lim) (shF c L n k lim w).1 (n - (shF c L n k lim w).1).toNat
    simp only [shF]
    omega
def t_Spl_share : mmT := fun as M Q => match as with
  | [.inr (.inr o), .inl k, .inl wk] => o = 31 ∧ spB M ∧ 1 ≤ k ∧ k ≤ 4 ∧ 1 ≤ wk ∧ wk ≤ k ∧ Q (some (vi (shF (crW (M 32) (M 33) (M 31 4)) (fun h j => M (35 + h) j) (M 31 4) k (M (35 + k.toNat) 0) wk.toNat).2)) M
  | _ => False
set_option maxHeartbeats 4000000 in
set_option maxRecDepth 100000 in
theorem p_Spl_share : ∀ as M Q, (∀ v ∈ as, mm_vin v) → mm_mem M → t_Spl_share as M Q → (mm_ent as).length ≤ 8 ∧ mm_ok mb_Spl_share [(605, t_Spl_greatest), (607, t_Spl_furthest)] (mm_entry 8 as) M Q := by
  intro as M Q hin hM h
  unfold t_Spl_share at h
  split at h
  rotate_left
  · exact h.elim
  rename_i o k wk
  have hR_k : mm_R k := hin (vi k) (by simp)
  have hR_wk : mm_R wk := hin (vi wk) (by simp)
  refine ⟨by simp [mm_ent], (show mm_ok mb_Spl_share [(605, t_Spl_greatest), (607, t_Spl_furthest)] [some (vr o), some (vi k), some (vi wk), none, none, none, none, none] M Q from ?_)⟩
  intro J hJ
  obtain ⟨rfl, hb, k0, k1, w0, w1, h⟩ := h
  have n0 := hb.1
  have n1 := hb.2.1
  generalize hS : shF (crW (M 32) (M 33) (M 31 4)) (fun h j => M (35 + h) j) (M 31 4) k (M (35 + k.toNat) 0) = S at h
  have hSb : ∀ w, _ := fun w => shF_b (c := crW (M 32) (M 33) (M 31 4)) (L := fun h j => M (35 + h) j) (k := k) (lim := M (35 + k.toNat) 0) n0 w
  have hSs : ∀ w : Nat, S (w + 1) = (fuF (fun j => crW (M 32) (M 33) (M 31 4) (S w).1 j ≤ M (35 + k.toNat) 0 ∧ M (35 + (k - (w + 1)).toNat) j ≤ M (35 + k.toNat) 0) (S w).1 (M 31 4 - (S w).1).toNat, fuF (fun j => crW (M 32) (M 33) (M 31 4) (S w).1 j ≤ M (35 + k.toNat) 0 ∧ M (35 + (k - (w + 1)).toNat) j ≤ M (35 + k.toNat) 0) (S w).1 (M 31 4 - (S w).1).toNat - (S w).1) := by
    intro w
    rw [← hS]
    rfl
  rw [hS] at hSb
  have hl : ∀ (d w : Nat) (x7 : Option mmV), (w : Int) + d = wk → J 15 [some (vr 31), some (vi k), some (vi wk), some (vi (M (35 + k.toNat) 0)), some (vi (S w).1), some (vi (S w).2), some (vi (w + 1)), x7] [] M := by
    intro d
    induction d with
    | zero =>
      intro w x7 hw
      have h57 : J 57 [some (vr 31), some (vi k), some (vi wk), some (vi (M (35 + k.toNat) 0)), some (vi (S w).1), some (vi (S w).2), some (vi (w + 1)), x7] [] M := by
        refine hJ 57 _ _ _ (show mm_wp _ _ _ mo_Spl_share_57 _ _ _ from ?_)
        simp only [mo_Spl_share_57, mm_wp, mm_ldi, mm_lda, mm_ldl, mm_sti, mm_sta, mm_stl, mm_inc, mm_2i, mm_mm, mm_2l, mm_lcmp, mm_i2l, mm_l2i, mm_cast8, mm_if1, mm_if2, mm_cmp, mm_swi, mm_sw, mm_pop1, mm_dup, mm_dup2, mm_geti, mm_geta, mm_puti, mm_iald, mm_bald, mm_aald, mm_iast, mm_bast, mm_alen, mm_acpy, mm_call, mm_callv, mm_recv, mm_pop, mm_find, mm_push, mm_cats, mm_cat, mm_reti, mm_retz, mm_retl, mm_reta, mm_retv, mm_set1, mm_set2, mm_kill, List.getElem?_cons_zero, List.getElem?_cons_succ, Int.reduceToNat, ↓reduceIte, Nat.reduceEqDiff, Nat.reduceDiv, Nat.reduceAdd, Nat.reduceLeDiff, Nat.zero_le, true_and, and_true, true_or, or_true, mm_b0, mm_b1, mm_lc_lt, mm_lc_le, mm_lc_gt, mm_lc_ge, mm_lc_eq, Int.not_lt, Int.not_le, Decidable.not_not, Int.sub_neg]
        rw [show w = wk.toNat by omega]
        exact h
      refine hJ 15 _ _ _ (show mm_wp _ _ _ mo_Spl_share_15 _ _ _ from ?_)
      simp only [mo_Spl_share_15, mm_wp, mm_ldi, mm_lda, mm_ldl, mm_sti, mm_sta, mm_stl, mm_inc, mm_2i, mm_mm, mm_2l, mm_lcmp, mm_i2l, mm_l2i, mm_cast8, mm_if1, mm_if2, mm_cmp, mm_swi, mm_sw, mm_pop1, mm_dup, mm_dup2, mm_geti, mm_geta, mm_puti, mm_iald, mm_bald, mm_aald, mm_iast, mm_bast, mm_alen, mm_acpy, mm_call, mm_callv, mm_recv, mm_pop, mm_find, mm_push, mm_cats, mm_cat, mm_reti, mm_retz, mm_retl, mm_reta, mm_retv, mm_set1, mm_set2, mm_kill, List.getElem?_cons_zero, List.getElem?_cons_succ, Int.reduceToNat, ↓reduceIte, Nat.reduceEqDiff, Nat.reduceDiv, Nat.reduceAdd, Nat.reduceLeDiff, Nat.zero_le, true_and, and_true, true_or, or_true, mm_b0, mm_b1, mm_lc_lt, mm_lc_le, mm_lc_gt, mm_lc_ge, mm_lc_eq, Int.not_lt, Int.not_le, Decidable.not_not, Int.sub_neg]
      exact ⟨fun _ => h57, fun z => by omega⟩
    | succ d ih =>
      intro w x7 hw
      have b1 := hSb w
      have b2 := hSb (w + 1)
      have e := hSs w
      have e1 := congrArg Prod.fst e
      dsimp only at e1
      have e2 : (S (w + 1)).2 = (S (w + 1)).1 - (S w).1 := by rw [e]
      refine hJ 15 _ _ _ (show mm_wp _ _ _ mo_Spl_share_15 _ _ _ from ?_)
      simp only [mo_Spl_share_15, mm_wp, mm_ldi, mm_lda, mm_ldl, mm_sti, mm_sta, mm_stl, mm_inc, mm_2i, mm_mm, mm_2l, mm_lcmp, mm_i2l, mm_l2i, mm_cast8, mm_if1, mm_if2, mm_cmp, mm_swi, mm_sw, mm_pop1, mm_dup, mm_dup2, mm_geti, mm_geta, mm_puti, mm_iald, mm_bald, mm_aald, mm_iast, mm_bast, mm_alen, mm_acpy, mm_call, mm_callv, mm_recv, mm_pop, mm_find, mm_push, mm_cats, mm_cat, mm_reti, mm_retz, mm_retl, mm_reta, mm_retv, mm_set1, mm_set2, mm_kill, List.getElem?_cons_zero, List.getElem?_cons_succ, Int.reduceToNat, ↓reduceIte, Nat.reduceEqDiff, Nat.reduceDiv, Nat.reduceAdd, Nat.reduceLeDiff, Nat.zero_le, true_and, and_true, true_or, or_true, mm_b0, mm_b1, mm_lc_lt, mm_lc_le, mm_lc_gt, mm_lc_ge, mm_lc_eq, Int.not_lt, Int.not_le, Decidable.not_not, Int.sub_neg, c_0, c_1, c_2, l_2, c_3, c_4, l_4, c_5, l_5, c_6, l_6, c_7, l_7, c_8, c_9, l_9, c_10, l_10, c_11, l_11, c_12, l_12, c_13, c_14, l_14, c_15, l_15, c_16, l_16, c_17, l_17, c_18, c_19, l_19, c_20, l_20, c_21, l_21, c_22, l_22, c_23, c_24, l_24, c_25, l_25, c_26, c_27, c_28, l_28, c_29, c_30, l_30, c_31, c_32, l_32, c_33, l_33, c_34, l_34, c_35, l_35, c_36, l_36, c_37, l_37, c_38, l_38, c_39, l_39, c_40, c_41, l_41, c_42, c_43, c_44, l_44, c_45, c_46, l_46, c_47, c_48, l_48, c_49, l_49, c_50, l_50, c_51, l_51, c_52, l_52, c_53, l_53, c_54, l_54, c_55, l_55, c_56, l_56, c_57, l_57, c_58, l_58, c_59, l_59, c_60, l_60, c_61, l_61, c_62, c_63, l_63, c_64, l_64, c_65, l_65, c_66, l_66, c_67, l_67, c_68, l_68, c_69, l_69, c_70, l_70, c_71, l_71, c_72, l_72, c_73, l_73, c_74, l_74, c_75, l_75, c_76, l_76, t_Spl_furthest]
      refine ⟨fun z => by omega, fun _ => ⟨fun z => by omega, fun _ => ⟨by omega, hb, by omega, by omega, by omega, by omega, ?_⟩⟩⟩
      rw [← e1, ← e2]
      exact ⟨by omega, by omega, ih (w + 1) (some (vi (S (w + 1)).1)) (by omega)⟩
  refine hJ 0 _ _ _ (show mm_wp _ _ _ mo_Spl_share_0 _ _ _ from ?_)
  simp only [mo_Spl_share_0, mm_wp, mm_ldi, mm_lda, mm_ldl, mm_sti, mm_sta, mm_stl, mm_inc, mm_2i, mm_mm, mm_2l, mm_lcmp, mm_i2l, mm_l2i, mm_cast8, mm_if1, mm_if2, mm_cmp, mm_swi, mm_sw, mm_pop1, mm_dup, mm_dup2, mm_geti, mm_geta, mm_puti, mm_iald, mm_bald, mm_aald, mm_iast, mm_bast, mm_alen, mm_acpy, mm_call, mm_callv, mm_recv, mm_pop, mm_find, mm_push, mm_cats, mm_cat, mm_reti, mm_retz, mm_retl, mm_reta, mm_retv, mm_set1, mm_set2, mm_kill, List.getElem?_cons_zero, List.getElem?_cons_succ, Int.reduceToNat, ↓reduceIte, Nat.reduceEqDiff, Nat.reduceDiv, Nat.reduceAdd, Nat.reduceLeDiff, Nat.zero_le, true_and, and_true, true_or, or_true, mm_b0, mm_b1, mm_lc_lt, mm_lc_le, mm_lc_gt, mm_lc_ge, mm_lc_eq, Int.not_lt, Int.not_le, Decidable.not_not, Int.sub_neg, c_0, c_1, c_2, l_2, c_3, c_4, l_4, c_5, l_5, c_6, l_6, c_7, l_7, c_8, c_9, l_9, c_10, l_10, c_11, l_11, c_12, l_12, c_13, c_14, l_14, c_15, l_15, c_16, l_16, c_17, l_17, c_18, c_19, l_19, c_20, l_20, c_21, l_21, c_22, l_22, c_23, c_24, l_24, c_25, l_25, c_26, c_27, c_28, l_28, c_29, c_30, l_30, c_31, c_32, l_32, c_33, l_33, c_34, l_34, c_35, l_35, c_36, l_36, c_37, l_37, c_38, l_38, c_39, l_39, c_40, c_41, l_41, c_42, c_43, c_44, l_44, c_45, c_46, l_46, c_47, c_48, l_48, c_49, l_49, c_50, l_50, c_51, l_51, c_52, l_52, c_53, l_53, c_54, l_54, c_55, l_55, c_56, l_56, c_57, l_57, c_58, l_58, c_59, l_59, c_60, l_60, c_61, l_61, c_62, c_63, l_63, c_64, l_64, c_65, l_65, c_66, l_66, c_67, l_67, c_68, l_68, c_69, l_69, c_70, l_70, c_71, l_71, c_72, l_72, c_73, l_73, c_74, l_74, c_75, l_75, c_76, l_76, t_Spl_greatest]
  have := hl wk.toNat 0 none (by omega)
  rw [show S 0 = (0, 0) by rw [← hS]; rfl] at this
  exact ⟨by omega, by omega, this⟩
theorem crW_cong {an on an' on' : Int → Int} {n : Int} (h : ∀ i, 0 ≤ i → i < n → an i = an' i ∧ on i = on' i) : crW an on n = crW an' on' n := by
  funext a b
  unfold crW
  by_cases c : a < 0 ∨ b ≤ a ∨ n < b
  · rw [if_pos c, if_pos c]
  · rw [if_neg c, if_neg c, (h a (by omega) (by omega)).1, (h a (by omega) (by omega)).2, (h (b - 1) (by omega) (by omega)).2]
theorem shF_cong {c : Int → Int → Int} {L L' : Nat → Int → Int} {n k lim : Int} (hn : 0 ≤ n) (h : ∀ (w : Nat) (a : Int), (w : Int) ≤ k → 0 ≤ a → a ≤ n → L w a = L' w a) : ∀ w : Nat, (w : Int) ≤ k → shF c L n k lim w = shF c L' n k lim w
  | 0, _ => rfl
  | w + 1, hw => by
    have b := shF_b (c := c) (L := L') (k := k) (lim := lim) hn w
    simp only [shF]
    rw [shF_cong hn h w (by omega)]
    rw [fuF_cong _ (fun j j0 j1 => by rw [h (k - (w + 1)).toNat j (by omega) (by omega) (by omega)])]
/-- the cost of a row of the plan, from a up to b -/
def crF (f l t P : Int → Int) (n w : Int) : Int → Int → Int := crW (anW f l t P w) (fun i => coF f l t P (i + 1) w) n
/-- what split(k, what) answers -/
noncomputable def spF (I : Int) (c : Int → Int → Int) (n k what : Int) : Int := if what = 0 then lsF I c n k.toNat 0 else (shF c (lsF I c n) n k (lsF I c n k.toNat 0) what.toNat).2
def t_P_split : mmT := fun as M Q => match as with
  | [.inr (.inr o), .inl k, .inl w] => o = 0 ∧ rwI M ∧ quI M 24 ∧ seI M ∧ (¬ (1 ≤ k ∧ k ≤ 4 ∧ 0 ≤ w ∧ w ≤ k) → Q (some (vi (-1))) M) ∧ ((1 ≤ k ∧ k ≤ 4 ∧ 0 ≤ w ∧ w ≤ k) → ∀ M' P n, (∀ o', o' < 26 ∨ 41 < o' → M' o' = M o') → isOrd (sPl M 18 (-1)) (kyf M 18 (M 0 10) (M 0 11)) P n → n ≤ 24 → Q (some (vi (spF 1000000000 (crF (M 20) (M 21) (M 22) P n (M 0 9)) n k w))) M')
  | _ => False
set_option maxHeartbeats 4000000 in
set_option maxRecDepth 100000 in
theorem p_P_split : ∀ as M Q, (∀ v ∈ as, mm_vin v) → mm_mem M → t_P_split as M Q → (mm_ent as).length ≤ 3 ∧ mm_ok mb_P_split [(101, t_Plan_lay), (601, t_Spl_measure), (603, t_Spl_solve), (605, t_Spl_greatest), (606, t_Spl_share)] (mm_entry 3 as) M Q := by
  intro as M Q hin hM h
  unfold t_P_split at h
  split at h
  rotate_left
  · exact h.elim
  rename_i o k w
  have hR_k : mm_R k := hin (vi k) (by simp)
  have hR_w : mm_R w := hin (vi w) (by simp)
  refine ⟨by simp [mm_ent], (show mm_ok mb_P_split [(101, t_Plan_lay), (601, t_Spl_measure), (603, t_Spl_solve), (605, t_Spl_greatest), (606, t_Spl_share)] [some (vr o), some (vi k), some (vi w)] M Q from ?_)⟩
  intro J hJ
  obtain ⟨rfl, hr, hq, hs, hN, hY⟩ := h
  have hq25 : quI M 25 := ⟨hq.1, by have := hq.2.1; omega, hq.2.2⟩
  have hB := quB hr hq25
  have hq24 := hq.2.1
  have hs2 := hs
  unfold seI at hs2
  have h19 : ¬ (1 ≤ k ∧ k ≤ 4 ∧ 0 ≤ w ∧ w ≤ k) → J 19 [some (vr 0), some (vi k), some (vi w)] [] M := by
    intro hk
    refine hJ 19 _ _ _ (show mm_wp _ _ _ mo_P_split_19 _ _ _ from ?_)
    simp only [mo_P_split_19, mm_wp, mm_ldi, mm_lda, mm_ldl, mm_sti, mm_sta, mm_stl, mm_inc, mm_2i, mm_mm, mm_2l, mm_lcmp, mm_i2l, mm_l2i, mm_cast8, mm_if1, mm_if2, mm_cmp, mm_swi, mm_sw, mm_pop1, mm_dup, mm_dup2, mm_geti, mm_geta, mm_puti, mm_iald, mm_bald, mm_aald, mm_iast, mm_bast, mm_alen, mm_acpy, mm_call, mm_callv, mm_recv, mm_pop, mm_find, mm_push, mm_cats, mm_cat, mm_reti, mm_retz, mm_retl, mm_reta, mm_retv, mm_set1, mm_set2, mm_kill, List.getElem?_cons_zero, List.getElem?_cons_succ, Int.reduceToNat, ↓reduceIte, Nat.reduceEqDiff, Nat.reduceDiv, Nat.reduceAdd, Nat.reduceLeDiff, Nat.zero_le, true_and, and_true, true_or, or_true, mm_b0, mm_b1, mm_lc_lt, mm_lc_le, mm_lc_gt, mm_lc_ge, mm_lc_eq, Int.not_lt, Int.not_le, Decidable.not_not, Int.sub_neg]
    exact hN hk
  have h21 : (1 ≤ k ∧ k ≤ 4 ∧ 0 ≤ w ∧ w ≤ k) → J 21 [some (vr 0), some (vi k), some (vi w)] [] M := by
    intro hk
    refine hJ 21 _ _ _ (show mm_wp _ _ _ mo_P_split_21 _ _ _ from ?_)
    simp only [mo_P_split_21, mm_wp, mm_ldi, mm_lda, mm_ldl, mm_sti, mm_sta, mm_stl, mm_inc, mm_2i, mm_mm, mm_2l, mm_lcmp, mm_i2l, mm_l2i, mm_cast8, mm_if1, mm_if2, mm_cmp, mm_swi, mm_sw, mm_pop1, mm_dup, mm_dup2, mm_geti, mm_geta, mm_puti, mm_iald, mm_bald, mm_aald, mm_iast, mm_bast, mm_alen, mm_acpy, mm_call, mm_callv, mm_recv, mm_pop, mm_find, mm_push, mm_cats, mm_cat, mm_reti, mm_retz, mm_retl, mm_reta, mm_retv, mm_set1, mm_set2, mm_kill, List.getElem?_cons_zero, List.getElem?_cons_succ, Int.reduceToNat, ↓reduceIte, Nat.reduceEqDiff, Nat.reduceDiv, Nat.reduceAdd, Nat.reduceLeDiff, Nat.zero_le, true_and, and_true, true_or, or_true, mm_b0, mm_b1, mm_lc_lt, mm_lc_le, mm_lc_gt, mm_lc_ge, mm_lc_eq, Int.not_lt, Int.not_le, Decidable.not_not, Int.sub_neg, c_0, c_1, c_2, l_2, c_3, c_4, l_4, c_5, l_5, c_6, l_6, c_7, l_7, c_8, c_9, l_9, c_10, l_10, c_11, l_11, c_12, l_12, c_13, c_14, l_14, c_15, l_15, c_16, l_16, c_17, l_17, c_18, c_19, l_19, c_20, l_20, c_21, l_21, c_22, l_22, c_23, c_24, l_24, c_25, l_25, c_26, c_27, c_28, l_28, c_29, c_30, l_30, c_31, c_32, l_32, c_33, l_33, c_34, l_34, c_35, l_35, c_36, l_36, c_37, l_37, c_38, l_38, c_39, l_39, c_40, c_41, l_41, c_42, c_43, c_44, l_44, c_45, c_46, l_46, c_47, c_48, l_48, c_49, l_49, c_50, l_50, c_51, l_51, c_52, l_52, c_53, l_53, c_54, l_54, c_55, l_55, c_56, l_56, c_57, l_57, c_58, l_58, c_59, l_59, c_60, l_60, c_61, l_61, c_62, c_63, l_63, c_64, l_64, c_65, l_65, c_66, l_66, c_67, l_67, c_68, l_68, c_69, l_69, c_70, l_70, c_71, l_71, c_72, l_72, c_73, l_73, c_74, l_74, c_75, l_75, c_76, l_76, t_Plan_lay, t_Spl_measure, t_Spl_solve, t_Spl_greatest]
    refine ⟨isPl26, isQ18, hB, by decide, by omega, by omega, by omega, by omega, fun M1 f1 n1 k1 => ?_⟩
    have e18 : M1 18 = M 18 := f1 18 (by decide) (by decide)
    have e20 : M1 20 = M 20 := f1 20 (by decide) (by decide)
    have e21 : M1 21 = M 21 := f1 21 (by decide) (by decide)
    have e22 : M1 22 = M 22 := f1 22 (by decide) (by decide)
    have e0 : M1 0 = M 0 := f1 0 (by decide) (by decide)
    have fl : ∀ o, o < 26 → M1 o = M o := fun o ho => f1 o (by omega) (by omega)
    have hB1 : qB M1 18 := qB_c fl hB
    have hP := plB_of k1 n1 hB.2.1 e18
    have hsb := st_b hB1 hP
    have hn := hP.1
    rw [e0, e20, e21, e22]
    refine ⟨hB1, hP, by omega, by omega, by omega, fun M2 f2 a4 hv => ?_⟩
    have hB3 : ∀ q, 0 ≤ q → q < M1 18 4 → 0 ≤ M1 20 q ∧ M1 20 q < 60 ∧ 0 ≤ M1 21 q ∧ M1 21 q < 60 ∧ 0 ≤ M1 22 q ∧ M1 22 q ≤ 32 := hB1.2.2
    have hb2 : spB M2 := by
      unfold spB
      rw [a4]
      refine ⟨hn, by omega, fun i i0 i1 => ?_⟩
      obtain ⟨v1, v2⟩ := hv i i0 i1
      rw [v1, v2]
      have hp := hP.2.2 i i0 i1
      have hx := hB3 _ hp.1 hp.2
      have hz := hsb (i + 1).toNat (by omega)
      rw [e20, e21, e22] at hx hz
      have m1 := mul_b (a := M 0 9) (b := sN (stU (M 22) (plP M1)) (i + 1).toNat) (A := 9) (B := 2400) (by omega) (by omega) (by omega) (by omega)
      have m2 := mul_b (a := M 0 9) (b := dA 0 (M 22 (plP M1 i))) (A := 9) (B := 32) (by omega) (by omega) (by unfold dA plP; omega) (by unfold dA plP; omega)
      unfold coF anW
      have : 0 ≤ dA 0 (M 20 (plP M1 i)) ∧ dA 0 (M 20 (plP M1 i)) ≤ 60 ∧ 0 ≤ dA (-1) (M 21 (plP M1 i)) ∧ dA (-1) (M 21 (plP M1 i)) ≤ 61 := by unfold dA plP; omega
      omega
    refine ⟨hb2, by omega, by omega, fun M3 f3 hL => ?_⟩
    have eC : crW (M2 32) (M2 33) (M2 31 4) = crF (M 20) (M 21) (M 22) (plP M1) (M1 27 1) (M 0 9) := by
      unfold crF
      rw [a4]
      exact crW_cong hv
    rw [eC, a4] at hL
    have hq := hY hk M3 (plP M1) (M1 27 1) (fun o' c => by rw [f3 o' (by omega), f2 o' (by omega), f1 o' (by omega) (by omega)]) k1.1 (by omega)
    unfold spF at hq
    have h92 : ∀ z, Q (some (vi z)) M3 → J 92 [some (vr 0), some (vi k), some (vi w)] [vi z] M3 := by
      intro z hz
      refine hJ 92 _ _ _ (show mm_wp _ _ _ mo_P_split_92 _ _ _ from ?_)
      simp only [mo_P_split_92, mm_wp, mm_ldi, mm_lda, mm_ldl, mm_sti, mm_sta, mm_stl, mm_inc, mm_2i, mm_mm, mm_2l, mm_lcmp, mm_i2l, mm_l2i, mm_cast8, mm_if1, mm_if2, mm_cmp, mm_swi, mm_sw, mm_pop1, mm_dup, mm_dup2, mm_geti, mm_geta, mm_puti, mm_iald, mm_bald, mm_aald, mm_iast, mm_bast, mm_alen, mm_acpy, mm_call, mm_callv, mm_recv, mm_pop, mm_find, mm_push, mm_cats, mm_cat, mm_reti, mm_retz, mm_retl, mm_reta, mm_retv, mm_set1, mm_set2, mm_kill, List.getElem?_cons_zero, List.getElem?_cons_succ, Int.reduceToNat, ↓reduceIte, Nat.reduceEqDiff, Nat.reduceDiv, Nat.reduceAdd, Nat.reduceLeDiff, Nat.zero_le, true_and, and_true, true_or, or_true, mm_b0, mm_b1, mm_lc_lt, mm_lc_le, mm_lc_gt, mm_lc_ge, mm_lc_eq, Int.not_lt, Int.not_le, Decidable.not_not, Int.sub_neg]
      exact hz
    have h83 : ¬ w = 0 → J 83 [some (vr 0), some (vi k), some (vi w)] [] M3 := by
      intro hw
      rw [if_neg hw] at hq
      refine hJ 83 _ _ _ (show mm_wp _ _ _ mo_P_split_83 _ _ _ from ?_)
      simp only [mo_P_split_83, mm_wp, mm_ldi, mm_lda, mm_ldl, mm_sti, mm_sta, mm_stl, mm_inc, mm_2i, mm_mm, mm_2l, mm_lcmp, mm_i2l, mm_l2i, mm_cast8, mm_if1, mm_if2, mm_cmp, mm_swi, mm_sw, mm_pop1, mm_dup, mm_dup2, mm_geti, mm_geta, mm_puti, mm_iald, mm_bald, mm_aald, mm_iast, mm_bast, mm_alen, mm_acpy, mm_call, mm_callv, mm_recv, mm_pop, mm_find, mm_push, mm_cats, mm_cat, mm_reti, mm_retz, mm_retl, mm_reta, mm_retv, mm_set1, mm_set2, mm_kill, List.getElem?_cons_zero, List.getElem?_cons_succ, Int.reduceToNat, ↓reduceIte, Nat.reduceEqDiff, Nat.reduceDiv, Nat.reduceAdd, Nat.reduceLeDiff, Nat.zero_le, true_and, and_true, true_or, or_true, mm_b0, mm_b1, mm_lc_lt, mm_lc_le, mm_lc_gt, mm_lc_ge, mm_lc_eq, Int.not_lt, Int.not_le, Decidable.not_not, Int.sub_neg, c_0, c_1, c_2, l_2, c_3, c_4, l_4, c_5, l_5, c_6, l_6, c_7, l_7, c_8, c_9, l_9, c_10, l_10, c_11, l_11, c_12, l_12, c_13, c_14, l_14, c_15, l_15, c_16, l_16, c_17, l_17, c_18, c_19, l_19, c_20, l_20, c_21, l_21, c_22, l_22, c_23, c_24, l_24, c_25, l_25, c_26, c_27, c_28, l_28, c_29, c_30, l_30, c_31, c_32, l_32, c_33, l_33, c_34, l_34, c_35, l_35, c_36, l_36, c_37, l_37, c_38, l_38, c_39, l_39, c_40, c_41, l_41, c_42, c_43, c_44, l_44, c_45, c_46, l_46, c_47, c_48, l_48, c_49, l_49, c_50, l_50, c_51, l_51, c_52, l_52, c_53, l_53, c_54, l_54, c_55, l_55, c_56, l_56, c_57, l_57, c_58, l_58, c_59, l_59, c_60, l_60, c_61, l_61, c_62, c_63, l_63, c_64, l_64, c_65, l_65, c_66, l_66, c_67, l_67, c_68, l_68, c_69, l_69, c_70, l_70, c_71, l_71, c_72, l_72, c_73, l_73, c_74, l_74, c_75, l_75, c_76, l_76, t_Spl_share]
      refine ⟨spB_c (fun o' c => f3 o' (by omega)) hb2, by omega, by omega, by omega, by omega, h92 _ ?_⟩
      rw [f3 31 (by decide), f3 32 (by decide), f3 33 (by decide), eC, a4, hL k.toNat 0 (by omega) (by omega) (by omega), shF_cong (L' := lsF 1000000000 (crF (M 20) (M 21) (M 22) (plP M1) (M1 27 1) (M 0 9)) (M1 27 1)) hn (fun w a c1 c2 c3 => hL w a c1 c2 c3) _ (by omega)]
      exact hq
    refine ⟨fun z => h83 z, fun z => ⟨by omega, by omega, h92 _ ?_⟩⟩
    rw [if_pos z] at hq
    rw [hL k.toNat 0 (by omega) (by omega) (by omega)]
    exact hq
  refine hJ 0 _ _ _ (show mm_wp _ _ _ mo_P_split_0 _ _ _ from ?_)
  simp only [mo_P_split_0, mm_wp, mm_ldi, mm_lda, mm_ldl, mm_sti, mm_sta, mm_stl, mm_inc, mm_2i, mm_mm, mm_2l, mm_lcmp, mm_i2l, mm_l2i, mm_cast8, mm_if1, mm_if2, mm_cmp, mm_swi, mm_sw, mm_pop1, mm_dup, mm_dup2, mm_geti, mm_geta, mm_puti, mm_iald, mm_bald, mm_aald, mm_iast, mm_bast, mm_alen, mm_acpy, mm_call, mm_callv, mm_recv, mm_pop, mm_find, mm_push, mm_cats, mm_cat, mm_reti, mm_retz, mm_retl, mm_reta, mm_retv, mm_set1, mm_set2, mm_kill, List.getElem?_cons_zero, List.getElem?_cons_succ, Int.reduceToNat, ↓reduceIte, Nat.reduceEqDiff, Nat.reduceDiv, Nat.reduceAdd, Nat.reduceLeDiff, Nat.zero_le, true_and, and_true, true_or, or_true, mm_b0, mm_b1, mm_lc_lt, mm_lc_le, mm_lc_gt, mm_lc_ge, mm_lc_eq, Int.not_lt, Int.not_le, Decidable.not_not, Int.sub_neg]
  exact ⟨fun z => h19 (by omega), fun _ => ⟨fun z => h19 (by omega), fun _ => ⟨fun z => h19 (by omega), fun _ => ⟨fun z => h21 (by omega), fun z => h19 (by omega)⟩⟩⟩⟩
