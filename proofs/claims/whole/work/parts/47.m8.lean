/-! the reference: along the plan, costs -/
def plG (M M' : mmM) : Prop := (∀ o', o' ≠ 62 → o' ≠ 75 → M' o' = M o') ∧ ∀ j, j ≠ 0 → j ≠ 33 → j ≠ 35 → j ≠ 36 → j ≠ 37 → M' 62 j = M 62 j
theorem plG_rf (M : mmM) : plG M M := ⟨fun _ _ _ => rfl, fun _ _ _ _ _ _ => rfl⟩
theorem plG_tr {A B C : mmM} (h1 : plG A B) (h2 : plG B C) : plG A C := ⟨fun o' a b => by rw [h2.1 o' a b, h1.1 o' a b], fun j a b c d e => by rw [h2.2 j a b c d e, h1.2 j a b c d e]⟩
theorem plG_tz (M : mmM) : plG M (tz M) := ⟨fun o' a _ => tz_o M a, fun j a _ _ _ _ => tz_i M a⟩
theorem plG_F {M M' : mmM} (h : plF M M') : plG M M' := ⟨h.1, fun j _ b _ _ _ => h.2 j b⟩
theorem plG_v {M M' : mmM} (h : plG M M') : M' 62 8 = M 62 8 ∧ mk M' = mk M ∧ mf M' = mf M ∧ ml M' = ml M ∧ mt M' = mt M := by
  have e67 := h.1 67 (by decide) (by decide)
  refine ⟨h.2 8 (by decide) (by decide) (by decide) (by decide) (by decide), ?_, ?_, ?_, ?_⟩
  · unfold mk; rw [e67]
  · unfold mf; rw [e67]
  · unfold ml; rw [e67]
  · unfold mt; rw [e67]
theorem plG_B {M M' : mmM} (h : plG M M') (hB : mqB M) : mqB M' := by
  obtain ⟨a, b, c, d, e⟩ := plG_v h
  unfold mqB
  rw [a, c, d, e]
  exact hB
theorem plG_w {M M' : mmM} (h : plG M M') (ord b : Int) : mwt M' ord b = mwt M ord b := by
  obtain ⟨a, bb, c, d, e⟩ := plG_v h
  funext q
  unfold mwt
  rw [c, d, e]
theorem plG_S {M M' : mmM} (h : plG M M') (wo : Int) : mS M' wo = mS M wo := by
  obtain ⟨a, bb, c, d, e⟩ := plG_v h
  funext q
  unfold mS
  rw [a, bb]
theorem al_b {f l t P : Int → Int} {n : Nat} (h : ∀ i : Nat, i < n → 0 ≤ f (P i) ∧ f (P i) < 60 ∧ 0 ≤ l (P i) ∧ l (P i) < 60 ∧ 0 ≤ t (P i) ∧ t (P i) ≤ 32) : ∀ k : Nat, k < n → 0 ≤ stE f l P k ∧ stE f l P k ≤ 200 ∧ 0 ≤ stU t P k ∧ stU t P k ≤ 100 := by
  intro k hk
  have a := h k hk
  unfold stE stU dA
  cases k with
  | zero =>
    have e1 : pv f P 0 ((0 : Nat) : Int) = 0 := rfl
    have e2 : pv l P (-1) ((0 : Nat) : Int) = -1 := rfl
    have e3 : pv t P 0 ((0 : Nat) : Int) = 0 := rfl
    rw [e1, e2, e3]
    omega
  | succ k =>
    have b := h k (by omega)
    rw [pv_s, pv_s, pv_s]
    omega
theorem al_s {f l t P : Int → Int} {n : Nat} (h : ∀ i : Nat, i < n → 0 ≤ f (P i) ∧ f (P i) < 60 ∧ 0 ≤ l (P i) ∧ l (P i) < 60 ∧ 0 ≤ t (P i) ∧ t (P i) ≤ 32) : ∀ k : Nat, k ≤ n → 0 ≤ sN (stE f l P) k ∧ sN (stE f l P) k ≤ 200 * k ∧ 0 ≤ sN (stU t P) k ∧ sN (stU t P) k ≤ 100 * k ∧ 0 ≤ mxN (fun i => stE f l P i + stU t P i) k ∧ mxN (fun i => stE f l P i + stU t P i) k ≤ 300
  | 0, _ => by simp [sN, mxN]
  | k + 1, hk => by
    have i1 := al_s h k (by omega)
    have i2 := al_b h k (by omega)
    simp only [sN, mxN]
    omega
theorem pv_b {f l t P : Int → Int} {n : Nat} (h : ∀ i : Nat, i < n → 0 ≤ f (P i) ∧ f (P i) < 60 ∧ 0 ≤ l (P i) ∧ l (P i) < 60 ∧ 0 ≤ t (P i) ∧ t (P i) ≤ 32) : ∀ k : Nat, k ≤ n → 0 ≤ pv f P 0 k ∧ pv f P 0 k < 60 ∧ -1 ≤ pv l P (-1) k ∧ pv l P (-1) k < 60 ∧ 0 ≤ pv t P 0 k ∧ pv t P 0 k ≤ 32
  | 0, _ => by
    have e1 : pv f P 0 ((0 : Nat) : Int) = 0 := rfl
    have e2 : pv l P (-1) ((0 : Nat) : Int) = -1 := rfl
    have e3 : pv t P 0 ((0 : Nat) : Int) = 0 := rfl
    rw [e1, e2, e3]
    omega
  | k + 1, hk => by
    have b := h k (by omega)
    rw [pv_s, pv_s, pv_s]
    omega
/-- the plan from the place a on -/
def mP (M : mmM) (a : Int) : Int → Int := fun i => M 75 (a + i)
def alQ (M : mmM) (a b : Int) : Prop := ∀ i, a ≤ i → i < b → 0 ≤ M 75 i ∧ M 75 i < M 62 8
theorem alQ_v {M : mmM} {a b : Int} (hB : mqB M) (h : alQ M a b) : ∀ i : Nat, i < (b - a).toNat → 0 ≤ mf M (mP M a i) ∧ mf M (mP M a i) < 60 ∧ 0 ≤ ml M (mP M a i) ∧ ml M (mP M a i) < 60 ∧ 0 ≤ mt M (mP M a i) ∧ mt M (mP M a i) ≤ 32 :=
  fun i hi => hB.2.2 _ (h (a + i) (by omega) (by omega)).1 (h (a + i) (by omega) (by omega)).2
def t_M_along : mmT := fun as M Q => match as with
  | [.inr (.inr o), .inl a, .inl b] => o = 62 ∧ mqB M ∧ 0 ≤ a ∧ a ≤ b ∧ b ≤ 25 ∧ alQ M a b ∧ ∀ M', (∀ o', o' ≠ 62 → M' o' = M o') → (∀ j, j ≠ 35 → j ≠ 36 → j ≠ 37 → M' 62 j = M 62 j) → M' 62 35 = sN (stE (mf M) (ml M) (mP M a)) (b - a).toNat → M' 62 36 = sN (stU (mt M) (mP M a)) (b - a).toNat → M' 62 37 = mxN (fun i => stE (mf M) (ml M) (mP M a) i + stU (mt M) (mP M a) i) (b - a).toNat → Q none M'
  | _ => False
set_option maxHeartbeats 4000000 in
set_option maxRecDepth 100000 in
theorem p_M_along : ∀ as M Q, (∀ v ∈ as, mm_vin v) → mm_mem M → t_M_along as M Q → (mm_ent as).length ≤ 10 ∧ mm_ok mb_M_along [(1155, t_M_apart)] (mm_entry 10 as) M Q := by
  intro as M Q hin hM h
  unfold t_M_along at h
  split at h
  rotate_left
  · exact h.elim
  rename_i o a b
  have hR_a : mm_R a := hin (vi a) (by simp)
  have hR_b : mm_R b := hin (vi b) (by simp)
  refine ⟨by simp [mm_ent], (show mm_ok mb_M_along [(1155, t_M_apart)] [some (vr o), some (vi a), some (vi b), none, none, none, none, none, none, none] M Q from ?_)⟩
  intro J hJ
  obtain ⟨rfl, hB, a0, ab, b1, hP, h⟩ := h
  have hn0 := hB.1
  have hn1 := hB.2.1
  have hv := alQ_v hB hP
  have hE := al_b hv
  have hS := al_s hv
  have hV := pv_b hv
  have u67 : ∀ (M1 : mmM) (i v : Int), mm_up M1 62 i v 67 = M1 67 := fun M1 i v => mm_up_o _ _ (by decide)
  have u75 : ∀ (M1 : mmM) (i v : Int), mm_up M1 62 i v 75 = M1 75 := fun M1 i v => mm_up_o _ _ (by decide)
  generalize hEf : stE (mf M) (ml M) (mP M a) = E at h hE hS
  generalize hUf : stU (mt M) (mP M a) = U at h hE hS
  have hl : ∀ (d k : Nat) (x7 x8 x9 : Option mmV) (M1 : mmM), (k : Int) + d = b - a → (∀ o', o' ≠ 62 → M1 o' = M o') → (∀ j, j ≠ 35 → j ≠ 36 → j ≠ 37 → M1 62 j = M 62 j) → M1 62 35 = sN E k → M1 62 36 = sN U k → M1 62 37 = mxN (fun i => E i + U i) k → J 26 [some (vr 62), some (vi a), some (vi b), some (vi (pv (mf M) (mP M a) 0 k)), some (vi (pv (ml M) (mP M a) (-1) k)), some (vi (pv (mt M) (mP M a) 0 k)), some (vi (a + k)), x7, x8, x9] [] M1 := by
    intro d
    induction d with
    | zero =>
      intro k x7 x8 x9 M1 hk f1 f2 g1 g2 g3
      have ek : k = (b - a).toNat := by omega
      have h177 : J 177 [some (vr 62), some (vi a), some (vi b), some (vi (pv (mf M) (mP M a) 0 k)), some (vi (pv (ml M) (mP M a) (-1) k)), some (vi (pv (mt M) (mP M a) 0 k)), some (vi (a + k)), x7, x8, x9] [] M1 := by
        refine hJ 177 _ _ _ (show mm_wp _ _ _ mo_M_along_177 _ _ _ from ?_)
        simp only [mo_M_along_177, mm_wp, mm_ldi, mm_lda, mm_ldl, mm_sti, mm_sta, mm_stl, mm_inc, mm_2i, mm_mm, mm_2l, mm_lcmp, mm_i2l, mm_l2i, mm_cast8, mm_if1, mm_if2, mm_cmp, mm_swi, mm_sw, mm_pop1, mm_dup, mm_dup2, mm_geti, mm_geta, mm_puti, mm_iald, mm_bald, mm_aald, mm_iast, mm_bast, mm_alen, mm_acpy, mm_call, mm_callv, mm_recv, mm_pop, mm_find, mm_push, mm_cats, mm_cat, mm_reti, mm_retz, mm_retl, mm_reta, mm_retv, mm_set1, mm_set2, mm_kill, List.getElem?_cons_zero, List.getElem?_cons_succ, Int.reduceToNat, ↓reduceIte, Nat.reduceEqDiff, Nat.reduceDiv, Nat.reduceAdd, Nat.reduceLeDiff, Nat.zero_le, true_and, and_true, true_or, or_true, mm_b0, mm_b1, mm_lc_lt, mm_lc_le, mm_lc_gt, mm_lc_ge, mm_lc_eq, Int.not_lt, Int.not_le, Decidable.not_not, Int.sub_neg]
        exact h M1 f1 f2 (by rw [g1, ek]) (by rw [g2, ek]) (by rw [g3, ek])
      refine hJ 26 _ _ _ (show mm_wp _ _ _ mo_M_along_26 _ _ _ from ?_)
      simp only [mo_M_along_26, mm_wp, mm_ldi, mm_lda, mm_ldl, mm_sti, mm_sta, mm_stl, mm_inc, mm_2i, mm_mm, mm_2l, mm_lcmp, mm_i2l, mm_l2i, mm_cast8, mm_if1, mm_if2, mm_cmp, mm_swi, mm_sw, mm_pop1, mm_dup, mm_dup2, mm_geti, mm_geta, mm_puti, mm_iald, mm_bald, mm_aald, mm_iast, mm_bast, mm_alen, mm_acpy, mm_call, mm_callv, mm_recv, mm_pop, mm_find, mm_push, mm_cats, mm_cat, mm_reti, mm_retz, mm_retl, mm_reta, mm_retv, mm_set1, mm_set2, mm_kill, List.getElem?_cons_zero, List.getElem?_cons_succ, Int.reduceToNat, ↓reduceIte, Nat.reduceEqDiff, Nat.reduceDiv, Nat.reduceAdd, Nat.reduceLeDiff, Nat.zero_le, true_and, and_true, true_or, or_true, mm_b0, mm_b1, mm_lc_lt, mm_lc_le, mm_lc_gt, mm_lc_ge, mm_lc_eq, Int.not_lt, Int.not_le, Decidable.not_not, Int.sub_neg]
      exact ⟨fun _ => h177, fun z => by omega⟩
    | succ d ih =>
      intro k x7 x8 x9 M1 hk f1 f2 g1 g2 g3
      have ih := ih (k + 1)
      rw [pv_s, pv_s, pv_s] at ih
      have e67 : M1 67 = M 67 := f1 67 (by decide)
      have e75 : M1 75 = M 75 := f1 75 (by decide)
      have hk1 := hv k (by omega)
      have hk2 := hP (a + k) (by omega) (by omega)
      have hk3 := hE k (by omega)
      have hk4 := hS k (by omega)
      have hk5 := hS (k + 1) (by omega)
      have hk6 := hV k (by omega)
      have eE : E k = dA (pv (mf M) (mP M a) 0 k) (mf M (mP M a k)) + dA (pv (ml M) (mP M a) (-1) k) (ml M (mP M a k)) := by rw [← hEf]; rfl
      have eU : U k = dA (pv (mt M) (mP M a) 0 k) (mt M (mP M a k)) := by rw [← hUf]; rfl
      generalize pv (mf M) (mP M a) 0 k = l0 at *
      generalize pv (ml M) (mP M a) (-1) k = r0 at *
      generalize pv (mt M) (mP M a) 0 k = t0 at *
      have ef : mf M (mP M a k) = M 67 (4 * M 75 (a + k) + 1) := rfl
      have el : ml M (mP M a k) = M 67 (4 * M 75 (a + k) + 2) := rfl
      have et : mt M (mP M a k) = M 67 (4 * M 75 (a + k) + 3) := rfl
      rw [ef, el, et] at ih hk1
      rw [ef, el] at eE
      rw [et] at eU
      have h136 : ∀ (z : Int) (x8 x9 : Option mmV) (M2 : mmM), (∀ o', o' ≠ 62 → M2 o' = M o') → (∀ j, j ≠ 35 → j ≠ 36 → j ≠ 37 → M2 62 j = M 62 j) → M2 62 35 = sN E (k + 1) → M2 62 36 = sN U (k + 1) → z = mxN (fun i => E i + U i) (k + 1) → J 136 [some (vr 62), some (vi a), some (vi b), some (vi l0), some (vi r0), some (vi t0), some (vi (a + k)), some (vi (4 * M 75 (a + k))), x8, x9] [vi z, vr 62] M2 := by
        intro z x8 x9 M2 p1 p2 p3 p4 p5
        have q67 : M2 67 = M 67 := p1 67 (by decide)
        refine hJ 136 _ _ _ (show mm_wp _ _ _ mo_M_along_136 _ _ _ from ?_)
        simp only [mo_M_along_136, mm_wp, mm_ldi, mm_lda, mm_ldl, mm_sti, mm_sta, mm_stl, mm_inc, mm_2i, mm_mm, mm_2l, mm_lcmp, mm_i2l, mm_l2i, mm_cast8, mm_if1, mm_if2, mm_cmp, mm_swi, mm_sw, mm_pop1, mm_dup, mm_dup2, mm_geti, mm_geta, mm_puti, mm_iald, mm_bald, mm_aald, mm_iast, mm_bast, mm_alen, mm_acpy, mm_call, mm_callv, mm_recv, mm_pop, mm_find, mm_push, mm_cats, mm_cat, mm_reti, mm_retz, mm_retl, mm_reta, mm_retv, mm_set1, mm_set2, mm_kill, List.getElem?_cons_zero, List.getElem?_cons_succ, Int.reduceToNat, ↓reduceIte, Nat.reduceEqDiff, Nat.reduceDiv, Nat.reduceAdd, Nat.reduceLeDiff, Nat.zero_le, true_and, and_true, true_or, or_true, mm_b0, mm_b1, mm_lc_lt, mm_lc_le, mm_lc_gt, mm_lc_ge, mm_lc_eq, Int.not_lt, Int.not_le, Decidable.not_not, Int.sub_neg, c_0, c_1, c_2, l_2, c_3, c_4, l_4, c_5, l_5, c_6, l_6, c_7, l_7, c_8, c_9, l_9, c_10, l_10, c_11, l_11, c_12, l_12, c_13, c_14, l_14, c_15, l_15, c_16, l_16, c_17, l_17, c_18, c_19, l_19, c_20, l_20, c_21, l_21, c_22, l_22, c_23, c_24, l_24, c_25, l_25, c_26, c_27, c_28, l_28, c_29, c_30, l_30, c_31, c_32, l_32, c_33, l_33, c_34, l_34, c_35, l_35, c_36, l_36, c_37, l_37, c_38, l_38, c_39, l_39, c_40, c_41, l_41, c_42, c_43, c_44, l_44, c_45, c_46, l_46, c_47, c_48, l_48, c_49, l_49, c_50, l_50, c_51, l_51, c_52, l_52, c_53, l_53, c_54, l_54, c_55, l_55, c_56, l_56, c_57, l_57, c_58, l_58, c_59, l_59, c_60, l_60, c_61, l_61, c_62, c_63, l_63, c_64, l_64, c_65, l_65, c_66, l_66, c_67, l_67, c_68, l_68, c_69, l_69, c_70, l_70, c_71, l_71, c_72, l_72, c_73, l_73, c_74, l_74, c_75, l_75, c_76, l_76, u67, q67]
        repeat (refine And.intro (by omega) ?_)
        have := ih (some (vi (4 * M 75 (a + k)))) x8 x9 (mm_up M2 62 37 z) (by omega) (fun o' c => by rw [mm_up_o _ _ c, p1 o' c]) (fun j c1 c2 c3 => by rw [mm_up_i _ c3, p2 j c1 c2 c3]) (by rw [mm_up_i _ (by decide), p3]) (by rw [mm_up_i _ (by decide), p4]) (by rw [mm_up_s, p5])
        rw [show a + ((k + 1 : Nat) : Int) = a + k + 1 by omega] at this
        exact this
      have h132 : ∀ (x8 x9 : Option mmV) (M2 : mmM), (∀ o', o' ≠ 62 → M2 o' = M o') → (∀ j, j ≠ 35 → j ≠ 36 → j ≠ 37 → M2 62 j = M 62 j) → M2 62 35 = sN E (k + 1) → M2 62 36 = sN U (k + 1) → M2 62 37 = mxN (fun i => E i + U i) (k + 1) → J 132 [some (vr 62), some (vi a), some (vi b), some (vi l0), some (vi r0), some (vi t0), some (vi (a + k)), some (vi (4 * M 75 (a + k))), x8, x9] [vr 62] M2 := by
        intro x8 x9 M2 p1 p2 p3 p4 p5
        refine hJ 132 _ _ _ (show mm_wp _ _ _ mo_M_along_132 _ _ _ from ?_)
        simp only [mo_M_along_132, mm_wp, mm_ldi, mm_lda, mm_ldl, mm_sti, mm_sta, mm_stl, mm_inc, mm_2i, mm_mm, mm_2l, mm_lcmp, mm_i2l, mm_l2i, mm_cast8, mm_if1, mm_if2, mm_cmp, mm_swi, mm_sw, mm_pop1, mm_dup, mm_dup2, mm_geti, mm_geta, mm_puti, mm_iald, mm_bald, mm_aald, mm_iast, mm_bast, mm_alen, mm_acpy, mm_call, mm_callv, mm_recv, mm_pop, mm_find, mm_push, mm_cats, mm_cat, mm_reti, mm_retz, mm_retl, mm_reta, mm_retv, mm_set1, mm_set2, mm_kill, List.getElem?_cons_zero, List.getElem?_cons_succ, Int.reduceToNat, ↓reduceIte, Nat.reduceEqDiff, Nat.reduceDiv, Nat.reduceAdd, Nat.reduceLeDiff, Nat.zero_le, true_and, and_true, true_or, or_true, mm_b0, mm_b1, mm_lc_lt, mm_lc_le, mm_lc_gt, mm_lc_ge, mm_lc_eq, Int.not_lt, Int.not_le, Decidable.not_not, Int.sub_neg, c_0, c_1, c_2, l_2, c_3, c_4, l_4, c_5, l_5, c_6, l_6, c_7, l_7, c_8, c_9, l_9, c_10, l_10, c_11, l_11, c_12, l_12, c_13, c_14, l_14, c_15, l_15, c_16, l_16, c_17, l_17, c_18, c_19, l_19, c_20, l_20, c_21, l_21, c_22, l_22, c_23, c_24, l_24, c_25, l_25, c_26, c_27, c_28, l_28, c_29, c_30, l_30, c_31, c_32, l_32, c_33, l_33, c_34, l_34, c_35, l_35, c_36, l_36, c_37, l_37, c_38, l_38, c_39, l_39, c_40, c_41, l_41, c_42, c_43, c_44, l_44, c_45, c_46, l_46, c_47, c_48, l_48, c_49, l_49, c_50, l_50, c_51, l_51, c_52, l_52, c_53, l_53, c_54, l_54, c_55, l_55, c_56, l_56, c_57, l_57, c_58, l_58, c_59, l_59, c_60, l_60, c_61, l_61, c_62, c_63, l_63, c_64, l_64, c_65, l_65, c_66, l_66, c_67, l_67, c_68, l_68, c_69, l_69, c_70, l_70, c_71, l_71, c_72, l_72, c_73, l_73, c_74, l_74, c_75, l_75, c_76, l_76]
        exact h136 _ _ _ M2 p1 p2 p3 p4 p5
      refine hJ 26 _ _ _ (show mm_wp _ _ _ mo_M_along_26 _ _ _ from ?_)
      simp only [mo_M_along_26, mm_wp, mm_ldi, mm_lda, mm_ldl, mm_sti, mm_sta, mm_stl, mm_inc, mm_2i, mm_mm, mm_2l, mm_lcmp, mm_i2l, mm_l2i, mm_cast8, mm_if1, mm_if2, mm_cmp, mm_swi, mm_sw, mm_pop1, mm_dup, mm_dup2, mm_geti, mm_geta, mm_puti, mm_iald, mm_bald, mm_aald, mm_iast, mm_bast, mm_alen, mm_acpy, mm_call, mm_callv, mm_recv, mm_pop, mm_find, mm_push, mm_cats, mm_cat, mm_reti, mm_retz, mm_retl, mm_reta, mm_retv, mm_set1, mm_set2, mm_kill, List.getElem?_cons_zero, List.getElem?_cons_succ, Int.reduceToNat, ↓reduceIte, Nat.reduceEqDiff, Nat.reduceDiv, Nat.reduceAdd, Nat.reduceLeDiff, Nat.zero_le, true_and, and_true, true_or, or_true, mm_b0, mm_b1, mm_lc_lt, mm_lc_le, mm_lc_gt, mm_lc_ge, mm_lc_eq, Int.not_lt, Int.not_le, Decidable.not_not, Int.sub_neg, c_0, c_1, c_2, l_2, c_3, c_4, l_4, c_5, l_5, c_6, l_6, c_7, l_7, c_8, c_9, l_9, c_10, l_10, c_11, l_11, c_12, l_12, c_13, c_14, l_14, c_15, l_15, c_16, l_16, c_17, l_17, c_18, c_19, l_19, c_20, l_20, c_21, l_21, c_22, l_22, c_23, c_24, l_24, c_25, l_25, c_26, c_27, c_28, l_28, c_29, c_30, l_30, c_31, c_32, l_32, c_33, l_33, c_34, l_34, c_35, l_35, c_36, l_36, c_37, l_37, c_38, l_38, c_39, l_39, c_40, c_41, l_41, c_42, c_43, c_44, l_44, c_45, c_46, l_46, c_47, c_48, l_48, c_49, l_49, c_50, l_50, c_51, l_51, c_52, l_52, c_53, l_53, c_54, l_54, c_55, l_55, c_56, l_56, c_57, l_57, c_58, l_58, c_59, l_59, c_60, l_60, c_61, l_61, c_62, c_63, l_63, c_64, l_64, c_65, l_65, c_66, l_66, c_67, l_67, c_68, l_68, c_69, l_69, c_70, l_70, c_71, l_71, c_72, l_72, c_73, l_73, c_74, l_74, c_75, l_75, c_76, l_76, e67, e75, u67, u75, t_M_apart, mm_up_if, Int.reduceEq, g1, g2, g3]
      rw [← eE, ← eU]
      refine ⟨fun z => by omega, fun _ => ?_⟩
      repeat (refine And.intro (by omega) ?_)
      have fr1 : ∀ o', o' ≠ 62 → mm_up (mm_up M1 62 35 (sN E k + E k)) 62 36 (sN U k + U k) o' = M o' := fun o' c => by rw [mm_up_o _ _ c, mm_up_o _ _ c, f1 o' c]
      have fr2 : ∀ j, j ≠ 35 → j ≠ 36 → j ≠ 37 → mm_up (mm_up M1 62 35 (sN E k + E k)) 62 36 (sN U k + U k) 62 j = M 62 j := fun j c1 c2 c3 => by rw [mm_up_i _ c2, mm_up_i _ c1, f2 j c1 c2 c3]
      have fr3 : mm_up (mm_up M1 62 35 (sN E k + E k)) 62 36 (sN U k + U k) 62 35 = sN E (k + 1) := by rw [mm_up_i _ (by decide), mm_up_s]; rfl
      have fr4 : mm_up (mm_up M1 62 35 (sN E k + E k)) 62 36 (sN U k + U k) 62 36 = sN U (k + 1) := by rw [mm_up_s]; rfl
      have emx : mxN (fun i => E i + U i) (k + 1) = max (mxN (fun i => E i + U i) k) (E k + U k) := rfl
      refine ⟨fun z => h132 _ _ _ fr1 fr2 fr3 fr4 ?_, fun z => ⟨by omega, h136 _ _ _ _ fr1 fr2 fr3 fr4 ?_⟩⟩
      · rw [mm_up_i _ (by decide), mm_up_i _ (by decide), g3, emx]
        omega
      · rw [emx]
        omega
  refine hJ 0 _ _ _ (show mm_wp _ _ _ mo_M_along_0 _ _ _ from ?_)
  simp only [mo_M_along_0, mm_wp, mm_ldi, mm_lda, mm_ldl, mm_sti, mm_sta, mm_stl, mm_inc, mm_2i, mm_mm, mm_2l, mm_lcmp, mm_i2l, mm_l2i, mm_cast8, mm_if1, mm_if2, mm_cmp, mm_swi, mm_sw, mm_pop1, mm_dup, mm_dup2, mm_geti, mm_geta, mm_puti, mm_iald, mm_bald, mm_aald, mm_iast, mm_bast, mm_alen, mm_acpy, mm_call, mm_callv, mm_recv, mm_pop, mm_find, mm_push, mm_cats, mm_cat, mm_reti, mm_retz, mm_retl, mm_reta, mm_retv, mm_set1, mm_set2, mm_kill, List.getElem?_cons_zero, List.getElem?_cons_succ, Int.reduceToNat, ↓reduceIte, Nat.reduceEqDiff, Nat.reduceDiv, Nat.reduceAdd, Nat.reduceLeDiff, Nat.zero_le, true_and, and_true, true_or, or_true, mm_b0, mm_b1, mm_lc_lt, mm_lc_le, mm_lc_gt, mm_lc_ge, mm_lc_eq, Int.not_lt, Int.not_le, Decidable.not_not, Int.sub_neg, c_0, c_1, c_2, l_2, c_3, c_4, l_4, c_5, l_5, c_6, l_6, c_7, l_7, c_8, c_9, l_9, c_10, l_10, c_11, l_11, c_12, l_12, c_13, c_14, l_14, c_15, l_15, c_16, l_16, c_17, l_17, c_18, c_19, l_19, c_20, l_20, c_21, l_21, c_22, l_22, c_23, c_24, l_24, c_25, l_25, c_26, c_27, c_28, l_28, c_29, c_30, l_30, c_31, c_32, l_32, c_33, l_33, c_34, l_34, c_35, l_35, c_36, l_36, c_37, l_37, c_38, l_38, c_39, l_39, c_40, c_41, l_41, c_42, c_43, c_44, l_44, c_45, c_46, l_46, c_47, c_48, l_48, c_49, l_49, c_50, l_50, c_51, l_51, c_52, l_52, c_53, l_53, c_54, l_54, c_55, l_55, c_56, l_56, c_57, l_57, c_58, l_58, c_59, l_59, c_60, l_60, c_61, l_61, c_62, c_63, l_63, c_64, l_64, c_65, l_65, c_66, l_66, c_67, l_67, c_68, l_68, c_69, l_69, c_70, l_70, c_71, l_71, c_72, l_72, c_73, l_73, c_74, l_74, c_75, l_75, c_76, l_76]
  have := hl (b - a).toNat 0 none none none (mm_up (mm_up (mm_up M 62 35 0) 62 36 0) 62 37 0) (by omega) (fun o' c => by rw [mm_up_o _ _ c, mm_up_o _ _ c, mm_up_o _ _ c]) (fun j c1 c2 c3 => by rw [mm_up_i _ c3, mm_up_i _ c2, mm_up_i _ c1]) (by simp [mm_up, sN]) (by simp [mm_up, sN]) (by simp [mm_up, mxN])
  rw [show a + ((0 : Nat) : Int) = a by omega] at this
  exact this
def t_M_cost : mmT := fun as M Q => match as with
  | [.inr (.inr o), .inl a, .inl b] => o = 62 ∧ mqB M ∧ 0 ≤ M 62 10 ∧ M 62 10 ≤ 9 ∧ 0 ≤ a ∧ a ≤ b ∧ b ≤ 25 ∧ alQ M a b ∧ ∀ M', (∀ o', o' ≠ 62 → M' o' = M o') → (∀ j, j ≠ 35 → j ≠ 36 → j ≠ 37 → M' 62 j = M 62 j) → M' 62 35 = sN (stE (mf M) (ml M) (mP M a)) (b - a).toNat → M' 62 36 = sN (stU (mt M) (mP M a)) (b - a).toNat → M' 62 37 = mxN (fun i => stE (mf M) (ml M) (mP M a) i + stU (mt M) (mP M a) i) (b - a).toNat → 0 ≤ coF (mf M) (ml M) (mt M) (mP M a) (b - a) (M 62 10) → coF (mf M) (ml M) (mt M) (mP M a) (b - a) (M 62 10) ≤ 30000 → Q (some (vi (coF (mf M) (ml M) (mt M) (mP M a) (b - a) (M 62 10)))) M'
  | _ => False
set_option maxHeartbeats 4000000 in
set_option maxRecDepth 100000 in
theorem p_M_cost : ∀ as M Q, (∀ v ∈ as, mm_vin v) → mm_mem M → t_M_cost as M Q → (mm_ent as).length ≤ 3 ∧ mm_ok mb_M_cost [(1156, t_M_along)] (mm_entry 3 as) M Q := by
  intro as M Q hin hM h
  unfold t_M_cost at h
  split at h
  rotate_left
  · exact h.elim
  rename_i o a b
  have hR_a : mm_R a := hin (vi a) (by simp)
  have hR_b : mm_R b := hin (vi b) (by simp)
  refine ⟨by simp [mm_ent], (show mm_ok mb_M_cost [(1156, t_M_along)] [some (vr o), some (vi a), some (vi b)] M Q from ?_)⟩
  intro J hJ
  obtain ⟨rfl, hB, w0, w1, a0, ab, b1, hP, h⟩ := h
  have hS := al_s (alQ_v hB hP) (b - a).toNat (Nat.le_refl _)
  have e : coF (mf M) (ml M) (mt M) (mP M a) (b - a) (M 62 10) = sN (stE (mf M) (ml M) (mP M a)) (b - a).toNat + M 62 10 * sN (stU (mt M) (mP M a)) (b - a).toNat := rfl
  have hm := mul_b (a := M 62 10) (b := sN (stU (mt M) (mP M a)) (b - a).toNat) (A := 9) (B := 2500) w0 w1 hS.2.2.1 (by omega)
  rw [e] at h
  refine hJ 0 _ _ _ (show mm_wp _ _ _ mo_M_cost_0 _ _ _ from ?_)
  simp only [mo_M_cost_0, mm_wp, mm_ldi, mm_lda, mm_ldl, mm_sti, mm_sta, mm_stl, mm_inc, mm_2i, mm_mm, mm_2l, mm_lcmp, mm_i2l, mm_l2i, mm_cast8, mm_if1, mm_if2, mm_cmp, mm_swi, mm_sw, mm_pop1, mm_dup, mm_dup2, mm_geti, mm_geta, mm_puti, mm_iald, mm_bald, mm_aald, mm_iast, mm_bast, mm_alen, mm_acpy, mm_call, mm_callv, mm_recv, mm_pop, mm_find, mm_push, mm_cats, mm_cat, mm_reti, mm_retz, mm_retl, mm_reta, mm_retv, mm_set1, mm_set2, mm_kill, List.getElem?_cons_zero, List.getElem?_cons_succ, Int.reduceToNat, ↓reduceIte, Nat.reduceEqDiff, Nat.reduceDiv, Nat.reduceAdd, Nat.reduceLeDiff, Nat.zero_le, true_and, and_true, true_or, or_true, mm_b0, mm_b1, mm_lc_lt, mm_lc_le, mm_lc_gt, mm_lc_ge, mm_lc_eq, Int.not_lt, Int.not_le, Decidable.not_not, Int.sub_neg, c_0, c_1, c_2, l_2, c_3, c_4, l_4, c_5, l_5, c_6, l_6, c_7, l_7, c_8, c_9, l_9, c_10, l_10, c_11, l_11, c_12, l_12, c_13, c_14, l_14, c_15, l_15, c_16, l_16, c_17, l_17, c_18, c_19, l_19, c_20, l_20, c_21, l_21, c_22, l_22, c_23, c_24, l_24, c_25, l_25, c_26, c_27, c_28, l_28, c_29, c_30, l_30, c_31, c_32, l_32, c_33, l_33, c_34, l_34, c_35, l_35, c_36, l_36, c_37, l_37, c_38, l_38, c_39, l_39, c_40, c_41, l_41, c_42, c_43, c_44, l_44, c_45, c_46, l_46, c_47, c_48, l_48, c_49, l_49, c_50, l_50, c_51, l_51, c_52, l_52, c_53, l_53, c_54, l_54, c_55, l_55, c_56, l_56, c_57, l_57, c_58, l_58, c_59, l_59, c_60, l_60, c_61, l_61, c_62, c_63, l_63, c_64, l_64, c_65, l_65, c_66, l_66, c_67, l_67, c_68, l_68, c_69, l_69, c_70, l_70, c_71, l_71, c_72, l_72, c_73, l_73, c_74, l_74, c_75, l_75, c_76, l_76, t_M_along]
  refine ⟨hB, a0, ab, b1, hP, fun M' f1 f2 g1 g2 g3 => ?_⟩
  rw [g1, g2, f2 10 (by decide) (by decide) (by decide)]
  exact ⟨by omega, by omega, h M' f1 f2 g1 g2 g3 (by omega) (by omega)⟩
def t_M_costOf : mmT := fun as M Q => match as with
  | [.inr (.inr o), .inl ord, .inl b] => o = 62 ∧ mqB M ∧ 0 ≤ M 62 10 ∧ M 62 10 ≤ 9 ∧ 0 ≤ ord ∧ ord ≤ 2 ∧ 1 ≤ b ∧ b ≤ 60 ∧ ∀ M' P n, plG M M' → isOrd (mS M (M 62 34)) (mwt M ord b) P n → n ≤ 25 → M' 75 = P → M' 62 33 = n → M' 62 0 = M 62 0 → M' 62 35 = sN (stE (mf M) (ml M) P) n.toNat → M' 62 36 = sN (stU (mt M) P) n.toNat → M' 62 37 = mxN (fun i => stE (mf M) (ml M) P i + stU (mt M) P i) n.toNat → 0 ≤ coF (mf M) (ml M) (mt M) P n (M 62 10) → coF (mf M) (ml M) (mt M) P n (M 62 10) ≤ 30000 → Q (some (vi (coF (mf M) (ml M) (mt M) P n (M 62 10)))) M'
  | _ => False
theorem mP_0 (M : mmM) : mP M 0 = M 75 := by
  funext i
  unfold mP
  rw [Int.zero_add]
set_option maxHeartbeats 4000000 in
set_option maxRecDepth 100000 in
theorem p_M_costOf : ∀ as M Q, (∀ v ∈ as, mm_vin v) → mm_mem M → t_M_costOf as M Q → (mm_ent as).length ≤ 3 ∧ mm_ok mb_M_costOf [(1153, t_M_plans), (1157, t_M_cost)] (mm_entry 3 as) M Q := by
  intro as M Q hin hM h
  unfold t_M_costOf at h
  split at h
  rotate_left
  · exact h.elim
  rename_i o ord b
  have hR_ord : mm_R ord := hin (vi ord) (by simp)
  have hR_b : mm_R b := hin (vi b) (by simp)
  refine ⟨by simp [mm_ent], (show mm_ok mb_M_costOf [(1153, t_M_plans), (1157, t_M_cost)] [some (vr o), some (vi ord), some (vi b)] M Q from ?_)⟩
  intro J hJ
  obtain ⟨rfl, hB, w0, w1, o1, o2, b1, b2, h⟩ := h
  have hn := hB.2.1
  refine hJ 0 _ _ _ (show mm_wp _ _ _ mo_M_costOf_0 _ _ _ from ?_)
  simp only [mo_M_costOf_0, mm_wp, mm_ldi, mm_lda, mm_ldl, mm_sti, mm_sta, mm_stl, mm_inc, mm_2i, mm_mm, mm_2l, mm_lcmp, mm_i2l, mm_l2i, mm_cast8, mm_if1, mm_if2, mm_cmp, mm_swi, mm_sw, mm_pop1, mm_dup, mm_dup2, mm_geti, mm_geta, mm_puti, mm_iald, mm_bald, mm_aald, mm_iast, mm_bast, mm_alen, mm_acpy, mm_call, mm_callv, mm_recv, mm_pop, mm_find, mm_push, mm_cats, mm_cat, mm_reti, mm_retz, mm_retl, mm_reta, mm_retv, mm_set1, mm_set2, mm_kill, List.getElem?_cons_zero, List.getElem?_cons_succ, Int.reduceToNat, ↓reduceIte, Nat.reduceEqDiff, Nat.reduceDiv, Nat.reduceAdd, Nat.reduceLeDiff, Nat.zero_le, true_and, and_true, true_or, or_true, mm_b0, mm_b1, mm_lc_lt, mm_lc_le, mm_lc_gt, mm_lc_ge, mm_lc_eq, Int.not_lt, Int.not_le, Decidable.not_not, Int.sub_neg, c_0, c_1, c_2, l_2, c_3, c_4, l_4, c_5, l_5, c_6, l_6, c_7, l_7, c_8, c_9, l_9, c_10, l_10, c_11, l_11, c_12, l_12, c_13, c_14, l_14, c_15, l_15, c_16, l_16, c_17, l_17, c_18, c_19, l_19, c_20, l_20, c_21, l_21, c_22, l_22, c_23, c_24, l_24, c_25, l_25, c_26, c_27, c_28, l_28, c_29, c_30, l_30, c_31, c_32, l_32, c_33, l_33, c_34, l_34, c_35, l_35, c_36, l_36, c_37, l_37, c_38, l_38, c_39, l_39, c_40, c_41, l_41, c_42, c_43, c_44, l_44, c_45, c_46, l_46, c_47, c_48, l_48, c_49, l_49, c_50, l_50, c_51, l_51, c_52, l_52, c_53, l_53, c_54, l_54, c_55, l_55, c_56, l_56, c_57, l_57, c_58, l_58, c_59, l_59, c_60, l_60, c_61, l_61, c_62, c_63, l_63, c_64, l_64, c_65, l_65, c_66, l_66, c_67, l_67, c_68, l_68, c_69, l_69, c_70, l_70, c_71, l_71, c_72, l_72, c_73, l_73, c_74, l_74, c_75, l_75, c_76, l_76, t_M_plans, t_M_cost]
  refine ⟨hB, o1, o2, b1, b2, fun M1 hp hor hle => ?_⟩
  obtain ⟨e8, ek, ef, el, et⟩ := plF_v hp
  have e10 : M1 62 10 = M 62 10 := hp.2 10 (by decide)
  rw [mP_0, ef, el, et, e10, Int.sub_zero]
  refine ⟨plF_B hp hB, w0, w1, by omega, hor.1, by omega, fun i i0 i1 => ?_, fun M2 f1 f2 g1 g2 g3 c1 c2 => ?_⟩
  · have := hor.2.1 i i0 i1
    rw [e8]
    exact ⟨this.1, this.2.1⟩
  · refine h M2 (M1 75) (M1 62 33) ⟨fun o' a b => by rw [f1 o' a, hp.1 o' a b], fun j a b c d e => by rw [f2 j c d e, hp.2 j b]⟩ hor (by omega) (f1 75 (by decide)) (f2 33 (by decide) (by decide) (by decide)) ?_ g1 g2 g3 c1 c2
    rw [f2 0 (by decide) (by decide) (by decide), hp.2 0 (by decide)]
def t_M_planned : mmT := fun as M Q => match as with
  | [.inr (.inr o), .inl ord, .inl b, .inl i] => o = 62 ∧ mqB M ∧ (¬ ((0 ≤ ord ∧ ord < 3 ∧ 1 ≤ b ∧ b ≤ 60) ∧ -1 ≤ i) → Q (some (vi (-1))) (tz M)) ∧ (((0 ≤ ord ∧ ord < 3 ∧ 1 ≤ b ∧ b ≤ 60) ∧ -1 ≤ i) → ∀ M' P n, plG M M' → isOrd (mS M (M 62 34)) (mwt M ord b) P n → Q (some (vi (if i = -1 then n else if 0 ≤ i ∧ i < n then P i else -1))) M')
  | _ => False
set_option maxHeartbeats 4000000 in
set_option maxRecDepth 100000 in
theorem p_M_planned : ∀ as M Q, (∀ v ∈ as, mm_vin v) → mm_mem M → t_M_planned as M Q → (mm_ent as).length ≤ 4 ∧ mm_ok mb_M_planned [(1135, t_M_isPlan), (1153, t_M_plans)] (mm_entry 4 as) M Q := by
  intro as M Q hin hM h
  unfold t_M_planned at h
  split at h
  rotate_left
  · exact h.elim
  rename_i o ord b i
  have hR_ord : mm_R ord := hin (vi ord) (by simp)
  have hR_b : mm_R b := hin (vi b) (by simp)
  have hR_i : mm_R i := hin (vi i) (by simp)
  refine ⟨by simp [mm_ent], (show mm_ok mb_M_planned [(1135, t_M_isPlan), (1153, t_M_plans)] [some (vr o), some (vi ord), some (vi b), some (vi i)] M Q from ?_)⟩
  intro J hJ
  obtain ⟨rfl, hB, hN, hY⟩ := h
  have h18 : ¬ ((0 ≤ ord ∧ ord < 3 ∧ 1 ≤ b ∧ b ≤ 60) ∧ -1 ≤ i) → J 18 [some (vr 62), some (vi ord), some (vi b), some (vi i)] [] (mm_up M 62 0 0) := by
    intro hc
    refine hJ 18 _ _ _ (show mm_wp _ _ _ mo_M_planned_18 _ _ _ from ?_)
    simp only [mo_M_planned_18, mm_wp, mm_ldi, mm_lda, mm_ldl, mm_sti, mm_sta, mm_stl, mm_inc, mm_2i, mm_mm, mm_2l, mm_lcmp, mm_i2l, mm_l2i, mm_cast8, mm_if1, mm_if2, mm_cmp, mm_swi, mm_sw, mm_pop1, mm_dup, mm_dup2, mm_geti, mm_geta, mm_puti, mm_iald, mm_bald, mm_aald, mm_iast, mm_bast, mm_alen, mm_acpy, mm_call, mm_callv, mm_recv, mm_pop, mm_find, mm_push, mm_cats, mm_cat, mm_reti, mm_retz, mm_retl, mm_reta, mm_retv, mm_set1, mm_set2, mm_kill, List.getElem?_cons_zero, List.getElem?_cons_succ, Int.reduceToNat, ↓reduceIte, Nat.reduceEqDiff, Nat.reduceDiv, Nat.reduceAdd, Nat.reduceLeDiff, Nat.zero_le, true_and, and_true, true_or, or_true, mm_b0, mm_b1, mm_lc_lt, mm_lc_le, mm_lc_gt, mm_lc_ge, mm_lc_eq, Int.not_lt, Int.not_le, Decidable.not_not, Int.sub_neg]
    exact hN hc
  have h20 : ((0 ≤ ord ∧ ord < 3 ∧ 1 ≤ b ∧ b ≤ 60) ∧ -1 ≤ i) → J 20 [some (vr 62), some (vi ord), some (vi b), some (vi i)] [] (mm_up M 62 0 0) := by
    intro hc
    have hY := hY hc
    have hG := plG_tz M
    have hn := hB.2.1
    refine hJ 20 _ _ _ (show mm_wp _ _ _ mo_M_planned_20 _ _ _ from ?_)
    simp only [mo_M_planned_20, mm_wp, mm_ldi, mm_lda, mm_ldl, mm_sti, mm_sta, mm_stl, mm_inc, mm_2i, mm_mm, mm_2l, mm_lcmp, mm_i2l, mm_l2i, mm_cast8, mm_if1, mm_if2, mm_cmp, mm_swi, mm_sw, mm_pop1, mm_dup, mm_dup2, mm_geti, mm_geta, mm_puti, mm_iald, mm_bald, mm_aald, mm_iast, mm_bast, mm_alen, mm_acpy, mm_call, mm_callv, mm_recv, mm_pop, mm_find, mm_push, mm_cats, mm_cat, mm_reti, mm_retz, mm_retl, mm_reta, mm_retv, mm_set1, mm_set2, mm_kill, List.getElem?_cons_zero, List.getElem?_cons_succ, Int.reduceToNat, ↓reduceIte, Nat.reduceEqDiff, Nat.reduceDiv, Nat.reduceAdd, Nat.reduceLeDiff, Nat.zero_le, true_and, and_true, true_or, or_true, mm_b0, mm_b1, mm_lc_lt, mm_lc_le, mm_lc_gt, mm_lc_ge, mm_lc_eq, Int.not_lt, Int.not_le, Decidable.not_not, Int.sub_neg, c_0, c_1, c_2, l_2, c_3, c_4, l_4, c_5, l_5, c_6, l_6, c_7, l_7, c_8, c_9, l_9, c_10, l_10, c_11, l_11, c_12, l_12, c_13, c_14, l_14, c_15, l_15, c_16, l_16, c_17, l_17, c_18, c_19, l_19, c_20, l_20, c_21, l_21, c_22, l_22, c_23, c_24, l_24, c_25, l_25, c_26, c_27, c_28, l_28, c_29, c_30, l_30, c_31, c_32, l_32, c_33, l_33, c_34, l_34, c_35, l_35, c_36, l_36, c_37, l_37, c_38, l_38, c_39, l_39, c_40, c_41, l_41, c_42, c_43, c_44, l_44, c_45, c_46, l_46, c_47, c_48, l_48, c_49, l_49, c_50, l_50, c_51, l_51, c_52, l_52, c_53, l_53, c_54, l_54, c_55, l_55, c_56, l_56, c_57, l_57, c_58, l_58, c_59, l_59, c_60, l_60, c_61, l_61, c_62, c_63, l_63, c_64, l_64, c_65, l_65, c_66, l_66, c_67, l_67, c_68, l_68, c_69, l_69, c_70, l_70, c_71, l_71, c_72, l_72, c_73, l_73, c_74, l_74, c_75, l_75, c_76, l_76, t_M_plans]
    refine ⟨plG_B hG hB, by omega, by omega, by omega, by omega, fun M1 hp hor hle => ?_⟩
    have e34 : mm_up M 62 0 0 62 34 = M 62 34 := mm_up_i _ (by decide)
    have e8 : mm_up M 62 0 0 62 8 = M 62 8 := mm_up_i _ (by decide)
    rw [show mwt (mm_up M 62 0 0) ord b = mwt M ord b from plG_w hG ord b, e34, show mS (mm_up M 62 0 0) (M 62 34) = mS M (M 62 34) from plG_S hG _] at hor
    rw [e8] at hle
    have hq := hY M1 (M1 75) (M1 62 33) (plG_tr hG (plG_F hp)) hor
    have h56 : ∀ z, Q (some (vi z)) M1 → J 56 [some (vr 62), some (vi ord), some (vi b), some (vi i)] [vi z] M1 := by
      intro z hz
      refine hJ 56 _ _ _ (show mm_wp _ _ _ mo_M_planned_56 _ _ _ from ?_)
      simp only [mo_M_planned_56, mm_wp, mm_ldi, mm_lda, mm_ldl, mm_sti, mm_sta, mm_stl, mm_inc, mm_2i, mm_mm, mm_2l, mm_lcmp, mm_i2l, mm_l2i, mm_cast8, mm_if1, mm_if2, mm_cmp, mm_swi, mm_sw, mm_pop1, mm_dup, mm_dup2, mm_geti, mm_geta, mm_puti, mm_iald, mm_bald, mm_aald, mm_iast, mm_bast, mm_alen, mm_acpy, mm_call, mm_callv, mm_recv, mm_pop, mm_find, mm_push, mm_cats, mm_cat, mm_reti, mm_retz, mm_retl, mm_reta, mm_retv, mm_set1, mm_set2, mm_kill, List.getElem?_cons_zero, List.getElem?_cons_succ, Int.reduceToNat, ↓reduceIte, Nat.reduceEqDiff, Nat.reduceDiv, Nat.reduceAdd, Nat.reduceLeDiff, Nat.zero_le, true_and, and_true, true_or, or_true, mm_b0, mm_b1, mm_lc_lt, mm_lc_le, mm_lc_gt, mm_lc_ge, mm_lc_eq, Int.not_lt, Int.not_le, Decidable.not_not, Int.sub_neg]
      exact hz
    have h55 : ¬ i = -1 → M1 62 33 ≤ i → J 55 [some (vr 62), some (vi ord), some (vi b), some (vi i)] [] M1 := by
      intro z1 z2
      rw [if_neg z1, if_neg (by omega)] at hq
      refine hJ 55 _ _ _ (show mm_wp _ _ _ mo_M_planned_55 _ _ _ from ?_)
      simp only [mo_M_planned_55, mm_wp, mm_ldi, mm_lda, mm_ldl, mm_sti, mm_sta, mm_stl, mm_inc, mm_2i, mm_mm, mm_2l, mm_lcmp, mm_i2l, mm_l2i, mm_cast8, mm_if1, mm_if2, mm_cmp, mm_swi, mm_sw, mm_pop1, mm_dup, mm_dup2, mm_geti, mm_geta, mm_puti, mm_iald, mm_bald, mm_aald, mm_iast, mm_bast, mm_alen, mm_acpy, mm_call, mm_callv, mm_recv, mm_pop, mm_find, mm_push, mm_cats, mm_cat, mm_reti, mm_retz, mm_retl, mm_reta, mm_retv, mm_set1, mm_set2, mm_kill, List.getElem?_cons_zero, List.getElem?_cons_succ, Int.reduceToNat, ↓reduceIte, Nat.reduceEqDiff, Nat.reduceDiv, Nat.reduceAdd, Nat.reduceLeDiff, Nat.zero_le, true_and, and_true, true_or, or_true, mm_b0, mm_b1, mm_lc_lt, mm_lc_le, mm_lc_gt, mm_lc_ge, mm_lc_eq, Int.not_lt, Int.not_le, Decidable.not_not, Int.sub_neg]
      exact h56 _ hq
    have h38 : ¬ i = -1 → J 38 [some (vr 62), some (vi ord), some (vi b), some (vi i)] [] M1 := by
      intro z1
      refine hJ 38 _ _ _ (show mm_wp _ _ _ mo_M_planned_38 _ _ _ from ?_)
      simp only [mo_M_planned_38, mm_wp, mm_ldi, mm_lda, mm_ldl, mm_sti, mm_sta, mm_stl, mm_inc, mm_2i, mm_mm, mm_2l, mm_lcmp, mm_i2l, mm_l2i, mm_cast8, mm_if1, mm_if2, mm_cmp, mm_swi, mm_sw, mm_pop1, mm_dup, mm_dup2, mm_geti, mm_geta, mm_puti, mm_iald, mm_bald, mm_aald, mm_iast, mm_bast, mm_alen, mm_acpy, mm_call, mm_callv, mm_recv, mm_pop, mm_find, mm_push, mm_cats, mm_cat, mm_reti, mm_retz, mm_retl, mm_reta, mm_retv, mm_set1, mm_set2, mm_kill, List.getElem?_cons_zero, List.getElem?_cons_succ, Int.reduceToNat, ↓reduceIte, Nat.reduceEqDiff, Nat.reduceDiv, Nat.reduceAdd, Nat.reduceLeDiff, Nat.zero_le, true_and, and_true, true_or, or_true, mm_b0, mm_b1, mm_lc_lt, mm_lc_le, mm_lc_gt, mm_lc_ge, mm_lc_eq, Int.not_lt, Int.not_le, Decidable.not_not, Int.sub_neg, c_0, c_1, c_2, l_2, c_3, c_4, l_4, c_5, l_5, c_6, l_6, c_7, l_7, c_8, c_9, l_9, c_10, l_10, c_11, l_11, c_12, l_12, c_13, c_14, l_14, c_15, l_15, c_16, l_16, c_17, l_17, c_18, c_19, l_19, c_20, l_20, c_21, l_21, c_22, l_22, c_23, c_24, l_24, c_25, l_25, c_26, c_27, c_28, l_28, c_29, c_30, l_30, c_31, c_32, l_32, c_33, l_33, c_34, l_34, c_35, l_35, c_36, l_36, c_37, l_37, c_38, l_38, c_39, l_39, c_40, c_41, l_41, c_42, c_43, c_44, l_44, c_45, c_46, l_46, c_47, c_48, l_48, c_49, l_49, c_50, l_50, c_51, l_51, c_52, l_52, c_53, l_53, c_54, l_54, c_55, l_55, c_56, l_56, c_57, l_57, c_58, l_58, c_59, l_59, c_60, l_60, c_61, l_61, c_62, c_63, l_63, c_64, l_64, c_65, l_65, c_66, l_66, c_67, l_67, c_68, l_68, c_69, l_69, c_70, l_70, c_71, l_71, c_72, l_72, c_73, l_73, c_74, l_74, c_75, l_75, c_76, l_76]
      refine ⟨fun z2 => h55 z1 z2, fun z2 => ⟨by omega, h56 _ ?_⟩⟩
      rw [if_neg z1, if_pos (by omega)] at hq
      exact hq
    refine ⟨fun z => h38 z, fun z => h56 _ ?_⟩
    rw [if_pos z] at hq
    exact hq
  refine hJ 0 _ _ _ (show mm_wp _ _ _ mo_M_planned_0 _ _ _ from ?_)
  simp only [mo_M_planned_0, mm_wp, mm_ldi, mm_lda, mm_ldl, mm_sti, mm_sta, mm_stl, mm_inc, mm_2i, mm_mm, mm_2l, mm_lcmp, mm_i2l, mm_l2i, mm_cast8, mm_if1, mm_if2, mm_cmp, mm_swi, mm_sw, mm_pop1, mm_dup, mm_dup2, mm_geti, mm_geta, mm_puti, mm_iald, mm_bald, mm_aald, mm_iast, mm_bast, mm_alen, mm_acpy, mm_call, mm_callv, mm_recv, mm_pop, mm_find, mm_push, mm_cats, mm_cat, mm_reti, mm_retz, mm_retl, mm_reta, mm_retv, mm_set1, mm_set2, mm_kill, List.getElem?_cons_zero, List.getElem?_cons_succ, Int.reduceToNat, ↓reduceIte, Nat.reduceEqDiff, Nat.reduceDiv, Nat.reduceAdd, Nat.reduceLeDiff, Nat.zero_le, true_and, and_true, true_or, or_true, mm_b0, mm_b1, mm_lc_lt, mm_lc_le, mm_lc_gt, mm_lc_ge, mm_lc_eq, Int.not_lt, Int.not_le, Decidable.not_not, Int.sub_neg, c_0, c_1, c_2, l_2, c_3, c_4, l_4, c_5, l_5, c_6, l_6, c_7, l_7, c_8, c_9, l_9, c_10, l_10, c_11, l_11, c_12, l_12, c_13, c_14, l_14, c_15, l_15, c_16, l_16, c_17, l_17, c_18, c_19, l_19, c_20, l_20, c_21, l_21, c_22, l_22, c_23, c_24, l_24, c_25, l_25, c_26, c_27, c_28, l_28, c_29, c_30, l_30, c_31, c_32, l_32, c_33, l_33, c_34, l_34, c_35, l_35, c_36, l_36, c_37, l_37, c_38, l_38, c_39, l_39, c_40, c_41, l_41, c_42, c_43, c_44, l_44, c_45, c_46, l_46, c_47, c_48, l_48, c_49, l_49, c_50, l_50, c_51, l_51, c_52, l_52, c_53, l_53, c_54, l_54, c_55, l_55, c_56, l_56, c_57, l_57, c_58, l_58, c_59, l_59, c_60, l_60, c_61, l_61, c_62, c_63, l_63, c_64, l_64, c_65, l_65, c_66, l_66, c_67, l_67, c_68, l_68, c_69, l_69, c_70, l_70, c_71, l_71, c_72, l_72, c_73, l_73, c_74, l_74, c_75, l_75, c_76, l_76, t_M_isPlan]
  exact ⟨fun z => h18 (by omega), fun z => ⟨fun z2 => h20 (by omega), fun z2 => h18 (by omega)⟩⟩
