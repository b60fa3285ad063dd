/-! the reference: the plan parted -/
theorem sh_E {f l P : Int → Int} {a : Nat} : ∀ m : Nat, sN (stE f l (fun i => P (a + i))) (m + 1) = dA 0 (f (P a)) + dA (-1) (l (P a)) + (sN (stE f l P) (a + 1 + m) - sN (stE f l P) (a + 1))
  | 0 => by
    have e : stE f l (fun i => P (a + i)) ((0 : Nat) : Int) = dA 0 (f (P (a + ((0 : Nat) : Int)))) + dA (-1) (l (P (a + ((0 : Nat) : Int)))) := rfl
    simp only [sN]
    rw [e, show (a : Int) + ((0 : Nat) : Int) = a by omega]
    omega
  | m + 1 => by
    have ih := sh_E (f := f) (l := l) (P := P) (a := a) m
    have e1 : sN (stE f l (fun i => P (a + i))) (m + 1 + 1) = sN (stE f l (fun i => P (a + i))) (m + 1) + stE f l (fun i => P (a + i)) ((m + 1 : Nat) : Int) := rfl
    have e2 : sN (stE f l P) (a + 1 + (m + 1)) = sN (stE f l P) (a + 1 + m) + stE f l P ((a + 1 + m : Nat) : Int) := rfl
    have e3 : stE f l (fun i => P (a + i)) ((m + 1 : Nat) : Int) = stE f l P ((a + 1 + m : Nat) : Int) := by
      unfold stE
      show dA _ (f (P (a + ((m + 1 : Nat) : Int)))) + dA _ (l (P (a + ((m + 1 : Nat) : Int)))) = _
      rw [pv_s, pv_s, show a + 1 + m = a + m + 1 by omega, pv_s, pv_s]
      rw [show (a : Int) + ((m + 1 : Nat) : Int) = ((a + m + 1 : Nat) : Int) by omega, show (a : Int) + (m : Int) = ((a + m : Nat) : Int) by omega]
    rw [e1, e2, e3, ih]
    omega
theorem sh_U {t P : Int → Int} {a : Nat} : ∀ m : Nat, sN (stU t (fun i => P (a + i))) (m + 1) = dA 0 (t (P a)) + (sN (stU t P) (a + 1 + m) - sN (stU t P) (a + 1))
  | 0 => by
    have e : stU t (fun i => P (a + i)) ((0 : Nat) : Int) = dA 0 (t (P (a + ((0 : Nat) : Int)))) := rfl
    simp only [sN]
    rw [e, show (a : Int) + ((0 : Nat) : Int) = a by omega]
    omega
  | m + 1 => by
    have ih := sh_U (t := t) (P := P) (a := a) m
    have e1 : sN (stU t (fun i => P (a + i))) (m + 1 + 1) = sN (stU t (fun i => P (a + i))) (m + 1) + stU t (fun i => P (a + i)) ((m + 1 : Nat) : Int) := rfl
    have e2 : sN (stU t P) (a + 1 + (m + 1)) = sN (stU t P) (a + 1 + m) + stU t P ((a + 1 + m : Nat) : Int) := rfl
    have e3 : stU t (fun i => P (a + i)) ((m + 1 : Nat) : Int) = stU t P ((a + 1 + m : Nat) : Int) := by
      unfold stU
      show dA _ (t (P (a + ((m + 1 : Nat) : Int)))) = _
      rw [pv_s, show a + 1 + m = a + m + 1 by omega, pv_s]
      rw [show (a : Int) + ((m + 1 : Nat) : Int) = ((a + m + 1 : Nat) : Int) by omega, show (a : Int) + (m : Int) = ((a + m : Nat) : Int) by omega]
    rw [e1, e2, e3, ih]
    omega
theorem cr_eq {f l t P : Int → Int} {n w a b : Int} (h0 : 0 ≤ a) (h1 : a ≤ b) (h2 : b ≤ n) : crF f l t P n w a b = coF f l t (fun i => P (a + i)) (b - a) w := by
  unfold crF crW
  by_cases c : b ≤ a
  · rw [if_pos (by omega), show b - a = 0 by omega]
    simp [coF, sN]
  · rw [if_neg (by omega)]
    obtain ⟨A, rfl⟩ : ∃ A : Nat, a = A := ⟨a.toNat, by omega⟩
    obtain ⟨m, hm⟩ : ∃ m : Nat, b = A + 1 + m := ⟨(b - A - 1).toNat, by omega⟩
    subst hm
    unfold anW coF
    show _ + (sN (stE f l P) ((A : Int) + 1 + m - 1 + 1).toNat + w * sN (stU t P) ((A : Int) + 1 + m - 1 + 1).toNat) - (sN (stE f l P) ((A : Int) + 1).toNat + w * sN (stU t P) ((A : Int) + 1).toNat) = _
    rw [show ((A : Int) + 1 + m - A).toNat = m + 1 by omega, show ((A : Int) + 1 + m - 1 + 1).toNat = A + 1 + m by omega, show ((A : Int) + 1).toNat = A + 1 by omega, sh_E, sh_U, Int.mul_add, Int.mul_sub]
    omega
theorem mnN_b {I : Int} {g : Int → Int} {a : Int} (hI : 0 ≤ I) (hg : ∀ j, 0 ≤ g j) : ∀ k : Nat, 0 ≤ mnN I g a k ∧ mnN I g a k ≤ I
  | 0 => ⟨hI, Int.le_refl _⟩
  | k + 1 => by
    have := mnN_b (a := a) hI hg k
    have := hg (a + k)
    simp only [mnN]
    omega
theorem lsF_b {I : Int} {c : Int → Int → Int} {n : Int} (hI : 0 ≤ I) (hc : ∀ a b, 0 ≤ c a b) : ∀ (h : Nat) (a : Int), 0 ≤ lsF I c n h a ∧ lsF I c n h a ≤ I
  | 0, a => by
    simp only [lsF]
    split <;> omega
  | h + 1, a => by
    simp only [lsF]
    exact mnN_b hI (fun j => by have := hc a j; omega) _
/-- memory as it was but for the table and what along tells -/
def spG (M M' : mmM) : Prop := (∀ o', o' ≠ 62 → o' ≠ 76 → M' o' = M o') ∧ ∀ j, j ≠ 35 → j ≠ 36 → j ≠ 37 → M' 62 j = M 62 j
def spP (M : mmM) : Prop := mqB M ∧ 0 ≤ M 62 10 ∧ M 62 10 ≤ 9 ∧ 0 ≤ M 62 33 ∧ M 62 33 ≤ 24 ∧ alQ M 0 (M 62 33)
theorem spP_G {M M' : mmM} (h : spG M M') (hp : spP M) : spP M' := by
  have e67 := h.1 67 (by decide) (by decide)
  have e75 := h.1 75 (by decide) (by decide)
  unfold spP mqB alQ mf ml mt at hp ⊢
  rw [h.2 8 (by decide) (by decide) (by decide), h.2 10 (by decide) (by decide) (by decide), h.2 33 (by decide) (by decide) (by decide), e67, e75]
  exact hp
/-- the cost of a part of the plan that lies in memory -/
def crM (M : mmM) : Int → Int → Int := crF (mf M) (ml M) (mt M) (M 75) (M 62 33) (M 62 10)
theorem crM_G {M M' : mmM} (h : spG M M') : crM M' = crM M := by
  have e67 := h.1 67 (by decide) (by decide)
  have e75 := h.1 75 (by decide) (by decide)
  unfold crM mf ml mt
  rw [h.2 10 (by decide) (by decide) (by decide), h.2 33 (by decide) (by decide) (by decide), e67, e75]
theorem crM_b {M : mmM} (h : spP M) (a b : Int) : 0 ≤ crM M a b ∧ crM M a b ≤ 30000 := by
  obtain ⟨hB, w0, w1, n0, n1, hP⟩ := h
  by_cases c : a < 0 ∨ b ≤ a ∨ M 62 33 < b
  · have : crM M a b = 0 := by unfold crM crF crW; exact if_pos c
    omega
  · unfold crM
    rw [cr_eq (by omega) (by omega) (by omega)]
    have hv := alQ_v (a := a) (b := b) hB (fun i i0 i1 => hP i (by omega) (by omega))
    have hS := al_s hv (b - a).toNat (Nat.le_refl _)
    have hm := mul_b (a := M 62 10) (b := sN (stU (mt M) (mP M a)) (b - a).toNat) (A := 9) (B := 2400) w0 w1 hS.2.2.1 (by omega)
    show 0 ≤ coF (mf M) (ml M) (mt M) (mP M a) (b - a) (M 62 10) ∧ coF (mf M) (ml M) (mt M) (mP M a) (b - a) (M 62 10) ≤ 30000
    unfold coF
    omega
/-- cost(a, b) at a memory like M -/
theorem cost_call {M M1 : mmM} {a b : Int} {Q : mmP} (hp : spP M) (hg : spG M M1) (a0 : 0 ≤ a) (ab : a ≤ b) (bn : b ≤ M 62 33) (h : ∀ M2, spG M M2 → M2 76 = M1 76 → Q (some (vi (crM M a b))) M2) : t_M_cost [vr 62, vi a, vi b] M1 Q := by
  have hp1 := spP_G hg hp
  have e33 : M1 62 33 = M 62 33 := hg.2 33 (by decide) (by decide) (by decide)
  have hc := crM_G hg
  have n1 := hp.2.2.2.2.1
  refine ⟨rfl, hp1.1, hp1.2.1, hp1.2.2.1, a0, ab, by omega, fun i i0 i1 => hp1.2.2.2.2.2 i (by omega) (by omega), fun M2 f1 f2 _ _ _ _ _ => ?_⟩
  have e : coF (mf M1) (ml M1) (mt M1) (mP M1 a) (b - a) (M1 62 10) = crM M a b := by
    rw [← hc]
    unfold crM
    rw [cr_eq a0 ab (by omega)]
    rfl
  rw [e]
  exact h M2 ⟨fun o' c1 c2 => by rw [f1 o' c1, hg.1 o' c1 c2], fun j c1 c2 c3 => by rw [f2 j c1 c2 c3, hg.2 j c1 c2 c3]⟩ (f1 76 (by decide))
/-- the table's rows ahead of w, and its row w behind i -/
def spT (M M1 : mmM) (w : Nat) (i : Int) : Prop := ∀ (h : Nat) (a : Int), 0 ≤ a → a ≤ M 62 33 → (h < w ∨ h = w ∧ i < a) → M1 76 (25 * h + a) = lsF 1000000 (crM M) (M 62 33) h a
def t_M_laysSplit : mmT := fun as M Q => match as with
  | [.inr (.inr o), .inl k] => o = 62 ∧ spP M ∧ 1 ≤ k ∧ k ≤ 4 ∧ ∀ M', spG M M' → (∀ (h : Nat) (a : Int), (h : Int) ≤ k → 0 ≤ a → a ≤ M 62 33 → M' 76 (25 * h + a) = lsF 1000000 (crM M) (M 62 33) h a) → Q none M'
  | _ => False
set_option maxHeartbeats 4000000 in
set_option maxRecDepth 100000 in
theorem p_M_laysSplit : ∀ as M Q, (∀ v ∈ as, mm_vin v) → mm_mem M → t_M_laysSplit as M Q → (mm_ent as).length ≤ 9 ∧ mm_ok mb_M_laysSplit [(1157, t_M_cost)] (mm_entry 9 as) M Q := by
  intro as M Q hin hM h
  unfold t_M_laysSplit at h
  split at h
  rotate_left
  · exact h.elim
  rename_i o k
  have hR_k : mm_R k := hin (vi k) (by simp)
  refine ⟨by simp [mm_ent], (show mm_ok mb_M_laysSplit [(1157, t_M_cost)] [some (vr o), some (vi k), none, none, none, none, none, none, none] M Q from ?_)⟩
  intro J hJ
  obtain ⟨rfl, hp, k1, k4, h⟩ := h
  have n0 := hp.2.2.2.1
  have n1 := hp.2.2.2.2.1
  have hcb := crM_b hp
  have hlb := lsF_b (I := 1000000) (c := crM M) (n := M 62 33) (by omega) (fun a b => (hcb a b).1)
  have hmid : ∀ (w : Nat), (w : Int) ≤ k → (∀ (M1 : mmM) (x3 x4 x5 x6 x7 x8 : Option mmV), spG M M1 → spT M M1 (w + 1) (M 62 33) → J 2 [some (vr 62), some (vi k), some (vi ((w : Int) + 1)), x3, x4, x5, x6, x7, x8] [] M1) → ∀ (d : Nat) (M1 : mmM) (x4 x5 x6 x7 x8 : Option mmV), (d : Int) ≤ M 62 33 + 1 → spG M M1 → spT M M1 w ((d : Int) - 1) → J 12 [some (vr 62), some (vi k), some (vi w), some (vi ((d : Int) - 1)), x4, x5, x6, x7, x8] [] M1 := by
    intro w hw hnext d
    induction d with
    | zero =>
      intro M1 x4 x5 x6 x7 x8 hd hg ht
      have h153 : J 153 [some (vr 62), some (vi k), some (vi w), some (vi (((0 : Nat) : Int) - 1)), x4, x5, x6, x7, x8] [] M1 := by
        refine hJ 153 _ _ _ (show mm_wp _ _ _ mo_M_laysSplit_153 _ _ _ from ?_)
        simp only [mo_M_laysSplit_153, mm_wp, mm_ldi, mm_lda, mm_ldl, mm_sti, mm_sta, mm_stl, mm_inc, mm_2i, mm_mm, mm_2l, mm_lcmp, mm_i2l, mm_l2i, mm_cast8, mm_if1, mm_if2, mm_cmp, mm_swi, mm_sw, mm_pop1, mm_dup, mm_dup2, mm_geti, mm_geta, mm_puti, mm_iald, mm_bald, mm_aald, mm_iast, mm_bast, mm_alen, mm_acpy, mm_call, mm_callv, mm_recv, mm_pop, mm_find, mm_push, mm_cats, mm_cat, mm_reti, mm_retz, mm_retl, mm_reta, mm_retv, mm_set1, mm_set2, mm_kill, List.getElem?_cons_zero, List.getElem?_cons_succ, Int.reduceToNat, ↓reduceIte, Nat.reduceEqDiff, Nat.reduceDiv, Nat.reduceAdd, Nat.reduceLeDiff, Nat.zero_le, true_and, and_true, true_or, or_true, mm_b0, mm_b1, mm_lc_lt, mm_lc_le, mm_lc_gt, mm_lc_ge, mm_lc_eq, Int.not_lt, Int.not_le, Decidable.not_not, Int.sub_neg]
        refine ⟨by omega, hnext M1 _ _ _ _ _ _ hg (fun h a a0 a1 hc => ht h a a0 a1 (by omega))⟩
      refine hJ 12 _ _ _ (show mm_wp _ _ _ mo_M_laysSplit_12 _ _ _ from ?_)
      simp only [mo_M_laysSplit_12, mm_wp, mm_ldi, mm_lda, mm_ldl, mm_sti, mm_sta, mm_stl, mm_inc, mm_2i, mm_mm, mm_2l, mm_lcmp, mm_i2l, mm_l2i, mm_cast8, mm_if1, mm_if2, mm_cmp, mm_swi, mm_sw, mm_pop1, mm_dup, mm_dup2, mm_geti, mm_geta, mm_puti, mm_iald, mm_bald, mm_aald, mm_iast, mm_bast, mm_alen, mm_acpy, mm_call, mm_callv, mm_recv, mm_pop, mm_find, mm_push, mm_cats, mm_cat, mm_reti, mm_retz, mm_retl, mm_reta, mm_retv, mm_set1, mm_set2, mm_kill, List.getElem?_cons_zero, List.getElem?_cons_succ, Int.reduceToNat, ↓reduceIte, Nat.reduceEqDiff, Nat.reduceDiv, Nat.reduceAdd, Nat.reduceLeDiff, Nat.zero_le, true_and, and_true, true_or, or_true, mm_b0, mm_b1, mm_lc_lt, mm_lc_le, mm_lc_gt, mm_lc_ge, mm_lc_eq, Int.not_lt, Int.not_le, Decidable.not_not, Int.sub_neg]
      exact ⟨fun _ => h153, fun z => by omega⟩
    | succ d ih =>
      intro M1 x4 x5 x6 x7 x8 hd hg ht
      rw [show (((d + 1 : Nat) : Int) - 1) = (d : Int) by omega] at ht ⊢
      have e33 : M1 62 33 = M 62 33 := hg.2 33 (by decide) (by decide) (by decide)
      have h134 : ∀ (x5 x6 x7 x8 : Option mmV) (M2 : mmM), spG M M2 → M2 76 = M1 76 → J 134 [some (vr 62), some (vi k), some (vi w), some (vi d), some (vi (lsF 1000000 (crM M) (M 62 33) w d)), x5, x6, x7, x8] [] M2 := by
        intro x5 x6 x7 x8 M2 hg2 h76
        refine hJ 134 _ _ _ (show mm_wp _ _ _ mo_M_laysSplit_134 _ _ _ from ?_)
        simp only [mo_M_laysSplit_134, mm_wp, mm_ldi, mm_lda, mm_ldl, mm_sti, mm_sta, mm_stl, mm_inc, mm_2i, mm_mm, mm_2l, mm_lcmp, mm_i2l, mm_l2i, mm_cast8, mm_if1, mm_if2, mm_cmp, mm_swi, mm_sw, mm_pop1, mm_dup, mm_dup2, mm_geti, mm_geta, mm_puti, mm_iald, mm_bald, mm_aald, mm_iast, mm_bast, mm_alen, mm_acpy, mm_call, mm_callv, mm_recv, mm_pop, mm_find, mm_push, mm_cats, mm_cat, mm_reti, mm_retz, mm_retl, mm_reta, mm_retv, mm_set1, mm_set2, mm_kill, List.getElem?_cons_zero, List.getElem?_cons_succ, Int.reduceToNat, ↓reduceIte, Nat.reduceEqDiff, Nat.reduceDiv, Nat.reduceAdd, Nat.reduceLeDiff, Nat.zero_le, true_and, and_true, true_or, or_true, mm_b0, mm_b1, mm_lc_lt, mm_lc_le, mm_lc_gt, mm_lc_ge, mm_lc_eq, Int.not_lt, Int.not_le, Decidable.not_not, Int.sub_neg, c_0, c_1, c_2, l_2, c_3, c_4, l_4, c_5, l_5, c_6, l_6, c_7, l_7, c_8, c_9, l_9, c_10, l_10, c_11, l_11, c_12, l_12, c_13, c_14, l_14, c_15, l_15, c_16, l_16, c_17, l_17, c_18, c_19, l_19, c_20, l_20, c_21, l_21, c_22, l_22, c_23, c_24, l_24, c_25, l_25, c_26, c_27, c_28, l_28, c_29, c_30, l_30, c_31, c_32, l_32, c_33, l_33, c_34, l_34, c_35, l_35, c_36, l_36, c_37, l_37, c_38, l_38, c_39, l_39, c_40, c_41, l_41, c_42, c_43, c_44, l_44, c_45, c_46, l_46, c_47, c_48, l_48, c_49, l_49, c_50, l_50, c_51, l_51, c_52, l_52, c_53, l_53, c_54, l_54, c_55, l_55, c_56, l_56, c_57, l_57, c_58, l_58, c_59, l_59, c_60, l_60, c_61, l_61, c_62, c_63, l_63, c_64, l_64, c_65, l_65, c_66, l_66, c_67, l_67, c_68, l_68, c_69, l_69, c_70, l_70, c_71, l_71, c_72, l_72, c_73, l_73, c_74, l_74, c_75, l_75, c_76, l_76]
        refine ⟨by omega, by omega, by omega, by omega, ih _ _ _ _ _ _ (by omega) ⟨fun o' c1 c2 => by rw [mm_up_o _ _ c2, hg2.1 o' c1 c2], fun j c1 c2 c3 => by rw [mm_up_o _ _ (by decide), hg2.2 j c1 c2 c3]⟩ (fun h a a0 a1 hc => ?_)⟩
        rw [mm_up_if]
        by_cases c : h = w ∧ a = d
        · rw [if_pos (by omega), c.1, c.2]
        · rw [if_neg (by omega), h76]
          exact ht h a a0 a1 (by omega)
      have h51 : ∀ (z : Int) (x4 x5 x6 x7 x8 : Option mmV), (w = 0 → z = lsF 1000000 (crM M) (M 62 33) 0 d) → (∀ w', w = w' + 1 → z = lsF 1000000 (crM M) (M 62 33) w' d) → J 51 [some (vr 62), some (vi k), some (vi w), some (vi d), x4, x5, x6, x7, x8] [vi z] M1 := by
        intro z x4 x5 x6 x7 x8 hz0 hz1
        cases w with
        | zero =>
          have h58 : ∀ x5 : Int, J 58 [some (vr 62), some (vi k), some (vi (0 : Nat)), some (vi d), some (vi z), some (vi x5), x6, x7, x8] [] M1 := by
            intro x5
            have := h134 (some (vi x5)) x6 x7 x8 M1 hg rfl
            rw [← hz0 rfl] at this
            refine hJ 58 _ _ _ (show mm_wp _ _ _ mo_M_laysSplit_58 _ _ _ from ?_)
            simp only [mo_M_laysSplit_58, mm_wp, mm_ldi, mm_lda, mm_ldl, mm_sti, mm_sta, mm_stl, mm_inc, mm_2i, mm_mm, mm_2l, mm_lcmp, mm_i2l, mm_l2i, mm_cast8, mm_if1, mm_if2, mm_cmp, mm_swi, mm_sw, mm_pop1, mm_dup, mm_dup2, mm_geti, mm_geta, mm_puti, mm_iald, mm_bald, mm_aald, mm_iast, mm_bast, mm_alen, mm_acpy, mm_call, mm_callv, mm_recv, mm_pop, mm_find, mm_push, mm_cats, mm_cat, mm_reti, mm_retz, mm_retl, mm_reta, mm_retv, mm_set1, mm_set2, mm_kill, List.getElem?_cons_zero, List.getElem?_cons_succ, Int.reduceToNat, ↓reduceIte, Nat.reduceEqDiff, Nat.reduceDiv, Nat.reduceAdd, Nat.reduceLeDiff, Nat.zero_le, true_and, and_true, true_or, or_true, mm_b0, mm_b1, mm_lc_lt, mm_lc_le, mm_lc_gt, mm_lc_ge, mm_lc_eq, Int.not_lt, Int.not_le, Decidable.not_not, Int.sub_neg, c_0, c_1, c_2, l_2, c_3, c_4, l_4, c_5, l_5, c_6, l_6, c_7, l_7, c_8, c_9, l_9, c_10, l_10, c_11, l_11, c_12, l_12, c_13, c_14, l_14, c_15, l_15, c_16, l_16, c_17, l_17, c_18, c_19, l_19, c_20, l_20, c_21, l_21, c_22, l_22, c_23, c_24, l_24, c_25, l_25, c_26, c_27, c_28, l_28, c_29, c_30, l_30, c_31, c_32, l_32, c_33, l_33, c_34, l_34, c_35, l_35, c_36, l_36, c_37, l_37, c_38, l_38, c_39, l_39, c_40, c_41, l_41, c_42, c_43, c_44, l_44, c_45, c_46, l_46, c_47, c_48, l_48, c_49, l_49, c_50, l_50, c_51, l_51, c_52, l_52, c_53, l_53, c_54, l_54, c_55, l_55, c_56, l_56, c_57, l_57, c_58, l_58, c_59, l_59, c_60, l_60, c_61, l_61, c_62, c_63, l_63, c_64, l_64, c_65, l_65, c_66, l_66, c_67, l_67, c_68, l_68, c_69, l_69, c_70, l_70, c_71, l_71, c_72, l_72, c_73, l_73, c_74, l_74, c_75, l_75, c_76, l_76]
            exact ⟨fun _ => this, fun _ => ⟨fun _ => this, fun z => by omega⟩⟩
          refine hJ 51 _ _ _ (show mm_wp _ _ _ mo_M_laysSplit_51 _ _ _ from ?_)
          simp only [mo_M_laysSplit_51, mm_wp, mm_ldi, mm_lda, mm_ldl, mm_sti, mm_sta, mm_stl, mm_inc, mm_2i, mm_mm, mm_2l, mm_lcmp, mm_i2l, mm_l2i, mm_cast8, mm_if1, mm_if2, mm_cmp, mm_swi, mm_sw, mm_pop1, mm_dup, mm_dup2, mm_geti, mm_geta, mm_puti, mm_iald, mm_bald, mm_aald, mm_iast, mm_bast, mm_alen, mm_acpy, mm_call, mm_callv, mm_recv, mm_pop, mm_find, mm_push, mm_cats, mm_cat, mm_reti, mm_retz, mm_retl, mm_reta, mm_retv, mm_set1, mm_set2, mm_kill, List.getElem?_cons_zero, List.getElem?_cons_succ, Int.reduceToNat, ↓reduceIte, Nat.reduceEqDiff, Nat.reduceDiv, Nat.reduceAdd, Nat.reduceLeDiff, Nat.zero_le, true_and, and_true, true_or, or_true, mm_b0, mm_b1, mm_lc_lt, mm_lc_le, mm_lc_gt, mm_lc_ge, mm_lc_eq, Int.not_lt, Int.not_le, Decidable.not_not, Int.sub_neg]
          exact ⟨by omega, h58 _⟩
        | succ w' =>
          have hz := hz1 w' rfl
          have hw' : ((w' + 1 : Nat) : Int) = (w' : Int) + 1 := by omega
          rw [hw'] at h134 hw ⊢
          have hg9 : ∀ j, 0 ≤ (fun j => max (crM M d j) (lsF 1000000 (crM M) (M 62 33) w' j)) j := fun j => by have := (hcb d j).1; show 0 ≤ max _ _; omega
          have hls : lsF 1000000 (crM M) (M 62 33) (w' + 1) d = mnN 1000000 (fun j => max (crM M d j) (lsF 1000000 (crM M) (M 62 33) w' j)) d (M 62 33 - d + 1).toNat := rfl
          have hmb := mnN_b (I := 1000000) (a := (d : Int)) (by omega) hg9
          have hin : ∀ (e m : Nat) (x6 x7 x8 : Option mmV) (M2 : mmM), spG M M2 → M2 76 = M1 76 → (d : Int) + m + e = M 62 33 + 1 → 1 ≤ m → J 58 [some (vr 62), some (vi k), some (vi ((w' : Int) + 1)), some (vi d), some (vi (mnN 1000000 (fun j => max (crM M d j) (lsF 1000000 (crM M) (M 62 33) w' j)) d m)), some (vi ((d : Int) + m)), x6, x7, x8] [] M2 := by
            intro e
            induction e with
            | zero =>
              intro m x6 x7 x8 M2 hg2 h76 hm hm1
              have := h134 (some (vi ((d : Int) + m))) x6 x7 x8 M2 hg2 h76
              rw [hls, show (M 62 33 - d + 1).toNat = m by omega] at this
              have f33 : M2 62 33 = M 62 33 := hg2.2 33 (by decide) (by decide) (by decide)
              refine hJ 58 _ _ _ (show mm_wp _ _ _ mo_M_laysSplit_58 _ _ _ from ?_)
              simp only [mo_M_laysSplit_58, mm_wp, mm_ldi, mm_lda, mm_ldl, mm_sti, mm_sta, mm_stl, mm_inc, mm_2i, mm_mm, mm_2l, mm_lcmp, mm_i2l, mm_l2i, mm_cast8, mm_if1, mm_if2, mm_cmp, mm_swi, mm_sw, mm_pop1, mm_dup, mm_dup2, mm_geti, mm_geta, mm_puti, mm_iald, mm_bald, mm_aald, mm_iast, mm_bast, mm_alen, mm_acpy, mm_call, mm_callv, mm_recv, mm_pop, mm_find, mm_push, mm_cats, mm_cat, mm_reti, mm_retz, mm_retl, mm_reta, mm_retv, mm_set1, mm_set2, mm_kill, List.getElem?_cons_zero, List.getElem?_cons_succ, Int.reduceToNat, ↓reduceIte, Nat.reduceEqDiff, Nat.reduceDiv, Nat.reduceAdd, Nat.reduceLeDiff, Nat.zero_le, true_and, and_true, true_or, or_true, mm_b0, mm_b1, mm_lc_lt, mm_lc_le, mm_lc_gt, mm_lc_ge, mm_lc_eq, Int.not_lt, Int.not_le, Decidable.not_not, Int.sub_neg, c_0, c_1, c_2, l_2, c_3, c_4, l_4, c_5, l_5, c_6, l_6, c_7, l_7, c_8, c_9, l_9, c_10, l_10, c_11, l_11, c_12, l_12, c_13, c_14, l_14, c_15, l_15, c_16, l_16, c_17, l_17, c_18, c_19, l_19, c_20, l_20, c_21, l_21, c_22, l_22, c_23, c_24, l_24, c_25, l_25, c_26, c_27, c_28, l_28, c_29, c_30, l_30, c_31, c_32, l_32, c_33, l_33, c_34, l_34, c_35, l_35, c_36, l_36, c_37, l_37, c_38, l_38, c_39, l_39, c_40, c_41, l_41, c_42, c_43, c_44, l_44, c_45, c_46, l_46, c_47, c_48, l_48, c_49, l_49, c_50, l_50, c_51, l_51, c_52, l_52, c_53, l_53, c_54, l_54, c_55, l_55, c_56, l_56, c_57, l_57, c_58, l_58, c_59, l_59, c_60, l_60, c_61, l_61, c_62, c_63, l_63, c_64, l_64, c_65, l_65, c_66, l_66, c_67, l_67, c_68, l_68, c_69, l_69, c_70, l_70, c_71, l_71, c_72, l_72, c_73, l_73, c_74, l_74, c_75, l_75, c_76, l_76, f33]
              exact ⟨fun _ => this, fun z => by omega⟩
            | succ e ih2 =>
              intro m x6 x7 x8 M2 hg2 h76 hm hm1
              have f33 : M2 62 33 = M 62 33 := hg2.2 33 (by decide) (by decide) (by decide)
              have hb1 := hmb m
              have hb2 := hmb (m + 1)
              have hb3 := hcb d ((d : Int) + m)
              have hb4 := hlb w' ((d : Int) + m)
              have hst : mnN 1000000 (fun j => max (crM M d j) (lsF 1000000 (crM M) (M 62 33) w' j)) d (m + 1) = min (mnN 1000000 (fun j => max (crM M d j) (lsF 1000000 (crM M) (M 62 33) w' j)) d m) (max (crM M d ((d : Int) + m)) (lsF 1000000 (crM M) (M 62 33) w' ((d : Int) + m))) := rfl
              refine hJ 58 _ _ _ (show mm_wp _ _ _ mo_M_laysSplit_58 _ _ _ from ?_)
              simp only [mo_M_laysSplit_58, mm_wp, mm_ldi, mm_lda, mm_ldl, mm_sti, mm_sta, mm_stl, mm_inc, mm_2i, mm_mm, mm_2l, mm_lcmp, mm_i2l, mm_l2i, mm_cast8, mm_if1, mm_if2, mm_cmp, mm_swi, mm_sw, mm_pop1, mm_dup, mm_dup2, mm_geti, mm_geta, mm_puti, mm_iald, mm_bald, mm_aald, mm_iast, mm_bast, mm_alen, mm_acpy, mm_call, mm_callv, mm_recv, mm_pop, mm_find, mm_push, mm_cats, mm_cat, mm_reti, mm_retz, mm_retl, mm_reta, mm_retv, mm_set1, mm_set2, mm_kill, List.getElem?_cons_zero, List.getElem?_cons_succ, Int.reduceToNat, ↓reduceIte, Nat.reduceEqDiff, Nat.reduceDiv, Nat.reduceAdd, Nat.reduceLeDiff, Nat.zero_le, true_and, and_true, true_or, or_true, mm_b0, mm_b1, mm_lc_lt, mm_lc_le, mm_lc_gt, mm_lc_ge, mm_lc_eq, Int.not_lt, Int.not_le, Decidable.not_not, Int.sub_neg, c_0, c_1, c_2, l_2, c_3, c_4, l_4, c_5, l_5, c_6, l_6, c_7, l_7, c_8, c_9, l_9, c_10, l_10, c_11, l_11, c_12, l_12, c_13, c_14, l_14, c_15, l_15, c_16, l_16, c_17, l_17, c_18, c_19, l_19, c_20, l_20, c_21, l_21, c_22, l_22, c_23, c_24, l_24, c_25, l_25, c_26, c_27, c_28, l_28, c_29, c_30, l_30, c_31, c_32, l_32, c_33, l_33, c_34, l_34, c_35, l_35, c_36, l_36, c_37, l_37, c_38, l_38, c_39, l_39, c_40, c_41, l_41, c_42, c_43, c_44, l_44, c_45, c_46, l_46, c_47, c_48, l_48, c_49, l_49, c_50, l_50, c_51, l_51, c_52, l_52, c_53, l_53, c_54, l_54, c_55, l_55, c_56, l_56, c_57, l_57, c_58, l_58, c_59, l_59, c_60, l_60, c_61, l_61, c_62, c_63, l_63, c_64, l_64, c_65, l_65, c_66, l_66, c_67, l_67, c_68, l_68, c_69, l_69, c_70, l_70, c_71, l_71, c_72, l_72, c_73, l_73, c_74, l_74, c_75, l_75, c_76, l_76, f33]
              refine ⟨fun z => by omega, fun _ => ⟨fun z => by omega, fun _ => cost_call hp hg2 (by omega) (by omega) (by omega) (fun M3 hg3 g76 => ?_)⟩⟩
              have hv : M3 76 (25 * ((w' : Int) + 1 - 1) + ((d : Int) + m)) = lsF 1000000 (crM M) (M 62 33) w' ((d : Int) + m) := by
                rw [g76, h76, show 25 * ((w' : Int) + 1 - 1) + ((d : Int) + m) = 25 * (w' : Int) + ((d : Int) + m) by omega]
                exact ht w' _ (by omega) (by omega) (Or.inl (by omega))
              have h126 : ∀ (z : Int) (x4 x6 x7 x8 : Option mmV), z = mnN 1000000 (fun j => max (crM M d j) (lsF 1000000 (crM M) (M 62 33) w' j)) d (m + 1) → J 126 [some (vr 62), some (vi k), some (vi ((w' : Int) + 1)), some (vi d), x4, some (vi ((d : Int) + m)), x6, x7, x8] [vi z] M3 := by
                intro z x4 x6 x7 x8 hz
                refine hJ 126 _ _ _ (show mm_wp _ _ _ mo_M_laysSplit_126 _ _ _ from ?_)
                simp only [mo_M_laysSplit_126, mm_wp, mm_ldi, mm_lda, mm_ldl, mm_sti, mm_sta, mm_stl, mm_inc, mm_2i, mm_mm, mm_2l, mm_lcmp, mm_i2l, mm_l2i, mm_cast8, mm_if1, mm_if2, mm_cmp, mm_swi, mm_sw, mm_pop1, mm_dup, mm_dup2, mm_geti, mm_geta, mm_puti, mm_iald, mm_bald, mm_aald, mm_iast, mm_bast, mm_alen, mm_acpy, mm_call, mm_callv, mm_recv, mm_pop, mm_find, mm_push, mm_cats, mm_cat, mm_reti, mm_retz, mm_retl, mm_reta, mm_retv, mm_set1, mm_set2, mm_kill, List.getElem?_cons_zero, List.getElem?_cons_succ, Int.reduceToNat, ↓reduceIte, Nat.reduceEqDiff, Nat.reduceDiv, Nat.reduceAdd, Nat.reduceLeDiff, Nat.zero_le, true_and, and_true, true_or, or_true, mm_b0, mm_b1, mm_lc_lt, mm_lc_le, mm_lc_gt, mm_lc_ge, mm_lc_eq, Int.not_lt, Int.not_le, Decidable.not_not, Int.sub_neg]
                refine ⟨by omega, ?_⟩
                have := ih2 (m + 1) x6 x7 x8 M3 hg3 (by rw [g76, h76]) (by omega) (by omega)
                rw [hz, show (d : Int) + m + 1 = (d : Int) + ((m + 1 : Nat) : Int) by omega]
                exact this
              have h110 : ∀ (x8 : Option mmV), J 110 [some (vr 62), some (vi k), some (vi ((w' : Int) + 1)), some (vi d), some (vi (mnN 1000000 (fun j => max (crM M d j) (lsF 1000000 (crM M) (M 62 33) w' j)) d m)), some (vi ((d : Int) + m)), some (vi (crM M d ((d : Int) + m))), some (vi (lsF 1000000 (crM M) (M 62 33) w' ((d : Int) + m))), x8] [vi (max (crM M d ((d : Int) + m)) (lsF 1000000 (crM M) (M 62 33) w' ((d : Int) + m)))] M3 := by
                intro x8
                generalize max (crM M d ((d : Int) + m)) (lsF 1000000 (crM M) (M 62 33) w' ((d : Int) + m)) = mx at *
                have h124 : mnN 1000000 (fun j => max (crM M d j) (lsF 1000000 (crM M) (M 62 33) w' j)) d m ≤ mx → J 124 [some (vr 62), some (vi k), some (vi ((w' : Int) + 1)), some (vi d), some (vi (mnN 1000000 (fun j => max (crM M d j) (lsF 1000000 (crM M) (M 62 33) w' j)) d m)), some (vi ((d : Int) + m)), some (vi (crM M d ((d : Int) + m))), some (vi (lsF 1000000 (crM M) (M 62 33) w' ((d : Int) + m))), some (vi mx)] [] M3 := by
                  intro hz
                  refine hJ 124 _ _ _ (show mm_wp _ _ _ mo_M_laysSplit_124 _ _ _ from ?_)
                  simp only [mo_M_laysSplit_124, mm_wp, mm_ldi, mm_lda, mm_ldl, mm_sti, mm_sta, mm_stl, mm_inc, mm_2i, mm_mm, mm_2l, mm_lcmp, mm_i2l, mm_l2i, mm_cast8, mm_if1, mm_if2, mm_cmp, mm_swi, mm_sw, mm_pop1, mm_dup, mm_dup2, mm_geti, mm_geta, mm_puti, mm_iald, mm_bald, mm_aald, mm_iast, mm_bast, mm_alen, mm_acpy, mm_call, mm_callv, mm_recv, mm_pop, mm_find, mm_push, mm_cats, mm_cat, mm_reti, mm_retz, mm_retl, mm_reta, mm_retv, mm_set1, mm_set2, mm_kill, List.getElem?_cons_zero, List.getElem?_cons_succ, Int.reduceToNat, ↓reduceIte, Nat.reduceEqDiff, Nat.reduceDiv, Nat.reduceAdd, Nat.reduceLeDiff, Nat.zero_le, true_and, and_true, true_or, or_true, mm_b0, mm_b1, mm_lc_lt, mm_lc_le, mm_lc_gt, mm_lc_ge, mm_lc_eq, Int.not_lt, Int.not_le, Decidable.not_not, Int.sub_neg]
                  exact h126 _ _ _ _ _ (by omega)
                refine hJ 110 _ _ _ (show mm_wp _ _ _ mo_M_laysSplit_110 _ _ _ from ?_)
                simp only [mo_M_laysSplit_110, mm_wp, mm_ldi, mm_lda, mm_ldl, mm_sti, mm_sta, mm_stl, mm_inc, mm_2i, mm_mm, mm_2l, mm_lcmp, mm_i2l, mm_l2i, mm_cast8, mm_if1, mm_if2, mm_cmp, mm_swi, mm_sw, mm_pop1, mm_dup, mm_dup2, mm_geti, mm_geta, mm_puti, mm_iald, mm_bald, mm_aald, mm_iast, mm_bast, mm_alen, mm_acpy, mm_call, mm_callv, mm_recv, mm_pop, mm_find, mm_push, mm_cats, mm_cat, mm_reti, mm_retz, mm_retl, mm_reta, mm_retv, mm_set1, mm_set2, mm_kill, List.getElem?_cons_zero, List.getElem?_cons_succ, Int.reduceToNat, ↓reduceIte, Nat.reduceEqDiff, Nat.reduceDiv, Nat.reduceAdd, Nat.reduceLeDiff, Nat.zero_le, true_and, and_true, true_or, or_true, mm_b0, mm_b1, mm_lc_lt, mm_lc_le, mm_lc_gt, mm_lc_ge, mm_lc_eq, Int.not_lt, Int.not_le, Decidable.not_not, Int.sub_neg]
                exact ⟨fun z => h124 z, fun z => h126 _ _ _ _ _ (by omega)⟩
              have h108 : crM M d ((d : Int) + m) ≤ lsF 1000000 (crM M) (M 62 33) w' ((d : Int) + m) → ∀ (x8 : Option mmV), J 108 [some (vr 62), some (vi k), some (vi ((w' : Int) + 1)), some (vi d), some (vi (mnN 1000000 (fun j => max (crM M d j) (lsF 1000000 (crM M) (M 62 33) w' j)) d m)), some (vi ((d : Int) + m)), some (vi (crM M d ((d : Int) + m))), some (vi (lsF 1000000 (crM M) (M 62 33) w' ((d : Int) + m))), x8] [] M3 := by
                intro hz x8
                have := h110 x8
                rw [show max (crM M d ((d : Int) + m)) (lsF 1000000 (crM M) (M 62 33) w' ((d : Int) + m)) = lsF 1000000 (crM M) (M 62 33) w' ((d : Int) + m) by omega] at this
                refine hJ 108 _ _ _ (show mm_wp _ _ _ mo_M_laysSplit_108 _ _ _ from ?_)
                simp only [mo_M_laysSplit_108, mm_wp, mm_ldi, mm_lda, mm_ldl, mm_sti, mm_sta, mm_stl, mm_inc, mm_2i, mm_mm, mm_2l, mm_lcmp, mm_i2l, mm_l2i, mm_cast8, mm_if1, mm_if2, mm_cmp, mm_swi, mm_sw, mm_pop1, mm_dup, mm_dup2, mm_geti, mm_geta, mm_puti, mm_iald, mm_bald, mm_aald, mm_iast, mm_bast, mm_alen, mm_acpy, mm_call, mm_callv, mm_recv, mm_pop, mm_find, mm_push, mm_cats, mm_cat, mm_reti, mm_retz, mm_retl, mm_reta, mm_retv, mm_set1, mm_set2, mm_kill, List.getElem?_cons_zero, List.getElem?_cons_succ, Int.reduceToNat, ↓reduceIte, Nat.reduceEqDiff, Nat.reduceDiv, Nat.reduceAdd, Nat.reduceLeDiff, Nat.zero_le, true_and, and_true, true_or, or_true, mm_b0, mm_b1, mm_lc_lt, mm_lc_le, mm_lc_gt, mm_lc_ge, mm_lc_eq, Int.not_lt, Int.not_le, Decidable.not_not, Int.sub_neg]
                exact this
              rw [hv]
              refine ⟨by omega, by omega, by omega, by omega, fun z => h108 z _, fun z => ?_⟩
              have := h110 x8
              rw [show max (crM M d ((d : Int) + m)) (lsF 1000000 (crM M) (M 62 33) w' ((d : Int) + m)) = crM M d ((d : Int) + m) by omega] at this
              exact this
          refine hJ 51 _ _ _ (show mm_wp _ _ _ mo_M_laysSplit_51 _ _ _ from ?_)
          simp only [mo_M_laysSplit_51, mm_wp, mm_ldi, mm_lda, mm_ldl, mm_sti, mm_sta, mm_stl, mm_inc, mm_2i, mm_mm, mm_2l, mm_lcmp, mm_i2l, mm_l2i, mm_cast8, mm_if1, mm_if2, mm_cmp, mm_swi, mm_sw, mm_pop1, mm_dup, mm_dup2, mm_geti, mm_geta, mm_puti, mm_iald, mm_bald, mm_aald, mm_iast, mm_bast, mm_alen, mm_acpy, mm_call, mm_callv, mm_recv, mm_pop, mm_find, mm_push, mm_cats, mm_cat, mm_reti, mm_retz, mm_retl, mm_reta, mm_retv, mm_set1, mm_set2, mm_kill, List.getElem?_cons_zero, List.getElem?_cons_succ, Int.reduceToNat, ↓reduceIte, Nat.reduceEqDiff, Nat.reduceDiv, Nat.reduceAdd, Nat.reduceLeDiff, Nat.zero_le, true_and, and_true, true_or, or_true, mm_b0, mm_b1, mm_lc_lt, mm_lc_le, mm_lc_gt, mm_lc_ge, mm_lc_eq, Int.not_lt, Int.not_le, Decidable.not_not, Int.sub_neg]
          refine ⟨by omega, ?_⟩
          have := hin (M 62 33 - d).toNat 1 x6 x7 x8 M1 hg rfl (by omega) (by omega)
          have e1 : mnN 1000000 (fun j => max (crM M d j) (lsF 1000000 (crM M) (M 62 33) w' j)) d 1 = z := by
            rw [hz]
            have hb4 := hlb w' d
            have hc0 : crM M d d = 0 := by unfold crM crF crW; exact if_pos (by omega)
            show min 1000000 (max (crM M d ((d : Int) + ((0 : Nat) : Int))) (lsF 1000000 (crM M) (M 62 33) w' ((d : Int) + ((0 : Nat) : Int)))) = _
            rw [show (d : Int) + ((0 : Nat) : Int) = d by omega, hc0]
            omega
          rw [e1] at this
          exact this
      have h32 : ¬ (d : Int) = M 62 33 → w = 0 → J 32 [some (vr 62), some (vi k), some (vi w), some (vi d), x4, x5, x6, x7, x8] [] M1 := by
        intro hz hw0
        refine hJ 32 _ _ _ (show mm_wp _ _ _ mo_M_laysSplit_32 _ _ _ from ?_)
        simp only [mo_M_laysSplit_32, mm_wp, mm_ldi, mm_lda, mm_ldl, mm_sti, mm_sta, mm_stl, mm_inc, mm_2i, mm_mm, mm_2l, mm_lcmp, mm_i2l, mm_l2i, mm_cast8, mm_if1, mm_if2, mm_cmp, mm_swi, mm_sw, mm_pop1, mm_dup, mm_dup2, mm_geti, mm_geta, mm_puti, mm_iald, mm_bald, mm_aald, mm_iast, mm_bast, mm_alen, mm_acpy, mm_call, mm_callv, mm_recv, mm_pop, mm_find, mm_push, mm_cats, mm_cat, mm_reti, mm_retz, mm_retl, mm_reta, mm_retv, mm_set1, mm_set2, mm_kill, List.getElem?_cons_zero, List.getElem?_cons_succ, Int.reduceToNat, ↓reduceIte, Nat.reduceEqDiff, Nat.reduceDiv, Nat.reduceAdd, Nat.reduceLeDiff, Nat.zero_le, true_and, and_true, true_or, or_true, mm_b0, mm_b1, mm_lc_lt, mm_lc_le, mm_lc_gt, mm_lc_ge, mm_lc_eq, Int.not_lt, Int.not_le, Decidable.not_not, Int.sub_neg]
        refine h51 _ _ _ _ _ _ (fun _ => ?_) (fun w' hw' => by omega)
        simp only [lsF]
        rw [if_neg hz]
      have h38 : ¬ (w : Int) = 0 → J 38 [some (vr 62), some (vi k), some (vi w), some (vi d), x4, x5, x6, x7, x8] [] M1 := by
        intro hw0
        refine hJ 38 _ _ _ (show mm_wp _ _ _ mo_M_laysSplit_38 _ _ _ from ?_)
        simp only [mo_M_laysSplit_38, mm_wp, mm_ldi, mm_lda, mm_ldl, mm_sti, mm_sta, mm_stl, mm_inc, mm_2i, mm_mm, mm_2l, mm_lcmp, mm_i2l, mm_l2i, mm_cast8, mm_if1, mm_if2, mm_cmp, mm_swi, mm_sw, mm_pop1, mm_dup, mm_dup2, mm_geti, mm_geta, mm_puti, mm_iald, mm_bald, mm_aald, mm_iast, mm_bast, mm_alen, mm_acpy, mm_call, mm_callv, mm_recv, mm_pop, mm_find, mm_push, mm_cats, mm_cat, mm_reti, mm_retz, mm_retl, mm_reta, mm_retv, mm_set1, mm_set2, mm_kill, List.getElem?_cons_zero, List.getElem?_cons_succ, Int.reduceToNat, ↓reduceIte, Nat.reduceEqDiff, Nat.reduceDiv, Nat.reduceAdd, Nat.reduceLeDiff, Nat.zero_le, true_and, and_true, true_or, or_true, mm_b0, mm_b1, mm_lc_lt, mm_lc_le, mm_lc_gt, mm_lc_ge, mm_lc_eq, Int.not_lt, Int.not_le, Decidable.not_not, Int.sub_neg, c_0, c_1, c_2, l_2, c_3, c_4, l_4, c_5, l_5, c_6, l_6, c_7, l_7, c_8, c_9, l_9, c_10, l_10, c_11, l_11, c_12, l_12, c_13, c_14, l_14, c_15, l_15, c_16, l_16, c_17, l_17, c_18, c_19, l_19, c_20, l_20, c_21, l_21, c_22, l_22, c_23, c_24, l_24, c_25, l_25, c_26, c_27, c_28, l_28, c_29, c_30, l_30, c_31, c_32, l_32, c_33, l_33, c_34, l_34, c_35, l_35, c_36, l_36, c_37, l_37, c_38, l_38, c_39, l_39, c_40, c_41, l_41, c_42, c_43, c_44, l_44, c_45, c_46, l_46, c_47, c_48, l_48, c_49, l_49, c_50, l_50, c_51, l_51, c_52, l_52, c_53, l_53, c_54, l_54, c_55, l_55, c_56, l_56, c_57, l_57, c_58, l_58, c_59, l_59, c_60, l_60, c_61, l_61, c_62, c_63, l_63, c_64, l_64, c_65, l_65, c_66, l_66, c_67, l_67, c_68, l_68, c_69, l_69, c_70, l_70, c_71, l_71, c_72, l_72, c_73, l_73, c_74, l_74, c_75, l_75, c_76, l_76]
        refine ⟨by omega, by omega, by omega, by omega, h51 _ _ _ _ _ _ (fun c => by omega) (fun w' hw' => ?_)⟩
        rw [show 25 * ((w : Int) - 1) + d = 25 * (w' : Int) + d by omega]
        exact ht w' _ (by omega) (by omega) (Or.inl (by omega))
      refine hJ 12 _ _ _ (show mm_wp _ _ _ mo_M_laysSplit_12 _ _ _ from ?_)
      simp only [mo_M_laysSplit_12, mm_wp, mm_ldi, mm_lda, mm_ldl, mm_sti, mm_sta, mm_stl, mm_inc, mm_2i, mm_mm, mm_2l, mm_lcmp, mm_i2l, mm_l2i, mm_cast8, mm_if1, mm_if2, mm_cmp, mm_swi, mm_sw, mm_pop1, mm_dup, mm_dup2, mm_geti, mm_geta, mm_puti, mm_iald, mm_bald, mm_aald, mm_iast, mm_bast, mm_alen, mm_acpy, mm_call, mm_callv, mm_recv, mm_pop, mm_find, mm_push, mm_cats, mm_cat, mm_reti, mm_retz, mm_retl, mm_reta, mm_retv, mm_set1, mm_set2, mm_kill, List.getElem?_cons_zero, List.getElem?_cons_succ, Int.reduceToNat, ↓reduceIte, Nat.reduceEqDiff, Nat.reduceDiv, Nat.reduceAdd, Nat.reduceLeDiff, Nat.zero_le, true_and, and_true, true_or, or_true, mm_b0, mm_b1, mm_lc_lt, mm_lc_le, mm_lc_gt, mm_lc_ge, mm_lc_eq, Int.not_lt, Int.not_le, Decidable.not_not, Int.sub_neg, c_0, c_1, c_2, l_2, c_3, c_4, l_4, c_5, l_5, c_6, l_6, c_7, l_7, c_8, c_9, l_9, c_10, l_10, c_11, l_11, c_12, l_12, c_13, c_14, l_14, c_15, l_15, c_16, l_16, c_17, l_17, c_18, c_19, l_19, c_20, l_20, c_21, l_21, c_22, l_22, c_23, c_24, l_24, c_25, l_25, c_26, c_27, c_28, l_28, c_29, c_30, l_30, c_31, c_32, l_32, c_33, l_33, c_34, l_34, c_35, l_35, c_36, l_36, c_37, l_37, c_38, l_38, c_39, l_39, c_40, c_41, l_41, c_42, c_43, c_44, l_44, c_45, c_46, l_46, c_47, c_48, l_48, c_49, l_49, c_50, l_50, c_51, l_51, c_52, l_52, c_53, l_53, c_54, l_54, c_55, l_55, c_56, l_56, c_57, l_57, c_58, l_58, c_59, l_59, c_60, l_60, c_61, l_61, c_62, c_63, l_63, c_64, l_64, c_65, l_65, c_66, l_66, c_67, l_67, c_68, l_68, c_69, l_69, c_70, l_70, c_71, l_71, c_72, l_72, c_73, l_73, c_74, l_74, c_75, l_75, c_76, l_76, e33]
      refine ⟨fun z => by omega, fun _ => ⟨fun z => h38 z, fun z => ⟨fun z2 => h32 z2 (by omega), fun z2 => h51 _ _ _ _ _ _ (fun _ => ?_) (fun w' hw' => by omega)⟩⟩⟩
      simp only [lsF]
      rw [if_pos z2]
  have hout : ∀ (e w : Nat) (M1 : mmM) (x3 x4 x5 x6 x7 x8 : Option mmV), (w : Int) + e = k + 1 → spG M M1 → spT M M1 w (M 62 33) → J 2 [some (vr 62), some (vi k), some (vi w), x3, x4, x5, x6, x7, x8] [] M1 := by
    intro e
    induction e with
    | zero =>
      intro w M1 x3 x4 x5 x6 x7 x8 hw hg ht
      have h159 : J 159 [some (vr 62), some (vi k), some (vi w), x3, x4, x5, x6, x7, x8] [] M1 := by
        refine hJ 159 _ _ _ (show mm_wp _ _ _ mo_M_laysSplit_159 _ _ _ from ?_)
        simp only [mo_M_laysSplit_159, mm_wp, mm_ldi, mm_lda, mm_ldl, mm_sti, mm_sta, mm_stl, mm_inc, mm_2i, mm_mm, mm_2l, mm_lcmp, mm_i2l, mm_l2i, mm_cast8, mm_if1, mm_if2, mm_cmp, mm_swi, mm_sw, mm_pop1, mm_dup, mm_dup2, mm_geti, mm_geta, mm_puti, mm_iald, mm_bald, mm_aald, mm_iast, mm_bast, mm_alen, mm_acpy, mm_call, mm_callv, mm_recv, mm_pop, mm_find, mm_push, mm_cats, mm_cat, mm_reti, mm_retz, mm_retl, mm_reta, mm_retv, mm_set1, mm_set2, mm_kill, List.getElem?_cons_zero, List.getElem?_cons_succ, Int.reduceToNat, ↓reduceIte, Nat.reduceEqDiff, Nat.reduceDiv, Nat.reduceAdd, Nat.reduceLeDiff, Nat.zero_le, true_and, and_true, true_or, or_true, mm_b0, mm_b1, mm_lc_lt, mm_lc_le, mm_lc_gt, mm_lc_ge, mm_lc_eq, Int.not_lt, Int.not_le, Decidable.not_not, Int.sub_neg]
        exact h M1 hg (fun h a hk a0 a1 => ht h a a0 a1 (Or.inl (by omega)))
      refine hJ 2 _ _ _ (show mm_wp _ _ _ mo_M_laysSplit_2 _ _ _ from ?_)
      simp only [mo_M_laysSplit_2, mm_wp, mm_ldi, mm_lda, mm_ldl, mm_sti, mm_sta, mm_stl, mm_inc, mm_2i, mm_mm, mm_2l, mm_lcmp, mm_i2l, mm_l2i, mm_cast8, mm_if1, mm_if2, mm_cmp, mm_swi, mm_sw, mm_pop1, mm_dup, mm_dup2, mm_geti, mm_geta, mm_puti, mm_iald, mm_bald, mm_aald, mm_iast, mm_bast, mm_alen, mm_acpy, mm_call, mm_callv, mm_recv, mm_pop, mm_find, mm_push, mm_cats, mm_cat, mm_reti, mm_retz, mm_retl, mm_reta, mm_retv, mm_set1, mm_set2, mm_kill, List.getElem?_cons_zero, List.getElem?_cons_succ, Int.reduceToNat, ↓reduceIte, Nat.reduceEqDiff, Nat.reduceDiv, Nat.reduceAdd, Nat.reduceLeDiff, Nat.zero_le, true_and, and_true, true_or, or_true, mm_b0, mm_b1, mm_lc_lt, mm_lc_le, mm_lc_gt, mm_lc_ge, mm_lc_eq, Int.not_lt, Int.not_le, Decidable.not_not, Int.sub_neg]
      exact ⟨fun _ => h159, fun z => by omega⟩
    | succ e ih =>
      intro w M1 x3 x4 x5 x6 x7 x8 hw hg ht
      have e33 : M1 62 33 = M 62 33 := hg.2 33 (by decide) (by decide) (by decide)
      refine hJ 2 _ _ _ (show mm_wp _ _ _ mo_M_laysSplit_2 _ _ _ from ?_)
      simp only [mo_M_laysSplit_2, mm_wp, mm_ldi, mm_lda, mm_ldl, mm_sti, mm_sta, mm_stl, mm_inc, mm_2i, mm_mm, mm_2l, mm_lcmp, mm_i2l, mm_l2i, mm_cast8, mm_if1, mm_if2, mm_cmp, mm_swi, mm_sw, mm_pop1, mm_dup, mm_dup2, mm_geti, mm_geta, mm_puti, mm_iald, mm_bald, mm_aald, mm_iast, mm_bast, mm_alen, mm_acpy, mm_call, mm_callv, mm_recv, mm_pop, mm_find, mm_push, mm_cats, mm_cat, mm_reti, mm_retz, mm_retl, mm_reta, mm_retv, mm_set1, mm_set2, mm_kill, List.getElem?_cons_zero, List.getElem?_cons_succ, Int.reduceToNat, ↓reduceIte, Nat.reduceEqDiff, Nat.reduceDiv, Nat.reduceAdd, Nat.reduceLeDiff, Nat.zero_le, true_and, and_true, true_or, or_true, mm_b0, mm_b1, mm_lc_lt, mm_lc_le, mm_lc_gt, mm_lc_ge, mm_lc_eq, Int.not_lt, Int.not_le, Decidable.not_not, Int.sub_neg, c_0, c_1, c_2, l_2, c_3, c_4, l_4, c_5, l_5, c_6, l_6, c_7, l_7, c_8, c_9, l_9, c_10, l_10, c_11, l_11, c_12, l_12, c_13, c_14, l_14, c_15, l_15, c_16, l_16, c_17, l_17, c_18, c_19, l_19, c_20, l_20, c_21, l_21, c_22, l_22, c_23, c_24, l_24, c_25, l_25, c_26, c_27, c_28, l_28, c_29, c_30, l_30, c_31, c_32, l_32, c_33, l_33, c_34, l_34, c_35, l_35, c_36, l_36, c_37, l_37, c_38, l_38, c_39, l_39, c_40, c_41, l_41, c_42, c_43, c_44, l_44, c_45, c_46, l_46, c_47, c_48, l_48, c_49, l_49, c_50, l_50, c_51, l_51, c_52, l_52, c_53, l_53, c_54, l_54, c_55, l_55, c_56, l_56, c_57, l_57, c_58, l_58, c_59, l_59, c_60, l_60, c_61, l_61, c_62, c_63, l_63, c_64, l_64, c_65, l_65, c_66, l_66, c_67, l_67, c_68, l_68, c_69, l_69, c_70, l_70, c_71, l_71, c_72, l_72, c_73, l_73, c_74, l_74, c_75, l_75, c_76, l_76, e33]
      refine ⟨fun z => by omega, fun _ => ?_⟩
      have := hmid w (by omega) (fun M2 x3 x4 x5 x6 x7 x8 hg2 ht2 => by
        have := ih (w + 1) M2 x3 x4 x5 x6 x7 x8 (by omega) hg2 ht2
        rw [show ((w + 1 : Nat) : Int) = (w : Int) + 1 by omega] at this
        exact this) (M 62 33 + 1).toNat M1 x4 x5 x6 x7 x8 (by omega) hg (by
        rw [show (((M 62 33 + 1).toNat : Nat) : Int) - 1 = M 62 33 by omega]
        exact ht)
      rw [show (((M 62 33 + 1).toNat : Nat) : Int) - 1 = M 62 33 by omega] at this
      exact this
  refine hJ 0 _ _ _ (show mm_wp _ _ _ mo_M_laysSplit_0 _ _ _ from ?_)
  simp only [mo_M_laysSplit_0, mm_wp, mm_ldi, mm_lda, mm_ldl, mm_sti, mm_sta, mm_stl, mm_inc, mm_2i, mm_mm, mm_2l, mm_lcmp, mm_i2l, mm_l2i, mm_cast8, mm_if1, mm_if2, mm_cmp, mm_swi, mm_sw, mm_pop1, mm_dup, mm_dup2, mm_geti, mm_geta, mm_puti, mm_iald, mm_bald, mm_aald, mm_iast, mm_bast, mm_alen, mm_acpy, mm_call, mm_callv, mm_recv, mm_pop, mm_find, mm_push, mm_cats, mm_cat, mm_reti, mm_retz, mm_retl, mm_reta, mm_retv, mm_set1, mm_set2, mm_kill, List.getElem?_cons_zero, List.getElem?_cons_succ, Int.reduceToNat, ↓reduceIte, Nat.reduceEqDiff, Nat.reduceDiv, Nat.reduceAdd, Nat.reduceLeDiff, Nat.zero_le, true_and, and_true, true_or, or_true, mm_b0, mm_b1, mm_lc_lt, mm_lc_le, mm_lc_gt, mm_lc_ge, mm_lc_eq, Int.not_lt, Int.not_le, Decidable.not_not, Int.sub_neg]
  exact hout (k + 1).toNat 0 M _ _ _ _ _ _ (by omega) ⟨fun _ _ _ => rfl, fun _ _ _ _ => rfl⟩ (fun h a a0 a1 hc => by omega)
def t_M_share : mmT := fun as M Q => match as with
  | [.inr (.inr o), .inl k, .inl wk] => o = 62 ∧ spP M ∧ 1 ≤ k ∧ k ≤ 4 ∧ 1 ≤ wk ∧ wk ≤ k ∧ (∀ (h : Nat) (a : Int), (h : Int) ≤ k → 0 ≤ a → a ≤ M 62 33 → M 76 (25 * h + a) = lsF 1000000 (crM M) (M 62 33) h a) ∧ ∀ M', spG M M' → Q (some (vi (shF (crM M) (lsF 1000000 (crM M) (M 62 33)) (M 62 33) k (lsF 1000000 (crM M) (M 62 33) k.toNat 0) wk.toNat).2)) M'
  | _ => False
set_option maxHeartbeats 4000000 in
set_option maxRecDepth 100000 in
theorem p_M_share : ∀ as M Q, (∀ v ∈ as, mm_vin v) → mm_mem M → t_M_share as M Q → (mm_ent as).length ≤ 8 ∧ mm_ok mb_M_share [(1157, t_M_cost)] (mm_entry 8 as) M Q := by
  intro as M Q hin hM h
  unfold t_M_share at h
  split at h
  rotate_left
  · exact h.elim
  rename_i o k wk
  have hR_k : mm_R k := hin (vi k) (by simp)
  have hR_wk : mm_R wk := hin (vi wk) (by simp)
  refine ⟨by simp [mm_ent], (show mm_ok mb_M_share [(1157, t_M_cost)] [some (vr o), some (vi k), some (vi wk), none, none, none, none, none] M Q from ?_)⟩
  intro J hJ
  obtain ⟨rfl, hp, k1, k4, w1, w4, ht, h⟩ := h
  have n0 := hp.2.2.2.1
  have n1 := hp.2.2.2.2.1
  have hcb := crM_b hp
  generalize hL : lsF 1000000 (crM M) (M 62 33) = L at ht h
  generalize hlim : L k.toNat 0 = lim at h
  have hsb := shF_b (c := crM M) (L := L) (n := M 62 33) (k := k) (lim := lim) n0
  have hl : ∀ (e w : Nat) (M1 : mmM) (x7 : Option mmV), (w : Int) + e = wk → spG M M1 → M1 76 = M 76 → J 19 [some (vr 62), some (vi k), some (vi wk), some (vi lim), some (vi (shF (crM M) L (M 62 33) k lim w).1), some (vi (shF (crM M) L (M 62 33) k lim w).2), some (vi ((w : Int) + 1)), x7] [] M1 := by
    intro e
    induction e with
    | zero =>
      intro w M1 x7 hw hg h76
      have h103 : J 103 [some (vr 62), some (vi k), some (vi wk), some (vi lim), some (vi (shF (crM M) L (M 62 33) k lim w).1), some (vi (shF (crM M) L (M 62 33) k lim w).2), some (vi ((w : Int) + 1)), x7] [] M1 := by
        refine hJ 103 _ _ _ (show mm_wp _ _ _ mo_M_share_103 _ _ _ from ?_)
        simp only [mo_M_share_103, mm_wp, mm_ldi, mm_lda, mm_ldl, mm_sti, mm_sta, mm_stl, mm_inc, mm_2i, mm_mm, mm_2l, mm_lcmp, mm_i2l, mm_l2i, mm_cast8, mm_if1, mm_if2, mm_cmp, mm_swi, mm_sw, mm_pop1, mm_dup, mm_dup2, mm_geti, mm_geta, mm_puti, mm_iald, mm_bald, mm_aald, mm_iast, mm_bast, mm_alen, mm_acpy, mm_call, mm_callv, mm_recv, mm_pop, mm_find, mm_push, mm_cats, mm_cat, mm_reti, mm_retz, mm_retl, mm_reta, mm_retv, mm_set1, mm_set2, mm_kill, List.getElem?_cons_zero, List.getElem?_cons_succ, Int.reduceToNat, ↓reduceIte, Nat.reduceEqDiff, Nat.reduceDiv, Nat.reduceAdd, Nat.reduceLeDiff, Nat.zero_le, true_and, and_true, true_or, or_true, mm_b0, mm_b1, mm_lc_lt, mm_lc_le, mm_lc_gt, mm_lc_ge, mm_lc_eq, Int.not_lt, Int.not_le, Decidable.not_not, Int.sub_neg]
        rw [show w = wk.toNat by omega]
        exact h M1 hg
      refine hJ 19 _ _ _ (show mm_wp _ _ _ mo_M_share_19 _ _ _ from ?_)
      simp only [mo_M_share_19, mm_wp, mm_ldi, mm_lda, mm_ldl, mm_sti, mm_sta, mm_stl, mm_inc, mm_2i, mm_mm, mm_2l, mm_lcmp, mm_i2l, mm_l2i, mm_cast8, mm_if1, mm_if2, mm_cmp, mm_swi, mm_sw, mm_pop1, mm_dup, mm_dup2, mm_geti, mm_geta, mm_puti, mm_iald, mm_bald, mm_aald, mm_iast, mm_bast, mm_alen, mm_acpy, mm_call, mm_callv, mm_recv, mm_pop, mm_find, mm_push, mm_cats, mm_cat, mm_reti, mm_retz, mm_retl, mm_reta, mm_retv, mm_set1, mm_set2, mm_kill, List.getElem?_cons_zero, List.getElem?_cons_succ, Int.reduceToNat, ↓reduceIte, Nat.reduceEqDiff, Nat.reduceDiv, Nat.reduceAdd, Nat.reduceLeDiff, Nat.zero_le, true_and, and_true, true_or, or_true, mm_b0, mm_b1, mm_lc_lt, mm_lc_le, mm_lc_gt, mm_lc_ge, mm_lc_eq, Int.not_lt, Int.not_le, Decidable.not_not, Int.sub_neg]
      exact ⟨fun _ => h103, fun z => by omega⟩
    | succ e ih =>
      intro w M1 x7 hw hg h76
      have hb := hsb w
      have hb2 := hsb (w + 1)
      have ih := ih (w + 1)
      have hsh : shF (crM M) L (M 62 33) k lim (w + 1) = (fuF (fun j => crM M (shF (crM M) L (M 62 33) k lim w).1 j ≤ lim ∧ L (k - (w + 1)).toNat j ≤ lim) (shF (crM M) L (M 62 33) k lim w).1 (M 62 33 - (shF (crM M) L (M 62 33) k lim w).1).toNat, fuF (fun j => crM M (shF (crM M) L (M 62 33) k lim w).1 j ≤ lim ∧ L (k - (w + 1)).toNat j ≤ lim) (shF (crM M) L (M 62 33) k lim w).1 (M 62 33 - (shF (crM M) L (M 62 33) k lim w).1).toNat - (shF (crM M) L (M 62 33) k lim w).1) := rfl
      rw [hsh] at ih hb2
      generalize (shF (crM M) L (M 62 33) k lim w).1 = i at *
      generalize hgf : (fun j => crM M i j ≤ lim ∧ L (k - (w + 1)).toNat j ≤ lim) = g at *
      have hgv : ∀ j, g j ↔ (crM M i j ≤ lim ∧ L (k - (w + 1)).toNat j ≤ lim) := fun j => by rw [← hgf]
      have hfb := fuF_b g i
      have hin : ∀ (e2 m : Nat) (M2 : mmM), spG M M2 → M2 76 = M 76 → i + m + e2 = M 62 33 + 1 → J 32 [some (vr 62), some (vi k), some (vi wk), some (vi lim), some (vi i), some (vi (fuF g i (m - 1) - i)), some (vi ((w : Int) + 1)), some (vi (i + m))] [] M2 := by
        intro e2
        induction e2 with
        | zero =>
          intro m M2 hg2 g76 hm
          have f33 : M2 62 33 = M 62 33 := hg2.2 33 (by decide) (by decide) (by decide)
          have hf := hfb (m - 1)
          have h90 : J 90 [some (vr 62), some (vi k), some (vi wk), some (vi lim), some (vi i), some (vi (fuF g i (m - 1) - i)), some (vi ((w : Int) + 1)), some (vi (i + m))] [] M2 := by
            refine hJ 90 _ _ _ (show mm_wp _ _ _ mo_M_share_90 _ _ _ from ?_)
            simp only [mo_M_share_90, mm_wp, mm_ldi, mm_lda, mm_ldl, mm_sti, mm_sta, mm_stl, mm_inc, mm_2i, mm_mm, mm_2l, mm_lcmp, mm_i2l, mm_l2i, mm_cast8, mm_if1, mm_if2, mm_cmp, mm_swi, mm_sw, mm_pop1, mm_dup, mm_dup2, mm_geti, mm_geta, mm_puti, mm_iald, mm_bald, mm_aald, mm_iast, mm_bast, mm_alen, mm_acpy, mm_call, mm_callv, mm_recv, mm_pop, mm_find, mm_push, mm_cats, mm_cat, mm_reti, mm_retz, mm_retl, mm_reta, mm_retv, mm_set1, mm_set2, mm_kill, List.getElem?_cons_zero, List.getElem?_cons_succ, Int.reduceToNat, ↓reduceIte, Nat.reduceEqDiff, Nat.reduceDiv, Nat.reduceAdd, Nat.reduceLeDiff, Nat.zero_le, true_and, and_true, true_or, or_true, mm_b0, mm_b1, mm_lc_lt, mm_lc_le, mm_lc_gt, mm_lc_ge, mm_lc_eq, Int.not_lt, Int.not_le, Decidable.not_not, Int.sub_neg]
            have := ih M2 (some (vi (i + m))) (by omega) hg2 g76
            rw [show (M 62 33 - i).toNat = m - 1 by omega, show ((w + 1 : Nat) : Int) + 1 = (w : Int) + 1 + 1 by omega] at this
            rw [show i + (fuF g i (m - 1) - i) = fuF g i (m - 1) by omega]
            exact ⟨by omega, by omega, this⟩
          refine hJ 32 _ _ _ (show mm_wp _ _ _ mo_M_share_32 _ _ _ from ?_)
          simp only [mo_M_share_32, mm_wp, mm_ldi, mm_lda, mm_ldl, mm_sti, mm_sta, mm_stl, mm_inc, mm_2i, mm_mm, mm_2l, mm_lcmp, mm_i2l, mm_l2i, mm_cast8, mm_if1, mm_if2, mm_cmp, mm_swi, mm_sw, mm_pop1, mm_dup, mm_dup2, mm_geti, mm_geta, mm_puti, mm_iald, mm_bald, mm_aald, mm_iast, mm_bast, mm_alen, mm_acpy, mm_call, mm_callv, mm_recv, mm_pop, mm_find, mm_push, mm_cats, mm_cat, mm_reti, mm_retz, mm_retl, mm_reta, mm_retv, mm_set1, mm_set2, mm_kill, List.getElem?_cons_zero, List.getElem?_cons_succ, Int.reduceToNat, ↓reduceIte, Nat.reduceEqDiff, Nat.reduceDiv, Nat.reduceAdd, Nat.reduceLeDiff, Nat.zero_le, true_and, and_true, true_or, or_true, mm_b0, mm_b1, mm_lc_lt, mm_lc_le, mm_lc_gt, mm_lc_ge, mm_lc_eq, Int.not_lt, Int.not_le, Decidable.not_not, Int.sub_neg, c_0, c_1, c_2, l_2, c_3, c_4, l_4, c_5, l_5, c_6, l_6, c_7, l_7, c_8, c_9, l_9, c_10, l_10, c_11, l_11, c_12, l_12, c_13, c_14, l_14, c_15, l_15, c_16, l_16, c_17, l_17, c_18, c_19, l_19, c_20, l_20, c_21, l_21, c_22, l_22, c_23, c_24, l_24, c_25, l_25, c_26, c_27, c_28, l_28, c_29, c_30, l_30, c_31, c_32, l_32, c_33, l_33, c_34, l_34, c_35, l_35, c_36, l_36, c_37, l_37, c_38, l_38, c_39, l_39, c_40, c_41, l_41, c_42, c_43, c_44, l_44, c_45, c_46, l_46, c_47, c_48, l_48, c_49, l_49, c_50, l_50, c_51, l_51, c_52, l_52, c_53, l_53, c_54, l_54, c_55, l_55, c_56, l_56, c_57, l_57, c_58, l_58, c_59, l_59, c_60, l_60, c_61, l_61, c_62, c_63, l_63, c_64, l_64, c_65, l_65, c_66, l_66, c_67, l_67, c_68, l_68, c_69, l_69, c_70, l_70, c_71, l_71, c_72, l_72, c_73, l_73, c_74, l_74, c_75, l_75, c_76, l_76, f33]
          exact ⟨fun _ => h90, fun z => by omega⟩
        | succ e2 ih2 =>
          intro m M2 hg2 g76 hm
          have f33 : M2 62 33 = M 62 33 := hg2.2 33 (by decide) (by decide) (by decide)
          have h82 : ∀ (z : Int) (x5 : Option mmV) (M3 : mmM), spG M M3 → M3 76 = M 76 → z = fuF g i m - i → J 82 [some (vr 62), some (vi k), some (vi wk), some (vi lim), some (vi i), x5, some (vi ((w : Int) + 1)), some (vi (i + m))] [vi z] M3 := by
            intro z x5 M3 hg3 q76 hz
            refine hJ 82 _ _ _ (show mm_wp _ _ _ mo_M_share_82 _ _ _ from ?_)
            simp only [mo_M_share_82, mm_wp, mm_ldi, mm_lda, mm_ldl, mm_sti, mm_sta, mm_stl, mm_inc, mm_2i, mm_mm, mm_2l, mm_lcmp, mm_i2l, mm_l2i, mm_cast8, mm_if1, mm_if2, mm_cmp, mm_swi, mm_sw, mm_pop1, mm_dup, mm_dup2, mm_geti, mm_geta, mm_puti, mm_iald, mm_bald, mm_aald, mm_iast, mm_bast, mm_alen, mm_acpy, mm_call, mm_callv, mm_recv, mm_pop, mm_find, mm_push, mm_cats, mm_cat, mm_reti, mm_retz, mm_retl, mm_reta, mm_retv, mm_set1, mm_set2, mm_kill, List.getElem?_cons_zero, List.getElem?_cons_succ, Int.reduceToNat, ↓reduceIte, Nat.reduceEqDiff, Nat.reduceDiv, Nat.reduceAdd, Nat.reduceLeDiff, Nat.zero_le, true_and, and_true, true_or, or_true, mm_b0, mm_b1, mm_lc_lt, mm_lc_le, mm_lc_gt, mm_lc_ge, mm_lc_eq, Int.not_lt, Int.not_le, Decidable.not_not, Int.sub_neg]
            have := ih2 (m + 1) M3 hg3 q76 (by omega)
            rw [show m + 1 - 1 = m by omega, ← hz, show i + ((m + 1 : Nat) : Int) = i + m + 1 by omega] at this
            exact ⟨by omega, this⟩
          have hno : ¬ g (i + m) → fuF g i (m - 1) = fuF g i m := by
            intro hz
            cases m with
            | zero => rfl
            | succ m =>
              rw [show m + 1 - 1 = m by omega]
              simp only [fuF]
              rw [if_neg (by rw [show i + (m : Int) + 1 = i + ((m + 1 : Nat) : Int) by omega]; exact hz)]
          have hyes : g (i + m) → i + m = fuF g i m := by
            intro hz
            cases m with
            | zero => simp [fuF]
            | succ m =>
              simp only [fuF]
              rw [if_pos (by rw [show i + (m : Int) + 1 = i + ((m + 1 : Nat) : Int) by omega]; exact hz)]
              omega
          have h80 : ∀ M3 : mmM, spG M M3 → M3 76 = M 76 → ¬ g (i + m) → J 80 [some (vr 62), some (vi k), some (vi wk), some (vi lim), some (vi i), some (vi (fuF g i (m - 1) - i)), some (vi ((w : Int) + 1)), some (vi (i + m))] [] M3 := by
            intro M3 hg3 q76 hz
            refine hJ 80 _ _ _ (show mm_wp _ _ _ mo_M_share_80 _ _ _ from ?_)
            simp only [mo_M_share_80, mm_wp, mm_ldi, mm_lda, mm_ldl, mm_sti, mm_sta, mm_stl, mm_inc, mm_2i, mm_mm, mm_2l, mm_lcmp, mm_i2l, mm_l2i, mm_cast8, mm_if1, mm_if2, mm_cmp, mm_swi, mm_sw, mm_pop1, mm_dup, mm_dup2, mm_geti, mm_geta, mm_puti, mm_iald, mm_bald, mm_aald, mm_iast, mm_bast, mm_alen, mm_acpy, mm_call, mm_callv, mm_recv, mm_pop, mm_find, mm_push, mm_cats, mm_cat, mm_reti, mm_retz, mm_retl, mm_reta, mm_retv, mm_set1, mm_set2, mm_kill, List.getElem?_cons_zero, List.getElem?_cons_succ, Int.reduceToNat, ↓reduceIte, Nat.reduceEqDiff, Nat.reduceDiv, Nat.reduceAdd, Nat.reduceLeDiff, Nat.zero_le, true_and, and_true, true_or, or_true, mm_b0, mm_b1, mm_lc_lt, mm_lc_le, mm_lc_gt, mm_lc_ge, mm_lc_eq, Int.not_lt, Int.not_le, Decidable.not_not, Int.sub_neg]
            exact h82 _ _ M3 hg3 q76 (by rw [hno hz])
          refine hJ 32 _ _ _ (show mm_wp _ _ _ mo_M_share_32 _ _ _ from ?_)
          simp only [mo_M_share_32, mm_wp, mm_ldi, mm_lda, mm_ldl, mm_sti, mm_sta, mm_stl, mm_inc, mm_2i, mm_mm, mm_2l, mm_lcmp, mm_i2l, mm_l2i, mm_cast8, mm_if1, mm_if2, mm_cmp, mm_swi, mm_sw, mm_pop1, mm_dup, mm_dup2, mm_geti, mm_geta, mm_puti, mm_iald, mm_bald, mm_aald, mm_iast, mm_bast, mm_alen, mm_acpy, mm_call, mm_callv, mm_recv, mm_pop, mm_find, mm_push, mm_cats, mm_cat, mm_reti, mm_retz, mm_retl, mm_reta, mm_retv, mm_set1, mm_set2, mm_kill, List.getElem?_cons_zero, List.getElem?_cons_succ, Int.reduceToNat, ↓reduceIte, Nat.reduceEqDiff, Nat.reduceDiv, Nat.reduceAdd, Nat.reduceLeDiff, Nat.zero_le, true_and, and_true, true_or, or_true, mm_b0, mm_b1, mm_lc_lt, mm_lc_le, mm_lc_gt, mm_lc_ge, mm_lc_eq, Int.not_lt, Int.not_le, Decidable.not_not, Int.sub_neg, c_0, c_1, c_2, l_2, c_3, c_4, l_4, c_5, l_5, c_6, l_6, c_7, l_7, c_8, c_9, l_9, c_10, l_10, c_11, l_11, c_12, l_12, c_13, c_14, l_14, c_15, l_15, c_16, l_16, c_17, l_17, c_18, c_19, l_19, c_20, l_20, c_21, l_21, c_22, l_22, c_23, c_24, l_24, c_25, l_25, c_26, c_27, c_28, l_28, c_29, c_30, l_30, c_31, c_32, l_32, c_33, l_33, c_34, l_34, c_35, l_35, c_36, l_36, c_37, l_37, c_38, l_38, c_39, l_39, c_40, c_41, l_41, c_42, c_43, c_44, l_44, c_45, c_46, l_46, c_47, c_48, l_48, c_49, l_49, c_50, l_50, c_51, l_51, c_52, l_52, c_53, l_53, c_54, l_54, c_55, l_55, c_56, l_56, c_57, l_57, c_58, l_58, c_59, l_59, c_60, l_60, c_61, l_61, c_62, c_63, l_63, c_64, l_64, c_65, l_65, c_66, l_66, c_67, l_67, c_68, l_68, c_69, l_69, c_70, l_70, c_71, l_71, c_72, l_72, c_73, l_73, c_74, l_74, c_75, l_75, c_76, l_76, f33]
          refine ⟨fun z => by omega, fun _ => cost_call hp hg2 (by omega) (by omega) (by omega) (fun M3 hg3 q76 => ?_)⟩
          have r76 : M3 76 = M 76 := by rw [q76, g76]
          have hv : M3 76 (25 * (k - ((w : Int) + 1)) + (i + m)) = L (k - (w + 1)).toNat (i + m) := by
            rw [r76, show 25 * (k - ((w : Int) + 1)) + (i + m) = 25 * (((k - (w + 1)).toNat : Nat) : Int) + (i + m) by omega]
            exact ht _ _ (by omega) (by omega) (by omega)
          rw [hv]
          refine ⟨fun z => h80 M3 hg3 r76 (fun c => by have := ((hgv _).mp c).1; omega), fun z => ⟨by omega, by omega, by omega, by omega, fun z2 => h80 M3 hg3 r76 (fun c => by have := ((hgv _).mp c).2; omega), fun z2 => ⟨by omega, h82 _ _ M3 hg3 r76 ?_⟩⟩⟩
          rw [← hyes ((hgv _).mpr ⟨by omega, by omega⟩)]
      refine hJ 19 _ _ _ (show mm_wp _ _ _ mo_M_share_19 _ _ _ from ?_)
      simp only [mo_M_share_19, mm_wp, mm_ldi, mm_lda, mm_ldl, mm_sti, mm_sta, mm_stl, mm_inc, mm_2i, mm_mm, mm_2l, mm_lcmp, mm_i2l, mm_l2i, mm_cast8, mm_if1, mm_if2, mm_cmp, mm_swi, mm_sw, mm_pop1, mm_dup, mm_dup2, mm_geti, mm_geta, mm_puti, mm_iald, mm_bald, mm_aald, mm_iast, mm_bast, mm_alen, mm_acpy, mm_call, mm_callv, mm_recv, mm_pop, mm_find, mm_push, mm_cats, mm_cat, mm_reti, mm_retz, mm_retl, mm_reta, mm_retv, mm_set1, mm_set2, mm_kill, List.getElem?_cons_zero, List.getElem?_cons_succ, Int.reduceToNat, ↓reduceIte, Nat.reduceEqDiff, Nat.reduceDiv, Nat.reduceAdd, Nat.reduceLeDiff, Nat.zero_le, true_and, and_true, true_or, or_true, mm_b0, mm_b1, mm_lc_lt, mm_lc_le, mm_lc_gt, mm_lc_ge, mm_lc_eq, Int.not_lt, Int.not_le, Decidable.not_not, Int.sub_neg]
      refine ⟨fun z => by omega, fun _ => ?_⟩
      have := hin (M 62 33 + 1 - i).toNat 0 M1 hg h76 (by omega)
      rw [show fuF g i (0 - 1) - i = 0 by show i - i = 0; omega, show i + ((0 : Nat) : Int) = i by omega] at this
      exact this
  have hk0 : M 76 (25 * k) = lim := by
    rw [← hlim, ← ht k.toNat 0 (by omega) (by omega) n0, show 25 * ((k.toNat : Nat) : Int) + 0 = 25 * k by omega]
  refine hJ 0 _ _ _ (show mm_wp _ _ _ mo_M_share_0 _ _ _ from ?_)
  simp only [mo_M_share_0, mm_wp, mm_ldi, mm_lda, mm_ldl, mm_sti, mm_sta, mm_stl, mm_inc, mm_2i, mm_mm, mm_2l, mm_lcmp, mm_i2l, mm_l2i, mm_cast8, mm_if1, mm_if2, mm_cmp, mm_swi, mm_sw, mm_pop1, mm_dup, mm_dup2, mm_geti, mm_geta, mm_puti, mm_iald, mm_bald, mm_aald, mm_iast, mm_bast, mm_alen, mm_acpy, mm_call, mm_callv, mm_recv, mm_pop, mm_find, mm_push, mm_cats, mm_cat, mm_reti, mm_retz, mm_retl, mm_reta, mm_retv, mm_set1, mm_set2, mm_kill, List.getElem?_cons_zero, List.getElem?_cons_succ, Int.reduceToNat, ↓reduceIte, Nat.reduceEqDiff, Nat.reduceDiv, Nat.reduceAdd, Nat.reduceLeDiff, Nat.zero_le, true_and, and_true, true_or, or_true, mm_b0, mm_b1, mm_lc_lt, mm_lc_le, mm_lc_gt, mm_lc_ge, mm_lc_eq, Int.not_lt, Int.not_le, Decidable.not_not, Int.sub_neg, c_0, c_1, c_2, l_2, c_3, c_4, l_4, c_5, l_5, c_6, l_6, c_7, l_7, c_8, c_9, l_9, c_10, l_10, c_11, l_11, c_12, l_12, c_13, c_14, l_14, c_15, l_15, c_16, l_16, c_17, l_17, c_18, c_19, l_19, c_20, l_20, c_21, l_21, c_22, l_22, c_23, c_24, l_24, c_25, l_25, c_26, c_27, c_28, l_28, c_29, c_30, l_30, c_31, c_32, l_32, c_33, l_33, c_34, l_34, c_35, l_35, c_36, l_36, c_37, l_37, c_38, l_38, c_39, l_39, c_40, c_41, l_41, c_42, c_43, c_44, l_44, c_45, c_46, l_46, c_47, c_48, l_48, c_49, l_49, c_50, l_50, c_51, l_51, c_52, l_52, c_53, l_53, c_54, l_54, c_55, l_55, c_56, l_56, c_57, l_57, c_58, l_58, c_59, l_59, c_60, l_60, c_61, l_61, c_62, c_63, l_63, c_64, l_64, c_65, l_65, c_66, l_66, c_67, l_67, c_68, l_68, c_69, l_69, c_70, l_70, c_71, l_71, c_72, l_72, c_73, l_73, c_74, l_74, c_75, l_75, c_76, l_76, hk0]
  exact ⟨by omega, by omega, hl wk.toNat 0 M none (by omega) ⟨fun _ _ _ => rfl, fun _ _ _ _ => rfl⟩ rfl⟩
def t_M_split : mmT := fun as M Q => match as with
  | [.inr (.inr o), .inl k, .inl w] => o = 62 ∧ mqB M ∧ M 62 8 ≤ 24 ∧ 0 ≤ M 62 10 ∧ M 62 10 ≤ 9 ∧ 0 ≤ M 62 11 ∧ M 62 11 ≤ 2 ∧ 1 ≤ M 62 12 ∧ M 62 12 ≤ 60 ∧ (¬ (1 ≤ k ∧ k ≤ 4 ∧ 0 ≤ w ∧ w ≤ k) → Q (some (vi (-1))) (tz M)) ∧ ((1 ≤ k ∧ k ≤ 4 ∧ 0 ≤ w ∧ w ≤ k) → ∀ M' P n, (∀ o', o' ≠ 62 → o' ≠ 75 → o' ≠ 76 → M' o' = M o') → (∀ j, j ≠ 0 → j ≠ 33 → j ≠ 35 → j ≠ 36 → j ≠ 37 → M' 62 j = M 62 j) → isOrd (mS M (M 62 34)) (mwt M (M 62 11) (M 62 12)) P n → n ≤ 24 → (∀ a b, 0 ≤ crF (mf M) (ml M) (mt M) P n (M 62 10) a b ∧ crF (mf M) (ml M) (mt M) P n (M 62 10) a b ≤ 30000) → Q (some (vi (spF 1000000 (crF (mf M) (ml M) (mt M) P n (M 62 10)) n k w))) M')
  | _ => False
set_option maxHeartbeats 4000000 in
set_option maxRecDepth 100000 in
theorem p_M_split : ∀ as M Q, (∀ v ∈ as, mm_vin v) → mm_mem M → t_M_split as M Q → (mm_ent as).length ≤ 3 ∧ mm_ok mb_M_split [(1102, t_M_within), (1153, t_M_plans), (1161, t_M_laysSplit), (1162, t_M_share)] (mm_entry 3 as) M Q := by
  intro as M Q hin hM h
  unfold t_M_split at h
  split at h
  rotate_left
  · exact h.elim
  rename_i o k w
  have hR_k : mm_R k := hin (vi k) (by simp)
  have hR_w : mm_R w := hin (vi w) (by simp)
  refine ⟨by simp [mm_ent], (show mm_ok mb_M_split [(1102, t_M_within), (1153, t_M_plans), (1161, t_M_laysSplit), (1162, t_M_share)] [some (vr o), some (vi k), some (vi w)] M Q from ?_)⟩
  intro J hJ
  obtain ⟨rfl, hB, hn24, w0, w1, o1, o2, b1, b2, hN, hY⟩ := h
  have hG := plG_tz M
  have g8 := hG.2 8 (by decide) (by decide) (by decide) (by decide) (by decide)
  have g11 := hG.2 11 (by decide) (by decide) (by decide) (by decide) (by decide)
  have g12 := hG.2 12 (by decide) (by decide) (by decide) (by decide) (by decide)
  have g34 := hG.2 34 (by decide) (by decide) (by decide) (by decide) (by decide)
  have h28 : ¬ (1 ≤ k ∧ k ≤ 4 ∧ 0 ≤ w ∧ w ≤ k) → J 28 [some (vr 62), some (vi k), some (vi w)] [] (tz M) := by
    intro hc
    refine hJ 28 _ _ _ (show mm_wp _ _ _ mo_M_split_28 _ _ _ from ?_)
    simp only [mo_M_split_28, mm_wp, mm_ldi, mm_lda, mm_ldl, mm_sti, mm_sta, mm_stl, mm_inc, mm_2i, mm_mm, mm_2l, mm_lcmp, mm_i2l, mm_l2i, mm_cast8, mm_if1, mm_if2, mm_cmp, mm_swi, mm_sw, mm_pop1, mm_dup, mm_dup2, mm_geti, mm_geta, mm_puti, mm_iald, mm_bald, mm_aald, mm_iast, mm_bast, mm_alen, mm_acpy, mm_call, mm_callv, mm_recv, mm_pop, mm_find, mm_push, mm_cats, mm_cat, mm_reti, mm_retz, mm_retl, mm_reta, mm_retv, mm_set1, mm_set2, mm_kill, List.getElem?_cons_zero, List.getElem?_cons_succ, Int.reduceToNat, ↓reduceIte, Nat.reduceEqDiff, Nat.reduceDiv, Nat.reduceAdd, Nat.reduceLeDiff, Nat.zero_le, true_and, and_true, true_or, or_true, mm_b0, mm_b1, mm_lc_lt, mm_lc_le, mm_lc_gt, mm_lc_ge, mm_lc_eq, Int.not_lt, Int.not_le, Decidable.not_not, Int.sub_neg]
    exact hN hc
  have h30 : (1 ≤ k ∧ k ≤ 4 ∧ 0 ≤ w ∧ w ≤ k) → J 30 [some (vr 62), some (vi k), some (vi w)] [] (tz M) := by
    intro hc
    have hY := hY hc
    refine hJ 30 _ _ _ (show mm_wp _ _ _ mo_M_split_30 _ _ _ from ?_)
    simp only [mo_M_split_30, mm_wp, mm_ldi, mm_lda, mm_ldl, mm_sti, mm_sta, mm_stl, mm_inc, mm_2i, mm_mm, mm_2l, mm_lcmp, mm_i2l, mm_l2i, mm_cast8, mm_if1, mm_if2, mm_cmp, mm_swi, mm_sw, mm_pop1, mm_dup, mm_dup2, mm_geti, mm_geta, mm_puti, mm_iald, mm_bald, mm_aald, mm_iast, mm_bast, mm_alen, mm_acpy, mm_call, mm_callv, mm_recv, mm_pop, mm_find, mm_push, mm_cats, mm_cat, mm_reti, mm_retz, mm_retl, mm_reta, mm_retv, mm_set1, mm_set2, mm_kill, List.getElem?_cons_zero, List.getElem?_cons_succ, Int.reduceToNat, ↓reduceIte, Nat.reduceEqDiff, Nat.reduceDiv, Nat.reduceAdd, Nat.reduceLeDiff, Nat.zero_le, true_and, and_true, true_or, or_true, mm_b0, mm_b1, mm_lc_lt, mm_lc_le, mm_lc_gt, mm_lc_ge, mm_lc_eq, Int.not_lt, Int.not_le, Decidable.not_not, Int.sub_neg, c_0, c_1, c_2, l_2, c_3, c_4, l_4, c_5, l_5, c_6, l_6, c_7, l_7, c_8, c_9, l_9, c_10, l_10, c_11, l_11, c_12, l_12, c_13, c_14, l_14, c_15, l_15, c_16, l_16, c_17, l_17, c_18, c_19, l_19, c_20, l_20, c_21, l_21, c_22, l_22, c_23, c_24, l_24, c_25, l_25, c_26, c_27, c_28, l_28, c_29, c_30, l_30, c_31, c_32, l_32, c_33, l_33, c_34, l_34, c_35, l_35, c_36, l_36, c_37, l_37, c_38, l_38, c_39, l_39, c_40, c_41, l_41, c_42, c_43, c_44, l_44, c_45, c_46, l_46, c_47, c_48, l_48, c_49, l_49, c_50, l_50, c_51, l_51, c_52, l_52, c_53, l_53, c_54, l_54, c_55, l_55, c_56, l_56, c_57, l_57, c_58, l_58, c_59, l_59, c_60, l_60, c_61, l_61, c_62, c_63, l_63, c_64, l_64, c_65, l_65, c_66, l_66, c_67, l_67, c_68, l_68, c_69, l_69, c_70, l_70, c_71, l_71, c_72, l_72, c_73, l_73, c_74, l_74, c_75, l_75, c_76, l_76, t_M_plans, t_M_laysSplit]
    rw [g11, g12, g34, plG_w hG, plG_S hG, g8]
    refine ⟨plG_B hG hB, o1, o2, b1, b2, fun M1 hp hor hle => ?_⟩
    have f1 := plG_tr hG (plG_F hp)
    obtain ⟨e8, ek, ef, el, et⟩ := plG_v f1
    have e10 := f1.2 10 (by decide) (by decide) (by decide) (by decide) (by decide)
    have hsp : spP M1 := ⟨plG_B f1 hB, by omega, by omega, hor.1, by omega, fun i i0 i1 => by
      have := hor.2.1 i i0 i1
      rw [e8]
      exact ⟨this.1, this.2.1⟩⟩
    have ec : crM M1 = crF (mf M) (ml M) (mt M) (M1 75) (M1 62 33) (M 62 10) := by unfold crM; rw [ef, el, et, e10]
    refine ⟨hsp, by omega, by omega, fun M2 hg ht => ?_⟩
    have hcb := crM_b hsp
    have hq : ∀ M3, spG M2 M3 → Q (some (vi (spF 1000000 (crM M1) (M1 62 33) k w))) M3 := by
      intro M3 hg3
      rw [ec] at hcb ⊢
      exact hY M3 (M1 75) (M1 62 33) (fun o' a b c => by rw [hg3.1 o' a c, hg.1 o' a c, f1.1 o' a b]) (fun j a b c d e => by rw [hg3.2 j c d e, hg.2 j c d e, f1.2 j a b c d e]) hor (by omega) hcb
    have h69 : ∀ (z : Int) (M3 : mmM), Q (some (vi z)) M3 → J 69 [some (vr 62), some (vi k), some (vi w)] [vi z] M3 := by
      intro z M3 hz
      refine hJ 69 _ _ _ (show mm_wp _ _ _ mo_M_split_69 _ _ _ from ?_)
      simp only [mo_M_split_69, mm_wp, mm_ldi, mm_lda, mm_ldl, mm_sti, mm_sta, mm_stl, mm_inc, mm_2i, mm_mm, mm_2l, mm_lcmp, mm_i2l, mm_l2i, mm_cast8, mm_if1, mm_if2, mm_cmp, mm_swi, mm_sw, mm_pop1, mm_dup, mm_dup2, mm_geti, mm_geta, mm_puti, mm_iald, mm_bald, mm_aald, mm_iast, mm_bast, mm_alen, mm_acpy, mm_call, mm_callv, mm_recv, mm_pop, mm_find, mm_push, mm_cats, mm_cat, mm_reti, mm_retz, mm_retl, mm_reta, mm_retv, mm_set1, mm_set2, mm_kill, List.getElem?_cons_zero, List.getElem?_cons_succ, Int.reduceToNat, ↓reduceIte, Nat.reduceEqDiff, Nat.reduceDiv, Nat.reduceAdd, Nat.reduceLeDiff, Nat.zero_le, true_and, and_true, true_or, or_true, mm_b0, mm_b1, mm_lc_lt, mm_lc_le, mm_lc_gt, mm_lc_ge, mm_lc_eq, Int.not_lt, Int.not_le, Decidable.not_not, Int.sub_neg]
      exact hz
    have hsp2 := spP_G hg hsp
    have ec2 := crM_G hg
    have e33 : M2 62 33 = M1 62 33 := hg.2 33 (by decide) (by decide) (by decide)
    have h63 : ¬ w = 0 → J 63 [some (vr 62), some (vi k), some (vi w)] [] M2 := by
      intro hw
      refine hJ 63 _ _ _ (show mm_wp _ _ _ mo_M_split_63 _ _ _ from ?_)
      simp only [mo_M_split_63, mm_wp, mm_ldi, mm_lda, mm_ldl, mm_sti, mm_sta, mm_stl, mm_inc, mm_2i, mm_mm, mm_2l, mm_lcmp, mm_i2l, mm_l2i, mm_cast8, mm_if1, mm_if2, mm_cmp, mm_swi, mm_sw, mm_pop1, mm_dup, mm_dup2, mm_geti, mm_geta, mm_puti, mm_iald, mm_bald, mm_aald, mm_iast, mm_bast, mm_alen, mm_acpy, mm_call, mm_callv, mm_recv, mm_pop, mm_find, mm_push, mm_cats, mm_cat, mm_reti, mm_retz, mm_retl, mm_reta, mm_retv, mm_set1, mm_set2, mm_kill, List.getElem?_cons_zero, List.getElem?_cons_succ, Int.reduceToNat, ↓reduceIte, Nat.reduceEqDiff, Nat.reduceDiv, Nat.reduceAdd, Nat.reduceLeDiff, Nat.zero_le, true_and, and_true, true_or, or_true, mm_b0, mm_b1, mm_lc_lt, mm_lc_le, mm_lc_gt, mm_lc_ge, mm_lc_eq, Int.not_lt, Int.not_le, Decidable.not_not, Int.sub_neg, c_0, c_1, c_2, l_2, c_3, c_4, l_4, c_5, l_5, c_6, l_6, c_7, l_7, c_8, c_9, l_9, c_10, l_10, c_11, l_11, c_12, l_12, c_13, c_14, l_14, c_15, l_15, c_16, l_16, c_17, l_17, c_18, c_19, l_19, c_20, l_20, c_21, l_21, c_22, l_22, c_23, c_24, l_24, c_25, l_25, c_26, c_27, c_28, l_28, c_29, c_30, l_30, c_31, c_32, l_32, c_33, l_33, c_34, l_34, c_35, l_35, c_36, l_36, c_37, l_37, c_38, l_38, c_39, l_39, c_40, c_41, l_41, c_42, c_43, c_44, l_44, c_45, c_46, l_46, c_47, c_48, l_48, c_49, l_49, c_50, l_50, c_51, l_51, c_52, l_52, c_53, l_53, c_54, l_54, c_55, l_55, c_56, l_56, c_57, l_57, c_58, l_58, c_59, l_59, c_60, l_60, c_61, l_61, c_62, c_63, l_63, c_64, l_64, c_65, l_65, c_66, l_66, c_67, l_67, c_68, l_68, c_69, l_69, c_70, l_70, c_71, l_71, c_72, l_72, c_73, l_73, c_74, l_74, c_75, l_75, c_76, l_76, t_M_share, ec2, e33]
      refine ⟨hsp2, by omega, by omega, by omega, by omega, ht, fun M3 hg3 => h69 _ M3 ?_⟩
      have := hq M3 hg3
      unfold spF at this
      rw [if_neg hw] at this
      exact this
    refine ⟨fun z => h63 z, fun z => ⟨by omega, by omega, h69 _ M2 ?_⟩⟩
    have := hq M2 ⟨fun _ _ _ => rfl, fun _ _ _ _ => rfl⟩
    unfold spF at this
    rw [if_pos z, ← ht k.toNat 0 (by omega) (by omega) hor.1, show 25 * ((k.toNat : Nat) : Int) + 0 = 25 * k by omega] at this
    exact this
  refine hJ 0 _ _ _ (show mm_wp _ _ _ mo_M_split_0 _ _ _ from ?_)
  simp only [mo_M_split_0, mm_wp, mm_ldi, mm_lda, mm_ldl, mm_sti, mm_sta, mm_stl, mm_inc, mm_2i, mm_mm, mm_2l, mm_lcmp, mm_i2l, mm_l2i, mm_cast8, mm_if1, mm_if2, mm_cmp, mm_swi, mm_sw, mm_pop1, mm_dup, mm_dup2, mm_geti, mm_geta, mm_puti, mm_iald, mm_bald, mm_aald, mm_iast, mm_bast, mm_alen, mm_acpy, mm_call, mm_callv, mm_recv, mm_pop, mm_find, mm_push, mm_cats, mm_cat, mm_reti, mm_retz, mm_retl, mm_reta, mm_retv, mm_set1, mm_set2, mm_kill, List.getElem?_cons_zero, List.getElem?_cons_succ, Int.reduceToNat, ↓reduceIte, Nat.reduceEqDiff, Nat.reduceDiv, Nat.reduceAdd, Nat.reduceLeDiff, Nat.zero_le, true_and, and_true, true_or, or_true, mm_b0, mm_b1, mm_lc_lt, mm_lc_le, mm_lc_gt, mm_lc_ge, mm_lc_eq, Int.not_lt, Int.not_le, Decidable.not_not, Int.sub_neg, c_0, c_1, c_2, l_2, c_3, c_4, l_4, c_5, l_5, c_6, l_6, c_7, l_7, c_8, c_9, l_9, c_10, l_10, c_11, l_11, c_12, l_12, c_13, c_14, l_14, c_15, l_15, c_16, l_16, c_17, l_17, c_18, c_19, l_19, c_20, l_20, c_21, l_21, c_22, l_22, c_23, c_24, l_24, c_25, l_25, c_26, c_27, c_28, l_28, c_29, c_30, l_30, c_31, c_32, l_32, c_33, l_33, c_34, l_34, c_35, l_35, c_36, l_36, c_37, l_37, c_38, l_38, c_39, l_39, c_40, c_41, l_41, c_42, c_43, c_44, l_44, c_45, c_46, l_46, c_47, c_48, l_48, c_49, l_49, c_50, l_50, c_51, l_51, c_52, l_52, c_53, l_53, c_54, l_54, c_55, l_55, c_56, l_56, c_57, l_57, c_58, l_58, c_59, l_59, c_60, l_60, c_61, l_61, c_62, c_63, l_63, c_64, l_64, c_65, l_65, c_66, l_66, c_67, l_67, c_68, l_68, c_69, l_69, c_70, l_70, c_71, l_71, c_72, l_72, c_73, l_73, c_74, l_74, c_75, l_75, c_76, l_76, t_M_within]
  exact ⟨fun z => h28 (by omega), fun z => ⟨fun z2 => h30 (by omega), fun z2 => h28 (by omega)⟩⟩
/-! the greatest number that stands for none makes no odds -/
def spr (x y : Int) : Prop := (x = y ∧ x ≤ 30000) ∨ (x = 1000000 ∧ y = 1000000000)
theorem mn_r {g g' : Int → Int} {a : Int} : ∀ k : Nat, (∀ j : Int, spr (g j) (g' j)) → spr (mnN 1000000 g a k) (mnN 1000000000 g' a k)
  | 0, _ => Or.inr ⟨rfl, rfl⟩
  | k + 1, h => by
    have h1 := mn_r (a := a) k h
    have h2 := h (a + k)
    unfold spr at *
    simp only [mnN]
    omega
theorem mn_fin {g : Int → Int} {a j : Int} : ∀ k : Nat, a ≤ j → j < a + k → g j ≤ 30000 → mnN 1000000 g a k ≤ 30000
  | 0, h1, h2, _ => by omega
  | k + 1, h1, h2, h3 => by
    simp only [mnN]
    by_cases c : j = a + k
    · rw [← c]; omega
    · have := mn_fin (g := g) k h1 (by omega) h3
      omega
theorem ls_r {c : Int → Int → Int} {n : Int} (hc : ∀ a b, 0 ≤ c a b ∧ c a b ≤ 30000) : ∀ (h : Nat) (a : Int), spr (lsF 1000000 c n h a) (lsF 1000000000 c n h a)
  | 0, a => by
    simp only [lsF]
    split
    · exact Or.inl ⟨rfl, by omega⟩
    · exact Or.inr ⟨rfl, rfl⟩
  | h + 1, a => by
    simp only [lsF]
    refine mn_r _ (fun j => ?_)
    have h1 := ls_r (n := n) hc h j
    have h2 := hc a j
    unfold spr at *
    omega
theorem ls_n {c : Int → Int → Int} {n : Int} (hc : ∀ a b, 0 ≤ c a b ∧ c a b ≤ 30000) : ∀ h : Nat, lsF 1000000 c n h n ≤ 30000
  | 0 => by simp [lsF]
  | h + 1 => by
    simp only [lsF]
    refine mn_fin (j := n) _ (by omega) (by omega) ?_
    have h1 := ls_n (n := n) hc h
    have h2 := hc n n
    omega
theorem ls_fin {c : Int → Int → Int} {n : Int} (hc : ∀ a b, 0 ≤ c a b ∧ c a b ≤ 30000) (h : Nat) {a : Int} (ha : a ≤ n) : lsF 1000000 c n (h + 1) a ≤ 30000 := by
  simp only [lsF]
  refine mn_fin (j := n) _ (by omega) (by omega) ?_
  have h1 := ls_n (n := n) hc h
  have h2 := hc a n
  omega
theorem sh_r {c : Int → Int → Int} {n k lim : Int} (hc : ∀ a b, 0 ≤ c a b ∧ c a b ≤ 30000) (hl : lim ≤ 30000) : ∀ w : Nat, shF c (lsF 1000000 c n) n k lim w = shF c (lsF 1000000000 c n) n k lim w
  | 0 => rfl
  | w + 1 => by
    have ih := sh_r (n := n) (k := k) hc hl w
    simp only [shF]
    rw [ih]
    have e := fuF_cong (g := fun j => c (shF c (lsF 1000000000 c n) n k lim w).1 j ≤ lim ∧ lsF 1000000 c n (k - (w + 1)).toNat j ≤ lim) (g' := fun j => c (shF c (lsF 1000000000 c n) n k lim w).1 j ≤ lim ∧ lsF 1000000000 c n (k - (w + 1)).toNat j ≤ lim) (a := (shF c (lsF 1000000000 c n) n k lim w).1) (n - (shF c (lsF 1000000000 c n) n k lim w).1).toNat (fun j _ _ => by
      have h1 := ls_r (n := n) hc (k - (w + 1)).toNat j
      unfold spr at h1
      constructor
      · rintro ⟨a, b⟩; exact ⟨a, by omega⟩
      · rintro ⟨a, b⟩; exact ⟨a, by omega⟩)
    rw [e]
theorem sp_I {c : Int → Int → Int} {n k w : Int} (hc : ∀ a b, 0 ≤ c a b ∧ c a b ≤ 30000) (hn : 0 ≤ n) (hk : 1 ≤ k) : spF 1000000 c n k w = spF 1000000000 c n k w := by
  have h1 := ls_r (n := n) hc k.toNat 0
  have h2 : lsF 1000000 c n k.toNat 0 ≤ 30000 := by
    rw [show k.toNat = (k - 1).toNat + 1 by omega]
    exact ls_fin hc _ hn
  have h3 : lsF 1000000 c n k.toNat 0 = lsF 1000000000 c n k.toNat 0 := by
    unfold spr at h1
    omega
  unfold spF
  rw [← h3, sh_r hc h2]
