/-! choosing again and again the least that lies behind: the reference's plan -/
def slI (S : Int → Prop) (w P : Int → Int) (k B : Int) : Prop := 0 ≤ k ∧ (∀ i, 0 ≤ i → i < k → S (P i)) ∧ (∀ i j, 0 ≤ i → i < j → j < k → w (P i) < w (P j)) ∧ (∀ i, 0 ≤ i → i < k → w (P i) ≤ B) ∧ ∀ q, S q → w q ≤ B → ∃ i, 0 ≤ i ∧ i < k ∧ P i = q
theorem sl_0 {S : Int → Prop} {w P : Int → Int} {B : Int} (h : ∀ q, S q → B < w q) : slI S w P 0 B := ⟨by omega, fun i i0 i1 => by omega, fun i j i0 ij j1 => by omega, fun i i0 i1 => by omega, fun q hq hw => by have := h q hq; omega⟩
theorem sl_step {S : Int → Prop} {w P P' : Int → Int} {k B f : Int} (h : slI S w P k B) (hi : ∀ q r, S q → S r → w q = w r → q = r) (hf : S f) (hB : B < w f) (hm : ∀ q, S q → B < w q → w f ≤ w q) (hP : ∀ i, 0 ≤ i → i < k → P' i = P i) (hk : P' k = f) : slI S w P' (k + 1) (w f) := by
  obtain ⟨a0, a1, a2, a3, a4⟩ := h
  refine ⟨by omega, fun i i0 i1 => ?_, fun i j i0 ij j1 => ?_, fun i i0 i1 => ?_, fun q hq hw => ?_⟩
  · by_cases c : i = k
    · rw [c, hk]; exact hf
    · rw [hP i i0 (by omega)]; exact a1 i i0 (by omega)
  · by_cases c : j = k
    · rw [c, hk, hP i i0 (by omega)]
      have := a3 i i0 (by omega)
      omega
    · rw [hP i i0 (by omega), hP j (by omega) (by omega)]
      exact a2 i j i0 ij (by omega)
  · by_cases c : i = k
    · rw [c, hk]; omega
    · rw [hP i i0 (by omega)]
      have := a3 i i0 (by omega)
      omega
  · by_cases c : w q ≤ B
    · obtain ⟨i, i0, i1, i2⟩ := a4 q hq c
      exact ⟨i, i0, by omega, by rw [hP i i0 i1]; exact i2⟩
    · have := hm q hq (by omega)
      have e := hi q f hq hf (by omega)
      exact ⟨k, a0, by omega, by rw [hk, e]⟩
theorem sl_end {S : Int → Prop} {w P : Int → Int} {k B : Int} (h : slI S w P k B) (hn : ∀ q, S q → ¬ B < w q) : isOrd S w P k := by
  obtain ⟨a0, a1, a2, a3, a4⟩ := h
  exact ⟨a0, a1, a2, fun q hq => a4 q hq (by have := hn q hq; omega)⟩
theorem sN_le {f g : Int → Int} : ∀ n : Nat, (∀ k : Nat, k < n → f k ≤ g k) → sN f n ≤ sN g n
  | 0, _ => by simp [sN]
  | n + 1, h => by
    have := sN_le n (fun k hk => h k (by omega))
    have := h n (by omega)
    simp only [sN]
    omega
theorem sN_lt {f g : Int → Int} {a : Nat} : ∀ n : Nat, (∀ k : Nat, k < n → f k ≤ g k) → a < n → f a + 1 ≤ g a → sN f n + 1 ≤ sN g n
  | 0, _, h, _ => by omega
  | n + 1, h, ha, h1 => by
    have h2 := h n (by omega)
    simp only [sN]
    by_cases c : a = n
    · subst c
      have := sN_le a (fun k hk => h k (by omega))
      omega
    · have := sN_lt n (fun k hk => h k (by omega)) (by omega) h1
      omega
noncomputable def slC (S : Int → Prop) (w : Int → Int) (n : Nat) (B : Int) : Int := sN (fun q => mm_c (S q ∧ B < w q)) n
theorem slC_b (S : Int → Prop) (w : Int → Int) (n : Nat) (B : Int) : 0 ≤ slC S w n B ∧ slC S w n B ≤ n := by
  have := sN_b (f := fun q => mm_c (S q ∧ B < w q)) (a := 0) (b := 1) n (fun k _ => mm_c01 _)
  unfold slC
  omega
theorem slC_lt {S : Int → Prop} {w : Int → Int} {n : Nat} {B f : Int} (h0 : 0 ≤ f) (h1 : f < n) (hf : S f) (hB : B < w f) : slC S w n (w f) + 1 ≤ slC S w n B := by
  unfold slC
  refine sN_lt (a := f.toNat) n (fun k hk => ?_) (by omega) ?_
  · by_cases c : S k ∧ w f < w k
    · rw [mm_cT c, mm_cT ⟨c.1, by have := c.2; omega⟩]; omega
    · rw [mm_cF c]; exact (mm_c01 _).1
  · rw [show ((f.toNat : Nat) : Int) = f by omega, mm_cF (fun c => by have := c.2; omega), mm_cT ⟨hf, hB⟩]
    omega
/-- what the search among the first m has found -/
def slF (S : Int → Prop) (w : Int → Int) (B m f : Int) : Prop := (f = -1 ∧ ∀ q, S q → q < m → ¬ B < w q) ∨ (0 ≤ f ∧ f < m ∧ S f ∧ B < w f ∧ ∀ q, S q → q < m → B < w q → w f ≤ w q)
def mS (M : mmM) (wo q : Int) : Prop := 0 ≤ q ∧ q < M 62 8 ∧ ¬ q = wo ∧ ¬ mk M q = 2 ∧ ¬ mk M q = 3 ∧ ¬ mk M q = 6
theorem mwt_in {M : mmM} {ord b wo : Int} (hB : mqB M) (o1 : 0 ≤ ord) (o2 : ord ≤ 2) (b1 : 1 ≤ b) : (∀ q, mS M wo q → -1 < mwt M ord b q) ∧ (∀ q r, mS M wo q → mS M wo r → mwt M ord b q = mwt M ord b r → q = r) ∧ ∀ q, 0 ≤ q → q < M 62 8 → 0 ≤ mwt M ord b q ∧ mwt M ord b q < 20000000 := by
  have key : ∀ q, 0 ≤ q → q < M 62 8 → 0 ≤ mwt M ord b q ∧ mwt M ord b q < 20000000 ∧ mwt M ord b q % 64 = q := by
    intro q q0 q1
    have h := hB.2.2 q q0 q1
    have hn := hB.2.1
    have := pA_b (ord := ord) (b := b) (f := mf M q) (l := ml M q) (t := mt M q) b1 h.1 h.2.1 h.2.2.1 h.2.2.2.1 h.2.2.2.2.1 h.2.2.2.2.2
    unfold mwt
    omega
  refine ⟨fun q hq => ?_, fun q r hq hr he => ?_, fun q q0 q1 => ?_⟩
  · have := key q hq.1 hq.2.1; omega
  · have h1 := key q hq.1 hq.2.1
    have h2 := key r hr.1 hr.2.1
    rw [he] at h1
    omega
  · have := key q q0 q1; omega
def plF (M M' : mmM) : Prop := (∀ o', o' ≠ 62 → o' ≠ 75 → M' o' = M o') ∧ ∀ j, j ≠ 33 → M' 62 j = M 62 j
theorem plF_v {M M' : mmM} (h : plF M M') : M' 62 8 = M 62 8 ∧ mk M' = mk M ∧ mf M' = mf M ∧ ml M' = ml M ∧ mt M' = mt M := by
  have e67 := h.1 67 (by decide) (by decide)
  refine ⟨h.2 8 (by decide), ?_, ?_, ?_, ?_⟩
  · unfold mk; rw [e67]
  · unfold mf; rw [e67]
  · unfold ml; rw [e67]
  · unfold mt; rw [e67]
theorem plF_B {M M' : mmM} (h : plF M M') (hB : mqB M) : mqB M' := by
  obtain ⟨a, b, c, d, e⟩ := plF_v h
  unfold mqB
  rw [a, c, d, e]
  exact hB
theorem plF_w {M M' : mmM} (h : plF M M') (ord b : Int) : mwt M' ord b = mwt M ord b := by
  obtain ⟨a, bb, c, d, e⟩ := plF_v h
  funext q
  unfold mwt
  rw [c, d, e]
def t_M_plans : mmT := fun as M Q => match as with
  | [.inr (.inr o), .inl ord, .inl b] => o = 62 ∧ mqB M ∧ 0 ≤ ord ∧ ord ≤ 2 ∧ 1 ≤ b ∧ b ≤ 60 ∧ ∀ M', plF M M' → isOrd (mS M (M 62 34)) (mwt M ord b) (M' 75) (M' 62 33) → M' 62 33 ≤ M 62 8 → Q none M'
  | _ => False
set_option maxHeartbeats 4000000 in
set_option maxRecDepth 100000 in
theorem p_M_plans : ∀ as M Q, (∀ v ∈ as, mm_vin v) → mm_mem M → t_M_plans as M Q → (mm_ent as).length ≤ 8 ∧ mm_ok mb_M_plans [(1150, t_M_isPlanned), (1152, t_M_weightOf)] (mm_entry 8 as) M Q := by
  intro as M Q hin hM h
  unfold t_M_plans at h
  split at h
  rotate_left
  · exact h.elim
  rename_i o ord b
  have hR_ord : mm_R ord := hin (vi ord) (by simp)
  have hR_b : mm_R b := hin (vi b) (by simp)
  refine ⟨by simp [mm_ent], (show mm_ok mb_M_plans [(1150, t_M_isPlanned), (1152, t_M_weightOf)] [some (vr o), some (vi ord), some (vi b), none, none, none, none, none] M Q from ?_)⟩
  intro J hJ
  obtain ⟨rfl, hB, o1, o2, b1, b2, h⟩ := h
  have hn0 := hB.1
  have hn1 := hB.2.1
  obtain ⟨hw1, hw2, hw3⟩ := mwt_in (wo := M 62 34) hB o1 o2 b1
  generalize hS : mS M (M 62 34) = S at h hw1 hw2
  generalize hW : mwt M ord b = w at h hw1 hw2 hw3
  have hSi : ∀ q, S q ↔ (0 ≤ q ∧ q < M 62 8 ∧ ¬ q = M 62 34 ∧ ¬ mk M q = 2 ∧ ¬ mk M q = 3 ∧ ¬ mk M q = 6) := fun q => by rw [← hS]; exact Iff.rfl
  have hl : ∀ (d k : Nat) (fo B : Int) (x6 x7 : Option mmV) (M1 : mmM), (k : Int) + d ≤ M 62 8 → slC S w (M 62 8).toNat B ≤ d → plF M M1 → slI S w (M1 75) k B → M1 62 33 = k → -1 ≤ B → 0 ≤ fo → J 12 [some (vr 62), some (vi ord), some (vi b), some (vl B), none, some (vi fo), x6, x7] [] M1 := by
    intro d
    induction d with
    | zero =>
      intro k fo B x6 x7 M1 hk hc hp hs h33 hb0 hfo
      have hno : ∀ q, S q → ¬ B < w q := by
        intro q hq hlt
        have h1 := (hSi q).mp hq
        have := slC_lt (n := (M 62 8).toNat) h1.1 (by omega) hq hlt
        have := slC_b S w (M 62 8).toNat (w q)
        omega
      have h159 : ∀ x6 x7, J 159 [some (vr 62), some (vi ord), some (vi b), some (vl B), none, some (vi (-1)), x6, x7] [] M1 := by
        intro x6 x7
        refine hJ 159 _ _ _ (show mm_wp _ _ _ mo_M_plans_159 _ _ _ from ?_)
        simp only [mo_M_plans_159, mm_wp, mm_ldi, mm_lda, mm_ldl, mm_sti, mm_sta, mm_stl, mm_inc, mm_2i, mm_mm, mm_2l, mm_lcmp, mm_i2l, mm_l2i, mm_cast8, mm_if1, mm_if2, mm_cmp, mm_swi, mm_sw, mm_pop1, mm_dup, mm_dup2, mm_geti, mm_geta, mm_puti, mm_iald, mm_bald, mm_aald, mm_iast, mm_bast, mm_alen, mm_acpy, mm_call, mm_callv, mm_recv, mm_pop, mm_find, mm_push, mm_cats, mm_cat, mm_reti, mm_retz, mm_retl, mm_reta, mm_retv, mm_set1, mm_set2, mm_kill, List.getElem?_cons_zero, List.getElem?_cons_succ, Int.reduceToNat, ↓reduceIte, Nat.reduceEqDiff, Nat.reduceDiv, Nat.reduceAdd, Nat.reduceLeDiff, Nat.zero_le, true_and, and_true, true_or, or_true, mm_b0, mm_b1, mm_lc_lt, mm_lc_le, mm_lc_gt, mm_lc_ge, mm_lc_eq, Int.not_lt, Int.not_le, Decidable.not_not, Int.sub_neg]
        exact h M1 hp (by rw [h33]; exact sl_end hs hno) (by omega)
      have h12 : ∀ x6 x7, J 12 [some (vr 62), some (vi ord), some (vi b), some (vl B), none, some (vi (-1)), x6, x7] [] M1 := by
        intro x6 x7
        have := h159 x6 x7
        refine hJ 12 _ _ _ (show mm_wp _ _ _ mo_M_plans_12 _ _ _ from ?_)
        simp only [mo_M_plans_12, mm_wp, mm_ldi, mm_lda, mm_ldl, mm_sti, mm_sta, mm_stl, mm_inc, mm_2i, mm_mm, mm_2l, mm_lcmp, mm_i2l, mm_l2i, mm_cast8, mm_if1, mm_if2, mm_cmp, mm_swi, mm_sw, mm_pop1, mm_dup, mm_dup2, mm_geti, mm_geta, mm_puti, mm_iald, mm_bald, mm_aald, mm_iast, mm_bast, mm_alen, mm_acpy, mm_call, mm_callv, mm_recv, mm_pop, mm_find, mm_push, mm_cats, mm_cat, mm_reti, mm_retz, mm_retl, mm_reta, mm_retv, mm_set1, mm_set2, mm_kill, List.getElem?_cons_zero, List.getElem?_cons_succ, Int.reduceToNat, ↓reduceIte, Nat.reduceEqDiff, Nat.reduceDiv, Nat.reduceAdd, Nat.reduceLeDiff, Nat.zero_le, true_and, and_true, true_or, or_true, mm_b0, mm_b1, mm_lc_lt, mm_lc_le, mm_lc_gt, mm_lc_ge, mm_lc_eq, Int.not_lt, Int.not_le, Decidable.not_not, Int.sub_neg]
        exact ⟨fun _ => this, fun z => by omega⟩
      have h121 : ∀ x6 x7, J 121 [some (vr 62), some (vi ord), some (vi b), some (vl B), none, some (vi (-1)), x6, x7] [] M1 := by
        intro x6 x7
        have := h12 x6 x7
        refine hJ 121 _ _ _ (show mm_wp _ _ _ mo_M_plans_121 _ _ _ from ?_)
        simp only [mo_M_plans_121, mm_wp, mm_ldi, mm_lda, mm_ldl, mm_sti, mm_sta, mm_stl, mm_inc, mm_2i, mm_mm, mm_2l, mm_lcmp, mm_i2l, mm_l2i, mm_cast8, mm_if1, mm_if2, mm_cmp, mm_swi, mm_sw, mm_pop1, mm_dup, mm_dup2, mm_geti, mm_geta, mm_puti, mm_iald, mm_bald, mm_aald, mm_iast, mm_bast, mm_alen, mm_acpy, mm_call, mm_callv, mm_recv, mm_pop, mm_find, mm_push, mm_cats, mm_cat, mm_reti, mm_retz, mm_retl, mm_reta, mm_retv, mm_set1, mm_set2, mm_kill, List.getElem?_cons_zero, List.getElem?_cons_succ, Int.reduceToNat, ↓reduceIte, Nat.reduceEqDiff, Nat.reduceDiv, Nat.reduceAdd, Nat.reduceLeDiff, Nat.zero_le, true_and, and_true, true_or, or_true, mm_b0, mm_b1, mm_lc_lt, mm_lc_le, mm_lc_gt, mm_lc_ge, mm_lc_eq, Int.not_lt, Int.not_le, Decidable.not_not, Int.sub_neg]
        exact ⟨fun _ => this, fun z => by omega⟩
      obtain ⟨e8, ek, ef, el, et⟩ := plF_v hp
      have e34 : M1 62 34 = M 62 34 := hp.2 34 (by decide)
      have e67 : M1 67 = M 67 := hp.1 67 (by decide) (by decide)
      have hin : ∀ (d2 m : Nat) (x7 : Option mmV), (m : Int) + d2 = M 62 8 → J 23 [some (vr 62), some (vi ord), some (vi b), some (vl B), none, some (vi (-1)), some (vi m), x7] [] M1 := by
        intro d2
        induction d2 with
        | zero =>
          intro m x7 hm
          have := h121 (some (vi m)) x7
          refine hJ 23 _ _ _ (show mm_wp _ _ _ mo_M_plans_23 _ _ _ from ?_)
          simp only [mo_M_plans_23, mm_wp, mm_ldi, mm_lda, mm_ldl, mm_sti, mm_sta, mm_stl, mm_inc, mm_2i, mm_mm, mm_2l, mm_lcmp, mm_i2l, mm_l2i, mm_cast8, mm_if1, mm_if2, mm_cmp, mm_swi, mm_sw, mm_pop1, mm_dup, mm_dup2, mm_geti, mm_geta, mm_puti, mm_iald, mm_bald, mm_aald, mm_iast, mm_bast, mm_alen, mm_acpy, mm_call, mm_callv, mm_recv, mm_pop, mm_find, mm_push, mm_cats, mm_cat, mm_reti, mm_retz, mm_retl, mm_reta, mm_retv, mm_set1, mm_set2, mm_kill, List.getElem?_cons_zero, List.getElem?_cons_succ, Int.reduceToNat, ↓reduceIte, Nat.reduceEqDiff, Nat.reduceDiv, Nat.reduceAdd, Nat.reduceLeDiff, Nat.zero_le, true_and, and_true, true_or, or_true, mm_b0, mm_b1, mm_lc_lt, mm_lc_le, mm_lc_gt, mm_lc_ge, mm_lc_eq, Int.not_lt, Int.not_le, Decidable.not_not, Int.sub_neg, c_0, c_1, c_2, l_2, c_3, c_4, l_4, c_5, l_5, c_6, l_6, c_7, l_7, c_8, c_9, l_9, c_10, l_10, c_11, l_11, c_12, l_12, c_13, c_14, l_14, c_15, l_15, c_16, l_16, c_17, l_17, c_18, c_19, l_19, c_20, l_20, c_21, l_21, c_22, l_22, c_23, c_24, l_24, c_25, l_25, c_26, c_27, c_28, l_28, c_29, c_30, l_30, c_31, c_32, l_32, c_33, l_33, c_34, l_34, c_35, l_35, c_36, l_36, c_37, l_37, c_38, l_38, c_39, l_39, c_40, c_41, l_41, c_42, c_43, c_44, l_44, c_45, c_46, l_46, c_47, c_48, l_48, c_49, l_49, c_50, l_50, c_51, l_51, c_52, l_52, c_53, l_53, c_54, l_54, c_55, l_55, c_56, l_56, c_57, l_57, c_58, l_58, c_59, l_59, c_60, l_60, c_61, l_61, c_62, c_63, l_63, c_64, l_64, c_65, l_65, c_66, l_66, c_67, l_67, c_68, l_68, c_69, l_69, c_70, l_70, c_71, l_71, c_72, l_72, c_73, l_73, c_74, l_74, c_75, l_75, c_76, l_76, e8]
          exact ⟨fun _ => this, fun z => by omega⟩
        | succ d2 ih2 =>
          intro m x7 hm
          have h113 : ∀ z, J 113 [some (vr 62), some (vi ord), some (vi b), some (vl B), none, some (vi (-1)), some (vi m), some (vi z)] [vi (-1)] M1 := by
            intro z
            refine hJ 113 _ _ _ (show mm_wp _ _ _ mo_M_plans_113 _ _ _ from ?_)
            simp only [mo_M_plans_113, mm_wp, mm_ldi, mm_lda, mm_ldl, mm_sti, mm_sta, mm_stl, mm_inc, mm_2i, mm_mm, mm_2l, mm_lcmp, mm_i2l, mm_l2i, mm_cast8, mm_if1, mm_if2, mm_cmp, mm_swi, mm_sw, mm_pop1, mm_dup, mm_dup2, mm_geti, mm_geta, mm_puti, mm_iald, mm_bald, mm_aald, mm_iast, mm_bast, mm_alen, mm_acpy, mm_call, mm_callv, mm_recv, mm_pop, mm_find, mm_push, mm_cats, mm_cat, mm_reti, mm_retz, mm_retl, mm_reta, mm_retv, mm_set1, mm_set2, mm_kill, List.getElem?_cons_zero, List.getElem?_cons_succ, Int.reduceToNat, ↓reduceIte, Nat.reduceEqDiff, Nat.reduceDiv, Nat.reduceAdd, Nat.reduceLeDiff, Nat.zero_le, true_and, and_true, true_or, or_true, mm_b0, mm_b1, mm_lc_lt, mm_lc_le, mm_lc_gt, mm_lc_ge, mm_lc_eq, Int.not_lt, Int.not_le, Decidable.not_not, Int.sub_neg]
            exact ⟨by omega, ih2 (m + 1) _ (by omega)⟩
          have h111 : ∀ z, J 111 [some (vr 62), some (vi ord), some (vi b), some (vl B), none, some (vi (-1)), some (vi m), some (vi z)] [] M1 := by
            intro z
            refine hJ 111 _ _ _ (show mm_wp _ _ _ mo_M_plans_111 _ _ _ from ?_)
            simp only [mo_M_plans_111, mm_wp, mm_ldi, mm_lda, mm_ldl, mm_sti, mm_sta, mm_stl, mm_inc, mm_2i, mm_mm, mm_2l, mm_lcmp, mm_i2l, mm_l2i, mm_cast8, mm_if1, mm_if2, mm_cmp, mm_swi, mm_sw, mm_pop1, mm_dup, mm_dup2, mm_geti, mm_geta, mm_puti, mm_iald, mm_bald, mm_aald, mm_iast, mm_bast, mm_alen, mm_acpy, mm_call, mm_callv, mm_recv, mm_pop, mm_find, mm_push, mm_cats, mm_cat, mm_reti, mm_retz, mm_retl, mm_reta, mm_retv, mm_set1, mm_set2, mm_kill, List.getElem?_cons_zero, List.getElem?_cons_succ, Int.reduceToNat, ↓reduceIte, Nat.reduceEqDiff, Nat.reduceDiv, Nat.reduceAdd, Nat.reduceLeDiff, Nat.zero_le, true_and, and_true, true_or, or_true, mm_b0, mm_b1, mm_lc_lt, mm_lc_le, mm_lc_gt, mm_lc_ge, mm_lc_eq, Int.not_lt, Int.not_le, Decidable.not_not, Int.sub_neg]
            exact h113 _
          have h74 : ∀ x7, J 74 [some (vr 62), some (vi ord), some (vi b), some (vl B), none, some (vi (-1)), some (vi m), x7] [vi 0] M1 := by
            intro x7
            refine hJ 74 _ _ _ (show mm_wp _ _ _ mo_M_plans_74 _ _ _ from ?_)
            simp only [mo_M_plans_74, mm_wp, mm_ldi, mm_lda, mm_ldl, mm_sti, mm_sta, mm_stl, mm_inc, mm_2i, mm_mm, mm_2l, mm_lcmp, mm_i2l, mm_l2i, mm_cast8, mm_if1, mm_if2, mm_cmp, mm_swi, mm_sw, mm_pop1, mm_dup, mm_dup2, mm_geti, mm_geta, mm_puti, mm_iald, mm_bald, mm_aald, mm_iast, mm_bast, mm_alen, mm_acpy, mm_call, mm_callv, mm_recv, mm_pop, mm_find, mm_push, mm_cats, mm_cat, mm_reti, mm_retz, mm_retl, mm_reta, mm_retv, mm_set1, mm_set2, mm_kill, List.getElem?_cons_zero, List.getElem?_cons_succ, Int.reduceToNat, ↓reduceIte, Nat.reduceEqDiff, Nat.reduceDiv, Nat.reduceAdd, Nat.reduceLeDiff, Nat.zero_le, true_and, and_true, true_or, or_true, mm_b0, mm_b1, mm_lc_lt, mm_lc_le, mm_lc_gt, mm_lc_ge, mm_lc_eq, Int.not_lt, Int.not_le, Decidable.not_not, Int.sub_neg]
            exact ⟨fun _ => h111 _, fun z => by first | omega | simp at z⟩
          have h73 : ∀ x7, J 73 [some (vr 62), some (vi ord), some (vi b), some (vl B), none, some (vi (-1)), some (vi m), x7] [] M1 := by
            intro x7
            refine hJ 73 _ _ _ (show mm_wp _ _ _ mo_M_plans_73 _ _ _ from ?_)
            simp only [mo_M_plans_73, mm_wp, mm_ldi, mm_lda, mm_ldl, mm_sti, mm_sta, mm_stl, mm_inc, mm_2i, mm_mm, mm_2l, mm_lcmp, mm_i2l, mm_l2i, mm_cast8, mm_if1, mm_if2, mm_cmp, mm_swi, mm_sw, mm_pop1, mm_dup, mm_dup2, mm_geti, mm_geta, mm_puti, mm_iald, mm_bald, mm_aald, mm_iast, mm_bast, mm_alen, mm_acpy, mm_call, mm_callv, mm_recv, mm_pop, mm_find, mm_push, mm_cats, mm_cat, mm_reti, mm_retz, mm_retl, mm_reta, mm_retv, mm_set1, mm_set2, mm_kill, List.getElem?_cons_zero, List.getElem?_cons_succ, Int.reduceToNat, ↓reduceIte, Nat.reduceEqDiff, Nat.reduceDiv, Nat.reduceAdd, Nat.reduceLeDiff, Nat.zero_le, true_and, and_true, true_or, or_true, mm_b0, mm_b1, mm_lc_lt, mm_lc_le, mm_lc_gt, mm_lc_ge, mm_lc_eq, Int.not_lt, Int.not_le, Decidable.not_not, Int.sub_neg]
            exact h74 _
          refine hJ 23 _ _ _ (show mm_wp _ _ _ mo_M_plans_23 _ _ _ from ?_)
          simp only [mo_M_plans_23, mm_wp, mm_ldi, mm_lda, mm_ldl, mm_sti, mm_sta, mm_stl, mm_inc, mm_2i, mm_mm, mm_2l, mm_lcmp, mm_i2l, mm_l2i, mm_cast8, mm_if1, mm_if2, mm_cmp, mm_swi, mm_sw, mm_pop1, mm_dup, mm_dup2, mm_geti, mm_geta, mm_puti, mm_iald, mm_bald, mm_aald, mm_iast, mm_bast, mm_alen, mm_acpy, mm_call, mm_callv, mm_recv, mm_pop, mm_find, mm_push, mm_cats, mm_cat, mm_reti, mm_retz, mm_retl, mm_reta, mm_retv, mm_set1, mm_set2, mm_kill, List.getElem?_cons_zero, List.getElem?_cons_succ, Int.reduceToNat, ↓reduceIte, Nat.reduceEqDiff, Nat.reduceDiv, Nat.reduceAdd, Nat.reduceLeDiff, Nat.zero_le, true_and, and_true, true_or, or_true, mm_b0, mm_b1, mm_lc_lt, mm_lc_le, mm_lc_gt, mm_lc_ge, mm_lc_eq, Int.not_lt, Int.not_le, Decidable.not_not, Int.sub_neg, c_0, c_1, c_2, l_2, c_3, c_4, l_4, c_5, l_5, c_6, l_6, c_7, l_7, c_8, c_9, l_9, c_10, l_10, c_11, l_11, c_12, l_12, c_13, c_14, l_14, c_15, l_15, c_16, l_16, c_17, l_17, c_18, c_19, l_19, c_20, l_20, c_21, l_21, c_22, l_22, c_23, c_24, l_24, c_25, l_25, c_26, c_27, c_28, l_28, c_29, c_30, l_30, c_31, c_32, l_32, c_33, l_33, c_34, l_34, c_35, l_35, c_36, l_36, c_37, l_37, c_38, l_38, c_39, l_39, c_40, c_41, l_41, c_42, c_43, c_44, l_44, c_45, c_46, l_46, c_47, c_48, l_48, c_49, l_49, c_50, l_50, c_51, l_51, c_52, l_52, c_53, l_53, c_54, l_54, c_55, l_55, c_56, l_56, c_57, l_57, c_58, l_58, c_59, l_59, c_60, l_60, c_61, l_61, c_62, c_63, l_63, c_64, l_64, c_65, l_65, c_66, l_66, c_67, l_67, c_68, l_68, c_69, l_69, c_70, l_70, c_71, l_71, c_72, l_72, c_73, l_73, c_74, l_74, c_75, l_75, c_76, l_76, e8, e34, e67, t_M_isPlanned, t_M_weightOf]
          refine ⟨fun z => by omega, fun _ => ⟨fun _ => h73 _, fun z1 => ⟨by omega, by omega, fun _ => h73 _, fun z2 => ⟨plF_B hp hB, by omega, by omega, o1, o2, b1, b2, fun _ => h73 _, fun z3 => ?_⟩⟩⟩⟩
          rw [plF_w hp, hW] at z3
          exact absurd z3 (hno m ((hSi m).mpr ⟨by omega, by omega, z1, z2⟩))
      refine hJ 12 _ _ _ (show mm_wp _ _ _ mo_M_plans_12 _ _ _ from ?_)
      simp only [mo_M_plans_12, mm_wp, mm_ldi, mm_lda, mm_ldl, mm_sti, mm_sta, mm_stl, mm_inc, mm_2i, mm_mm, mm_2l, mm_lcmp, mm_i2l, mm_l2i, mm_cast8, mm_if1, mm_if2, mm_cmp, mm_swi, mm_sw, mm_pop1, mm_dup, mm_dup2, mm_geti, mm_geta, mm_puti, mm_iald, mm_bald, mm_aald, mm_iast, mm_bast, mm_alen, mm_acpy, mm_call, mm_callv, mm_recv, mm_pop, mm_find, mm_push, mm_cats, mm_cat, mm_reti, mm_retz, mm_retl, mm_reta, mm_retv, mm_set1, mm_set2, mm_kill, List.getElem?_cons_zero, List.getElem?_cons_succ, Int.reduceToNat, ↓reduceIte, Nat.reduceEqDiff, Nat.reduceDiv, Nat.reduceAdd, Nat.reduceLeDiff, Nat.zero_le, true_and, and_true, true_or, or_true, mm_b0, mm_b1, mm_lc_lt, mm_lc_le, mm_lc_gt, mm_lc_ge, mm_lc_eq, Int.not_lt, Int.not_le, Decidable.not_not, Int.sub_neg]
      exact ⟨fun z => by omega, fun _ => hin (M 62 8).toNat 0 _ (by omega)⟩
    | succ d ih =>
      intro k fo B x6 x7 M1 hk hc hp hs h33 hb0 hfo
      obtain ⟨e8, ek, ef, el, et⟩ := plF_v hp
      have e34 : M1 62 34 = M 62 34 := hp.2 34 (by decide)
      have e67 : M1 67 = M 67 := hp.1 67 (by decide) (by decide)
      have hB1 := plF_B hp hB
      have hW1 : mwt M1 ord b = w := by rw [plF_w hp, hW]
      have h121 : ∀ (f : Int) (x6 x7 : Option mmV), slF S w B (M 62 8) f → J 121 [some (vr 62), some (vi ord), some (vi b), some (vl B), none, some (vi f), x6, x7] [] M1 := by
        intro f x6 x7 hf
        rcases hf with ⟨rfl, hno⟩ | ⟨f0, f1, fS, fB, fm⟩
        · have h159 : J 159 [some (vr 62), some (vi ord), some (vi b), some (vl B), none, some (vi (-1)), x6, x7] [] M1 := by
            refine hJ 159 _ _ _ (show mm_wp _ _ _ mo_M_plans_159 _ _ _ from ?_)
            simp only [mo_M_plans_159, mm_wp, mm_ldi, mm_lda, mm_ldl, mm_sti, mm_sta, mm_stl, mm_inc, mm_2i, mm_mm, mm_2l, mm_lcmp, mm_i2l, mm_l2i, mm_cast8, mm_if1, mm_if2, mm_cmp, mm_swi, mm_sw, mm_pop1, mm_dup, mm_dup2, mm_geti, mm_geta, mm_puti, mm_iald, mm_bald, mm_aald, mm_iast, mm_bast, mm_alen, mm_acpy, mm_call, mm_callv, mm_recv, mm_pop, mm_find, mm_push, mm_cats, mm_cat, mm_reti, mm_retz, mm_retl, mm_reta, mm_retv, mm_set1, mm_set2, mm_kill, List.getElem?_cons_zero, List.getElem?_cons_succ, Int.reduceToNat, ↓reduceIte, Nat.reduceEqDiff, Nat.reduceDiv, Nat.reduceAdd, Nat.reduceLeDiff, Nat.zero_le, true_and, and_true, true_or, or_true, mm_b0, mm_b1, mm_lc_lt, mm_lc_le, mm_lc_gt, mm_lc_ge, mm_lc_eq, Int.not_lt, Int.not_le, Decidable.not_not, Int.sub_neg]
            exact h M1 hp (by rw [h33]; exact sl_end hs (fun q hq => hno q hq ((hSi q).mp hq).2.1)) (by omega)
          have h12 : J 12 [some (vr 62), some (vi ord), some (vi b), some (vl B), none, some (vi (-1)), x6, x7] [] M1 := by
            refine hJ 12 _ _ _ (show mm_wp _ _ _ mo_M_plans_12 _ _ _ from ?_)
            simp only [mo_M_plans_12, mm_wp, mm_ldi, mm_lda, mm_ldl, mm_sti, mm_sta, mm_stl, mm_inc, mm_2i, mm_mm, mm_2l, mm_lcmp, mm_i2l, mm_l2i, mm_cast8, mm_if1, mm_if2, mm_cmp, mm_swi, mm_sw, mm_pop1, mm_dup, mm_dup2, mm_geti, mm_geta, mm_puti, mm_iald, mm_bald, mm_aald, mm_iast, mm_bast, mm_alen, mm_acpy, mm_call, mm_callv, mm_recv, mm_pop, mm_find, mm_push, mm_cats, mm_cat, mm_reti, mm_retz, mm_retl, mm_reta, mm_retv, mm_set1, mm_set2, mm_kill, List.getElem?_cons_zero, List.getElem?_cons_succ, Int.reduceToNat, ↓reduceIte, Nat.reduceEqDiff, Nat.reduceDiv, Nat.reduceAdd, Nat.reduceLeDiff, Nat.zero_le, true_and, and_true, true_or, or_true, mm_b0, mm_b1, mm_lc_lt, mm_lc_le, mm_lc_gt, mm_lc_ge, mm_lc_eq, Int.not_lt, Int.not_le, Decidable.not_not, Int.sub_neg]
            exact ⟨fun _ => h159, fun z => by omega⟩
          refine hJ 121 _ _ _ (show mm_wp _ _ _ mo_M_plans_121 _ _ _ from ?_)
          simp only [mo_M_plans_121, mm_wp, mm_ldi, mm_lda, mm_ldl, mm_sti, mm_sta, mm_stl, mm_inc, mm_2i, mm_mm, mm_2l, mm_lcmp, mm_i2l, mm_l2i, mm_cast8, mm_if1, mm_if2, mm_cmp, mm_swi, mm_sw, mm_pop1, mm_dup, mm_dup2, mm_geti, mm_geta, mm_puti, mm_iald, mm_bald, mm_aald, mm_iast, mm_bast, mm_alen, mm_acpy, mm_call, mm_callv, mm_recv, mm_pop, mm_find, mm_push, mm_cats, mm_cat, mm_reti, mm_retz, mm_retl, mm_reta, mm_retv, mm_set1, mm_set2, mm_kill, List.getElem?_cons_zero, List.getElem?_cons_succ, Int.reduceToNat, ↓reduceIte, Nat.reduceEqDiff, Nat.reduceDiv, Nat.reduceAdd, Nat.reduceLeDiff, Nat.zero_le, true_and, and_true, true_or, or_true, mm_b0, mm_b1, mm_lc_lt, mm_lc_le, mm_lc_gt, mm_lc_ge, mm_lc_eq, Int.not_lt, Int.not_le, Decidable.not_not, Int.sub_neg]
          exact ⟨fun _ => h12, fun z => by omega⟩
        · have hwf := hw3 f f0 f1
          have hcl := slC_lt (n := (M 62 8).toNat) f0 (by omega) fS fB
          have e33 : ∀ i v, mm_up M1 75 i v 62 33 = k := fun i v => by rw [mm_up_o _ _ (by decide), h33]
          refine hJ 121 _ _ _ (show mm_wp _ _ _ mo_M_plans_121 _ _ _ from ?_)
          simp only [mo_M_plans_121, mm_wp, mm_ldi, mm_lda, mm_ldl, mm_sti, mm_sta, mm_stl, mm_inc, mm_2i, mm_mm, mm_2l, mm_lcmp, mm_i2l, mm_l2i, mm_cast8, mm_if1, mm_if2, mm_cmp, mm_swi, mm_sw, mm_pop1, mm_dup, mm_dup2, mm_geti, mm_geta, mm_puti, mm_iald, mm_bald, mm_aald, mm_iast, mm_bast, mm_alen, mm_acpy, mm_call, mm_callv, mm_recv, mm_pop, mm_find, mm_push, mm_cats, mm_cat, mm_reti, mm_retz, mm_retl, mm_reta, mm_retv, mm_set1, mm_set2, mm_kill, List.getElem?_cons_zero, List.getElem?_cons_succ, Int.reduceToNat, ↓reduceIte, Nat.reduceEqDiff, Nat.reduceDiv, Nat.reduceAdd, Nat.reduceLeDiff, Nat.zero_le, true_and, and_true, true_or, or_true, mm_b0, mm_b1, mm_lc_lt, mm_lc_le, mm_lc_gt, mm_lc_ge, mm_lc_eq, Int.not_lt, Int.not_le, Decidable.not_not, Int.sub_neg, c_0, c_1, c_2, l_2, c_3, c_4, l_4, c_5, l_5, c_6, l_6, c_7, l_7, c_8, c_9, l_9, c_10, l_10, c_11, l_11, c_12, l_12, c_13, c_14, l_14, c_15, l_15, c_16, l_16, c_17, l_17, c_18, c_19, l_19, c_20, l_20, c_21, l_21, c_22, l_22, c_23, c_24, l_24, c_25, l_25, c_26, c_27, c_28, l_28, c_29, c_30, l_30, c_31, c_32, l_32, c_33, l_33, c_34, l_34, c_35, l_35, c_36, l_36, c_37, l_37, c_38, l_38, c_39, l_39, c_40, c_41, l_41, c_42, c_43, c_44, l_44, c_45, c_46, l_46, c_47, c_48, l_48, c_49, l_49, c_50, l_50, c_51, l_51, c_52, l_52, c_53, l_53, c_54, l_54, c_55, l_55, c_56, l_56, c_57, l_57, c_58, l_58, c_59, l_59, c_60, l_60, c_61, l_61, c_62, c_63, l_63, c_64, l_64, c_65, l_65, c_66, l_66, c_67, l_67, c_68, l_68, c_69, l_69, c_70, l_70, c_71, l_71, c_72, l_72, c_73, l_73, c_74, l_74, c_75, l_75, c_76, l_76, t_M_weightOf, e8, hW1, h33, e33]
          refine ⟨fun z => by omega, fun _ => ⟨hB1, by omega, by omega, o1, o2, b1, b2, by omega, by omega, ?_⟩⟩
          have := ih (k + 1) f (w f) x6 x7 (mm_up (mm_up M1 75 k f) 62 33 (k + 1)) (by omega) (by omega) ⟨fun o' c1 c2 => by rw [mm_up_o _ _ c1, mm_up_o _ _ c2, hp.1 o' c1 c2], fun j hj => by rw [mm_up_i _ hj, mm_up_o _ _ (by decide), hp.2 j hj]⟩ (by
            rw [mm_up_o _ _ (by decide)]
            exact sl_step hs hw2 fS fB (fun q hq hlt => fm q hq ((hSi q).mp hq).2.1 hlt) (fun i i0 i1 => by rw [mm_up_i _ (by omega)]) (by rw [mm_up_s])) (by rw [mm_up_s]; omega) (by omega) f0
          exact this
      have hin : ∀ (d2 m : Nat) (f : Int) (x7 : Option mmV), (m : Int) + d2 = M 62 8 → slF S w B m f → J 23 [some (vr 62), some (vi ord), some (vi b), some (vl B), none, some (vi f), some (vi m), x7] [] M1 := by
        intro d2
        induction d2 with
        | zero =>
          intro m f x7 hm hf
          have := h121 f (some (vi m)) x7 (by rw [show M 62 8 = (m : Int) by omega]; exact hf)
          refine hJ 23 _ _ _ (show mm_wp _ _ _ mo_M_plans_23 _ _ _ from ?_)
          simp only [mo_M_plans_23, mm_wp, mm_ldi, mm_lda, mm_ldl, mm_sti, mm_sta, mm_stl, mm_inc, mm_2i, mm_mm, mm_2l, mm_lcmp, mm_i2l, mm_l2i, mm_cast8, mm_if1, mm_if2, mm_cmp, mm_swi, mm_sw, mm_pop1, mm_dup, mm_dup2, mm_geti, mm_geta, mm_puti, mm_iald, mm_bald, mm_aald, mm_iast, mm_bast, mm_alen, mm_acpy, mm_call, mm_callv, mm_recv, mm_pop, mm_find, mm_push, mm_cats, mm_cat, mm_reti, mm_retz, mm_retl, mm_reta, mm_retv, mm_set1, mm_set2, mm_kill, List.getElem?_cons_zero, List.getElem?_cons_succ, Int.reduceToNat, ↓reduceIte, Nat.reduceEqDiff, Nat.reduceDiv, Nat.reduceAdd, Nat.reduceLeDiff, Nat.zero_le, true_and, and_true, true_or, or_true, mm_b0, mm_b1, mm_lc_lt, mm_lc_le, mm_lc_gt, mm_lc_ge, mm_lc_eq, Int.not_lt, Int.not_le, Decidable.not_not, Int.sub_neg, c_0, c_1, c_2, l_2, c_3, c_4, l_4, c_5, l_5, c_6, l_6, c_7, l_7, c_8, c_9, l_9, c_10, l_10, c_11, l_11, c_12, l_12, c_13, c_14, l_14, c_15, l_15, c_16, l_16, c_17, l_17, c_18, c_19, l_19, c_20, l_20, c_21, l_21, c_22, l_22, c_23, c_24, l_24, c_25, l_25, c_26, c_27, c_28, l_28, c_29, c_30, l_30, c_31, c_32, l_32, c_33, l_33, c_34, l_34, c_35, l_35, c_36, l_36, c_37, l_37, c_38, l_38, c_39, l_39, c_40, c_41, l_41, c_42, c_43, c_44, l_44, c_45, c_46, l_46, c_47, c_48, l_48, c_49, l_49, c_50, l_50, c_51, l_51, c_52, l_52, c_53, l_53, c_54, l_54, c_55, l_55, c_56, l_56, c_57, l_57, c_58, l_58, c_59, l_59, c_60, l_60, c_61, l_61, c_62, c_63, l_63, c_64, l_64, c_65, l_65, c_66, l_66, c_67, l_67, c_68, l_68, c_69, l_69, c_70, l_70, c_71, l_71, c_72, l_72, c_73, l_73, c_74, l_74, c_75, l_75, c_76, l_76, e8]
          exact ⟨fun _ => this, fun z => by omega⟩
        | succ d2 ih2 =>
          intro m f x7 hm hf
          have h113 : ∀ (z f' : Int), slF S w B (m + 1 : Nat) f' → J 113 [some (vr 62), some (vi ord), some (vi b), some (vl B), none, some (vi f), some (vi m), some (vi z)] [vi f'] M1 := by
            intro z f' hf'
            refine hJ 113 _ _ _ (show mm_wp _ _ _ mo_M_plans_113 _ _ _ from ?_)
            simp only [mo_M_plans_113, mm_wp, mm_ldi, mm_lda, mm_ldl, mm_sti, mm_sta, mm_stl, mm_inc, mm_2i, mm_mm, mm_2l, mm_lcmp, mm_i2l, mm_l2i, mm_cast8, mm_if1, mm_if2, mm_cmp, mm_swi, mm_sw, mm_pop1, mm_dup, mm_dup2, mm_geti, mm_geta, mm_puti, mm_iald, mm_bald, mm_aald, mm_iast, mm_bast, mm_alen, mm_acpy, mm_call, mm_callv, mm_recv, mm_pop, mm_find, mm_push, mm_cats, mm_cat, mm_reti, mm_retz, mm_retl, mm_reta, mm_retv, mm_set1, mm_set2, mm_kill, List.getElem?_cons_zero, List.getElem?_cons_succ, Int.reduceToNat, ↓reduceIte, Nat.reduceEqDiff, Nat.reduceDiv, Nat.reduceAdd, Nat.reduceLeDiff, Nat.zero_le, true_and, and_true, true_or, or_true, mm_b0, mm_b1, mm_lc_lt, mm_lc_le, mm_lc_gt, mm_lc_ge, mm_lc_eq, Int.not_lt, Int.not_le, Decidable.not_not, Int.sub_neg]
            exact ⟨by omega, ih2 (m + 1) f' _ (by omega) hf'⟩
          have h111 : ∀ z, slF S w B (m + 1 : Nat) f → J 111 [some (vr 62), some (vi ord), some (vi b), some (vl B), none, some (vi f), some (vi m), some (vi z)] [] M1 := by
            intro z hz
            refine hJ 111 _ _ _ (show mm_wp _ _ _ mo_M_plans_111 _ _ _ from ?_)
            simp only [mo_M_plans_111, mm_wp, mm_ldi, mm_lda, mm_ldl, mm_sti, mm_sta, mm_stl, mm_inc, mm_2i, mm_mm, mm_2l, mm_lcmp, mm_i2l, mm_l2i, mm_cast8, mm_if1, mm_if2, mm_cmp, mm_swi, mm_sw, mm_pop1, mm_dup, mm_dup2, mm_geti, mm_geta, mm_puti, mm_iald, mm_bald, mm_aald, mm_iast, mm_bast, mm_alen, mm_acpy, mm_call, mm_callv, mm_recv, mm_pop, mm_find, mm_push, mm_cats, mm_cat, mm_reti, mm_retz, mm_retl, mm_reta, mm_retv, mm_set1, mm_set2, mm_kill, List.getElem?_cons_zero, List.getElem?_cons_succ, Int.reduceToNat, ↓reduceIte, Nat.reduceEqDiff, Nat.reduceDiv, Nat.reduceAdd, Nat.reduceLeDiff, Nat.zero_le, true_and, and_true, true_or, or_true, mm_b0, mm_b1, mm_lc_lt, mm_lc_le, mm_lc_gt, mm_lc_ge, mm_lc_eq, Int.not_lt, Int.not_le, Decidable.not_not, Int.sub_neg]
            exact h113 _ _ hz
          have hf1 : -1 ≤ f ∧ f < M 62 8 := by
            rcases hf with ⟨e, -⟩ | ⟨a, b, -⟩ <;> omega
          have skip : (¬ S m ∨ ¬ B < w m) → slF S w B (m + 1 : Nat) f := by
            intro hsk
            rcases hf with ⟨e, hno⟩ | ⟨f0, f1, fS, fB, fm⟩
            · refine Or.inl ⟨e, fun q hq hq1 => ?_⟩
              by_cases c : q = m
              · subst c; rcases hsk with c2 | c2
                · exact absurd hq c2
                · exact c2
              · exact hno q hq (by omega)
            · refine Or.inr ⟨f0, by omega, fS, fB, fun q hq hq1 hlt => ?_⟩
              by_cases c : q = m
              · subst c; rcases hsk with c2 | c2
                · exact absurd hq c2
                · exact absurd hlt c2
              · exact fm q hq (by omega) hlt
          have h73 : ∀ x7, (¬ S m ∨ ¬ B < w m) → J 73 [some (vr 62), some (vi ord), some (vi b), some (vl B), none, some (vi f), some (vi m), x7] [] M1 := by
            intro x7 hsk
            have h74 : J 74 [some (vr 62), some (vi ord), some (vi b), some (vl B), none, some (vi f), some (vi m), x7] [vi 0] M1 := by
              refine hJ 74 _ _ _ (show mm_wp _ _ _ mo_M_plans_74 _ _ _ from ?_)
              simp only [mo_M_plans_74, mm_wp, mm_ldi, mm_lda, mm_ldl, mm_sti, mm_sta, mm_stl, mm_inc, mm_2i, mm_mm, mm_2l, mm_lcmp, mm_i2l, mm_l2i, mm_cast8, mm_if1, mm_if2, mm_cmp, mm_swi, mm_sw, mm_pop1, mm_dup, mm_dup2, mm_geti, mm_geta, mm_puti, mm_iald, mm_bald, mm_aald, mm_iast, mm_bast, mm_alen, mm_acpy, mm_call, mm_callv, mm_recv, mm_pop, mm_find, mm_push, mm_cats, mm_cat, mm_reti, mm_retz, mm_retl, mm_reta, mm_retv, mm_set1, mm_set2, mm_kill, List.getElem?_cons_zero, List.getElem?_cons_succ, Int.reduceToNat, ↓reduceIte, Nat.reduceEqDiff, Nat.reduceDiv, Nat.reduceAdd, Nat.reduceLeDiff, Nat.zero_le, true_and, and_true, true_or, or_true, mm_b0, mm_b1, mm_lc_lt, mm_lc_le, mm_lc_gt, mm_lc_ge, mm_lc_eq, Int.not_lt, Int.not_le, Decidable.not_not, Int.sub_neg]
              exact ⟨fun _ => h111 _ (skip hsk), fun z => by first | omega | simp at z⟩
            refine hJ 73 _ _ _ (show mm_wp _ _ _ mo_M_plans_73 _ _ _ from ?_)
            simp only [mo_M_plans_73, mm_wp, mm_ldi, mm_lda, mm_ldl, mm_sti, mm_sta, mm_stl, mm_inc, mm_2i, mm_mm, mm_2l, mm_lcmp, mm_i2l, mm_l2i, mm_cast8, mm_if1, mm_if2, mm_cmp, mm_swi, mm_sw, mm_pop1, mm_dup, mm_dup2, mm_geti, mm_geta, mm_puti, mm_iald, mm_bald, mm_aald, mm_iast, mm_bast, mm_alen, mm_acpy, mm_call, mm_callv, mm_recv, mm_pop, mm_find, mm_push, mm_cats, mm_cat, mm_reti, mm_retz, mm_retl, mm_reta, mm_retv, mm_set1, mm_set2, mm_kill, List.getElem?_cons_zero, List.getElem?_cons_succ, Int.reduceToNat, ↓reduceIte, Nat.reduceEqDiff, Nat.reduceDiv, Nat.reduceAdd, Nat.reduceLeDiff, Nat.zero_le, true_and, and_true, true_or, or_true, mm_b0, mm_b1, mm_lc_lt, mm_lc_le, mm_lc_gt, mm_lc_ge, mm_lc_eq, Int.not_lt, Int.not_le, Decidable.not_not, Int.sub_neg]
            exact h74
          have h74 : ∀ x7, S m → B < w m → J 74 [some (vr 62), some (vi ord), some (vi b), some (vl B), none, some (vi f), some (vi m), x7] [vi 1] M1 := by
            intro x7 hSm hlt
            have h106 : (f < 0 ∨ w m < w f) → J 106 [some (vr 62), some (vi ord), some (vi b), some (vl B), none, some (vi f), some (vi m), some (vi 1)] [] M1 := by
              intro hc
              refine hJ 106 _ _ _ (show mm_wp _ _ _ mo_M_plans_106 _ _ _ from ?_)
              simp only [mo_M_plans_106, mm_wp, mm_ldi, mm_lda, mm_ldl, mm_sti, mm_sta, mm_stl, mm_inc, mm_2i, mm_mm, mm_2l, mm_lcmp, mm_i2l, mm_l2i, mm_cast8, mm_if1, mm_if2, mm_cmp, mm_swi, mm_sw, mm_pop1, mm_dup, mm_dup2, mm_geti, mm_geta, mm_puti, mm_iald, mm_bald, mm_aald, mm_iast, mm_bast, mm_alen, mm_acpy, mm_call, mm_callv, mm_recv, mm_pop, mm_find, mm_push, mm_cats, mm_cat, mm_reti, mm_retz, mm_retl, mm_reta, mm_retv, mm_set1, mm_set2, mm_kill, List.getElem?_cons_zero, List.getElem?_cons_succ, Int.reduceToNat, ↓reduceIte, Nat.reduceEqDiff, Nat.reduceDiv, Nat.reduceAdd, Nat.reduceLeDiff, Nat.zero_le, true_and, and_true, true_or, or_true, mm_b0, mm_b1, mm_lc_lt, mm_lc_le, mm_lc_gt, mm_lc_ge, mm_lc_eq, Int.not_lt, Int.not_le, Decidable.not_not, Int.sub_neg]
              refine h113 _ _ (Or.inr ⟨by omega, by omega, hSm, hlt, fun q hq hq1 hl2 => ?_⟩)
              by_cases c : q = m
              · subst c; omega
              · rcases hf with ⟨e, hno⟩ | ⟨f0, f1, fS, fB, fm⟩
                · exact absurd hl2 (hno q hq (by omega))
                · have := fm q hq (by omega) hl2
                  omega
            have h111b : 0 ≤ f → w f ≤ w m → slF S w B (m + 1 : Nat) f := by
              intro hf0 hle
              rcases hf with ⟨e, hno⟩ | ⟨f0, f1, fS, fB, fm⟩
              · omega
              · refine Or.inr ⟨f0, by omega, fS, fB, fun q hq hq1 hl2 => ?_⟩
                by_cases c : q = m
                · subst c; omega
                · exact fm q hq (by omega) hl2
            refine hJ 74 _ _ _ (show mm_wp _ _ _ mo_M_plans_74 _ _ _ from ?_)
            simp only [mo_M_plans_74, mm_wp, mm_ldi, mm_lda, mm_ldl, mm_sti, mm_sta, mm_stl, mm_inc, mm_2i, mm_mm, mm_2l, mm_lcmp, mm_i2l, mm_l2i, mm_cast8, mm_if1, mm_if2, mm_cmp, mm_swi, mm_sw, mm_pop1, mm_dup, mm_dup2, mm_geti, mm_geta, mm_puti, mm_iald, mm_bald, mm_aald, mm_iast, mm_bast, mm_alen, mm_acpy, mm_call, mm_callv, mm_recv, mm_pop, mm_find, mm_push, mm_cats, mm_cat, mm_reti, mm_retz, mm_retl, mm_reta, mm_retv, mm_set1, mm_set2, mm_kill, List.getElem?_cons_zero, List.getElem?_cons_succ, Int.reduceToNat, ↓reduceIte, Nat.reduceEqDiff, Nat.reduceDiv, Nat.reduceAdd, Nat.reduceLeDiff, Nat.zero_le, true_and, and_true, true_or, or_true, mm_b0, mm_b1, mm_lc_lt, mm_lc_le, mm_lc_gt, mm_lc_ge, mm_lc_eq, Int.not_lt, Int.not_le, Decidable.not_not, Int.sub_neg, c_0, c_1, c_2, l_2, c_3, c_4, l_4, c_5, l_5, c_6, l_6, c_7, l_7, c_8, c_9, l_9, c_10, l_10, c_11, l_11, c_12, l_12, c_13, c_14, l_14, c_15, l_15, c_16, l_16, c_17, l_17, c_18, c_19, l_19, c_20, l_20, c_21, l_21, c_22, l_22, c_23, c_24, l_24, c_25, l_25, c_26, c_27, c_28, l_28, c_29, c_30, l_30, c_31, c_32, l_32, c_33, l_33, c_34, l_34, c_35, l_35, c_36, l_36, c_37, l_37, c_38, l_38, c_39, l_39, c_40, c_41, l_41, c_42, c_43, c_44, l_44, c_45, c_46, l_46, c_47, c_48, l_48, c_49, l_49, c_50, l_50, c_51, l_51, c_52, l_52, c_53, l_53, c_54, l_54, c_55, l_55, c_56, l_56, c_57, l_57, c_58, l_58, c_59, l_59, c_60, l_60, c_61, l_61, c_62, c_63, l_63, c_64, l_64, c_65, l_65, c_66, l_66, c_67, l_67, c_68, l_68, c_69, l_69, c_70, l_70, c_71, l_71, c_72, l_72, c_73, l_73, c_74, l_74, c_75, l_75, c_76, l_76, t_M_weightOf, e8, hW1]
            refine ⟨fun z => by omega, fun _ => ⟨fun z => h106 (Or.inl z), fun z => ⟨hB1, by omega, by omega, o1, o2, b1, b2, hB1, by omega, by omega, o1, o2, b1, b2, fun z2 => h111 _ (h111b z z2), fun z2 => h106 (Or.inr z2)⟩⟩⟩
          refine hJ 23 _ _ _ (show mm_wp _ _ _ mo_M_plans_23 _ _ _ from ?_)
          simp only [mo_M_plans_23, mm_wp, mm_ldi, mm_lda, mm_ldl, mm_sti, mm_sta, mm_stl, mm_inc, mm_2i, mm_mm, mm_2l, mm_lcmp, mm_i2l, mm_l2i, mm_cast8, mm_if1, mm_if2, mm_cmp, mm_swi, mm_sw, mm_pop1, mm_dup, mm_dup2, mm_geti, mm_geta, mm_puti, mm_iald, mm_bald, mm_aald, mm_iast, mm_bast, mm_alen, mm_acpy, mm_call, mm_callv, mm_recv, mm_pop, mm_find, mm_push, mm_cats, mm_cat, mm_reti, mm_retz, mm_retl, mm_reta, mm_retv, mm_set1, mm_set2, mm_kill, List.getElem?_cons_zero, List.getElem?_cons_succ, Int.reduceToNat, ↓reduceIte, Nat.reduceEqDiff, Nat.reduceDiv, Nat.reduceAdd, Nat.reduceLeDiff, Nat.zero_le, true_and, and_true, true_or, or_true, mm_b0, mm_b1, mm_lc_lt, mm_lc_le, mm_lc_gt, mm_lc_ge, mm_lc_eq, Int.not_lt, Int.not_le, Decidable.not_not, Int.sub_neg, c_0, c_1, c_2, l_2, c_3, c_4, l_4, c_5, l_5, c_6, l_6, c_7, l_7, c_8, c_9, l_9, c_10, l_10, c_11, l_11, c_12, l_12, c_13, c_14, l_14, c_15, l_15, c_16, l_16, c_17, l_17, c_18, c_19, l_19, c_20, l_20, c_21, l_21, c_22, l_22, c_23, c_24, l_24, c_25, l_25, c_26, c_27, c_28, l_28, c_29, c_30, l_30, c_31, c_32, l_32, c_33, l_33, c_34, l_34, c_35, l_35, c_36, l_36, c_37, l_37, c_38, l_38, c_39, l_39, c_40, c_41, l_41, c_42, c_43, c_44, l_44, c_45, c_46, l_46, c_47, c_48, l_48, c_49, l_49, c_50, l_50, c_51, l_51, c_52, l_52, c_53, l_53, c_54, l_54, c_55, l_55, c_56, l_56, c_57, l_57, c_58, l_58, c_59, l_59, c_60, l_60, c_61, l_61, c_62, c_63, l_63, c_64, l_64, c_65, l_65, c_66, l_66, c_67, l_67, c_68, l_68, c_69, l_69, c_70, l_70, c_71, l_71, c_72, l_72, c_73, l_73, c_74, l_74, c_75, l_75, c_76, l_76, e8, e34, e67, t_M_isPlanned, t_M_weightOf, hW1]
          have hSm := hSi m
          have hkm : mk M m = M 67 (4 * m) := rfl
          rw [hkm] at hSm
          refine ⟨fun z => by omega, fun _ => ⟨fun z1 => h73 _ (Or.inl (fun c => by have := hSm.mp c; omega)), fun z1 => ⟨by omega, by omega, fun z2 => h73 _ (Or.inl (fun c => by have := hSm.mp c; omega)), fun z2 => ⟨hB1, by omega, by omega, o1, o2, b1, b2, fun z3 => h73 _ (Or.inr (by omega)), fun z3 => h74 _ (hSm.mpr ⟨by omega, by omega, z1, z2⟩) z3⟩⟩⟩⟩
      refine hJ 12 _ _ _ (show mm_wp _ _ _ mo_M_plans_12 _ _ _ from ?_)
      simp only [mo_M_plans_12, mm_wp, mm_ldi, mm_lda, mm_ldl, mm_sti, mm_sta, mm_stl, mm_inc, mm_2i, mm_mm, mm_2l, mm_lcmp, mm_i2l, mm_l2i, mm_cast8, mm_if1, mm_if2, mm_cmp, mm_swi, mm_sw, mm_pop1, mm_dup, mm_dup2, mm_geti, mm_geta, mm_puti, mm_iald, mm_bald, mm_aald, mm_iast, mm_bast, mm_alen, mm_acpy, mm_call, mm_callv, mm_recv, mm_pop, mm_find, mm_push, mm_cats, mm_cat, mm_reti, mm_retz, mm_retl, mm_reta, mm_retv, mm_set1, mm_set2, mm_kill, List.getElem?_cons_zero, List.getElem?_cons_succ, Int.reduceToNat, ↓reduceIte, Nat.reduceEqDiff, Nat.reduceDiv, Nat.reduceAdd, Nat.reduceLeDiff, Nat.zero_le, true_and, and_true, true_or, or_true, mm_b0, mm_b1, mm_lc_lt, mm_lc_le, mm_lc_gt, mm_lc_ge, mm_lc_eq, Int.not_lt, Int.not_le, Decidable.not_not, Int.sub_neg]
      exact ⟨fun z => by omega, fun _ => hin (M 62 8).toNat 0 (-1) _ (by omega) (Or.inl ⟨rfl, fun q hq hq1 => by have := (hSi q).mp hq; omega⟩)⟩
  refine hJ 0 _ _ _ (show mm_wp _ _ _ mo_M_plans_0 _ _ _ from ?_)
  simp only [mo_M_plans_0, mm_wp, mm_ldi, mm_lda, mm_ldl, mm_sti, mm_sta, mm_stl, mm_inc, mm_2i, mm_mm, mm_2l, mm_lcmp, mm_i2l, mm_l2i, mm_cast8, mm_if1, mm_if2, mm_cmp, mm_swi, mm_sw, mm_pop1, mm_dup, mm_dup2, mm_geti, mm_geta, mm_puti, mm_iald, mm_bald, mm_aald, mm_iast, mm_bast, mm_alen, mm_acpy, mm_call, mm_callv, mm_recv, mm_pop, mm_find, mm_push, mm_cats, mm_cat, mm_reti, mm_retz, mm_retl, mm_reta, mm_retv, mm_set1, mm_set2, mm_kill, List.getElem?_cons_zero, List.getElem?_cons_succ, Int.reduceToNat, ↓reduceIte, Nat.reduceEqDiff, Nat.reduceDiv, Nat.reduceAdd, Nat.reduceLeDiff, Nat.zero_le, true_and, and_true, true_or, or_true, mm_b0, mm_b1, mm_lc_lt, mm_lc_le, mm_lc_gt, mm_lc_ge, mm_lc_eq, Int.not_lt, Int.not_le, Decidable.not_not, Int.sub_neg, c_0, c_1, c_2, l_2, c_3, c_4, l_4, c_5, l_5, c_6, l_6, c_7, l_7, c_8, c_9, l_9, c_10, l_10, c_11, l_11, c_12, l_12, c_13, c_14, l_14, c_15, l_15, c_16, l_16, c_17, l_17, c_18, c_19, l_19, c_20, l_20, c_21, l_21, c_22, l_22, c_23, c_24, l_24, c_25, l_25, c_26, c_27, c_28, l_28, c_29, c_30, l_30, c_31, c_32, l_32, c_33, l_33, c_34, l_34, c_35, l_35, c_36, l_36, c_37, l_37, c_38, l_38, c_39, l_39, c_40, c_41, l_41, c_42, c_43, c_44, l_44, c_45, c_46, l_46, c_47, c_48, l_48, c_49, l_49, c_50, l_50, c_51, l_51, c_52, l_52, c_53, l_53, c_54, l_54, c_55, l_55, c_56, l_56, c_57, l_57, c_58, l_58, c_59, l_59, c_60, l_60, c_61, l_61, c_62, c_63, l_63, c_64, l_64, c_65, l_65, c_66, l_66, c_67, l_67, c_68, l_68, c_69, l_69, c_70, l_70, c_71, l_71, c_72, l_72, c_73, l_73, c_74, l_74, c_75, l_75, c_76, l_76]
  refine hl (M 62 8).toNat 0 0 (-1) none none _ (by omega) ?_ ⟨fun o' c1 c2 => by rw [mm_up_o _ _ c1], fun j hj => by rw [mm_up_i _ hj]⟩ (sl_0 hw1) (by rw [mm_up_s]; rfl) (by omega) (by omega)
  have := slC_b S w (M 62 8).toNat (-1)
  omega
