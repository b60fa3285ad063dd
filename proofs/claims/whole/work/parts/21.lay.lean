/-! laying the plan, going along it -/
theorem isKey_cong {S S' : Int → Prop} {key K K' : Int → Int} {n : Int} (h : isKey S key K n) (hS : ∀ q, S q ↔ S' q) (hK : ∀ i, 0 ≤ i → i < n → K i = K' i) : isKey S' key K' n := by
  refine ⟨isOrd_cong h.1 hS (fun _ _ => rfl) (fun i i0 i1 => by simp only [hK i i0 i1]), fun i i0 i1 => ?_⟩
  rw [← hK i i0 i1]
  exact h.2 i i0 i1
theorem pA_b {ord b f l t : Int} (hb : 1 ≤ b) (f0 : 0 ≤ f) (f1 : f < 60) (l0 : 0 ≤ l) (l1 : l < 60) (t0 : 0 ≤ t) (t1 : t ≤ 32) : 0 ≤ pA ord b f l t ∧ pA ord b f l t < 262144 := by
  obtain ⟨x1, x2, x3, x4⟩ := dB (b := b) f0 (by omega) hb
  obtain ⟨y1, y2, y3, y4⟩ := dB (b := b) l0 (by omega) hb
  have c1 := cv_b (f / b) (l / b)
  have u1 := tb_b (o := f / b) y1 y2
  have u2 := tb_b (o := l / b) t0 (by omega)
  unfold pA
  split
  · omega
  · split <;> omega
theorem key_mod {a q : Int} (ha : 0 ≤ a) (h0 : 0 ≤ q) (h1 : q < 32) : (a * 32 + q).tmod 32 = q := by
  rw [Int.tmod_eq_emod_of_nonneg (by omega)]
  omega
def isPl (o : Nat) : Prop := mm_cls o = 1 ∧ isSrt (o + 1) ∧ isW (o + 3)
/-- the questions at o that a plan has -/
def sPl (M : mmM) (o : Nat) (wo q : Int) : Prop := 0 ≤ q ∧ q < M o 4 ∧ ¬ q = wo ∧ ¬ M (o + 1) q = 2 ∧ ¬ M (o + 1) q = 3 ∧ ¬ M (o + 1) q = 6
def kyf (M : mmM) (o : Nat) (ord b q : Int) : Int := pA ord b (M (o + 2) q) (M (o + 3) q) (M (o + 4) q) * 32 + q
def t_Plan_lay : mmT := fun as M Q => match as with
  | [.inr (.inr o), .inr (.inr qo), .inl ord, .inl b, .inl wo] => isPl o ∧ isQ qo ∧ qB M qo ∧ qo + 4 < o ∧ 0 ≤ ord ∧ ord ≤ 2 ∧ 1 ≤ b ∧ b ≤ 60 ∧ ∀ M', (∀ o', o' ≠ o + 1 → o' ≠ o + 2 → M' o' = M o') → M' (o + 1) 1 ≤ M qo 4 → isKey (sPl M qo wo) (kyf M qo ord b) (M' (o + 2)) (M' (o + 1) 1) → Q none M'
  | _ => False
set_option maxHeartbeats 4000000 in
set_option maxRecDepth 100000 in
theorem p_Plan_lay : ∀ as M Q, (∀ v ∈ as, mm_vin v) → mm_mem M → t_Plan_lay as M Q → (mm_ent as).length ≤ 6 ∧ mm_ok mb_Plan_lay [(206, t_Q_isPlanned), (102, t_Plan_keyOf), (502, t_Srt_insert)] (mm_entry 6 as) M Q := by
  intro as M Q hin hM h
  unfold t_Plan_lay at h
  split at h
  rotate_left
  · exact h.elim
  rename_i o qo ord b wo
  have hR_ord : mm_R ord := hin (vi ord) (by simp)
  have hR_b : mm_R b := hin (vi b) (by simp)
  have hR_wo : mm_R wo := hin (vi wo) (by simp)
  refine ⟨by simp [mm_ent], (show mm_ok mb_Plan_lay [(206, t_Q_isPlanned), (102, t_Plan_keyOf), (502, t_Srt_insert)] [some (vr o), some (vr qo), some (vi ord), some (vi b), some (vi wo), none] M Q from ?_)⟩
  intro J hJ
  obtain ⟨⟨po, so, wo'⟩, hq, hB, hd, h3, h4, h5, h6, h⟩ := h
  obtain ⟨so0, so1, so2⟩ := id so
  have q0 : mm_cls qo = 2 := hq.1
  have hB2 := hB.2.1
  have hl : ∀ (d k : Nat) (M1 : mmM), (k : Int) + d = M qo 4 → (∀ o', o' ≠ o + 1 → o' ≠ o + 2 → M1 o' = M o') → M1 (o + 1) 1 ≤ k → isKey (fun z => sPl M qo wo z ∧ z < k) (kyf M qo ord b) (M1 (o + 2)) (M1 (o + 1) 1) → J 11 [some (vr o), some (vr qo), some (vi ord), some (vi b), some (vi wo), some (vi k)] [] M1 := by
    intro d
    induction d with
    | zero =>
      intro k M1 hk a c e
      have e0 : M1 qo = M qo := a qo (by omega) (by omega)
      have h57 : J 57 [some (vr o), some (vr qo), some (vi ord), some (vi b), some (vi wo), some (vi k)] [] M1 := by
        refine hJ 57 _ _ _ (show mm_wp _ _ _ mo_Plan_lay_57 _ _ _ from ?_)
        simp only [mo_Plan_lay_57, mm_wp, mm_ldi, mm_lda, mm_ldl, mm_sti, mm_sta, mm_stl, mm_inc, mm_2i, mm_mm, mm_2l, mm_lcmp, mm_i2l, mm_l2i, mm_cast8, mm_if1, mm_if2, mm_cmp, mm_swi, mm_sw, mm_pop1, mm_dup, mm_dup2, mm_geti, mm_geta, mm_puti, mm_iald, mm_bald, mm_aald, mm_iast, mm_bast, mm_alen, mm_acpy, mm_call, mm_callv, mm_recv, mm_pop, mm_find, mm_push, mm_cats, mm_cat, mm_reti, mm_retz, mm_retl, mm_reta, mm_retv, mm_set1, mm_set2, mm_kill, List.getElem?_cons_zero, List.getElem?_cons_succ, Int.reduceToNat, ↓reduceIte, Nat.reduceEqDiff, Nat.reduceDiv, Nat.reduceAdd, Nat.reduceLeDiff, Nat.zero_le, true_and, and_true, true_or, or_true, mm_b0, mm_b1, mm_lc_lt, mm_lc_le, mm_lc_gt, mm_lc_ge, mm_lc_eq, Int.not_lt, Int.not_le, Decidable.not_not, Int.sub_neg]
        exact h M1 a (by omega) (isKey_cong e (fun q => ⟨fun z => z.1, fun z => ⟨z, by have := z.2.1; omega⟩⟩) (fun _ _ _ => rfl))
      refine hJ 11 _ _ _ (show mm_wp _ _ _ mo_Plan_lay_11 _ _ _ from ?_)
      simp only [mo_Plan_lay_11, mm_wp, mm_ldi, mm_lda, mm_ldl, mm_sti, mm_sta, mm_stl, mm_inc, mm_2i, mm_mm, mm_2l, mm_lcmp, mm_i2l, mm_l2i, mm_cast8, mm_if1, mm_if2, mm_cmp, mm_swi, mm_sw, mm_pop1, mm_dup, mm_dup2, mm_geti, mm_geta, mm_puti, mm_iald, mm_bald, mm_aald, mm_iast, mm_bast, mm_alen, mm_acpy, mm_call, mm_callv, mm_recv, mm_pop, mm_find, mm_push, mm_cats, mm_cat, mm_reti, mm_retz, mm_retl, mm_reta, mm_retv, mm_set1, mm_set2, mm_kill, List.getElem?_cons_zero, List.getElem?_cons_succ, Int.reduceToNat, ↓reduceIte, Nat.reduceEqDiff, Nat.reduceDiv, Nat.reduceAdd, Nat.reduceLeDiff, Nat.zero_le, true_and, and_true, true_or, or_true, mm_b0, mm_b1, mm_lc_lt, mm_lc_le, mm_lc_gt, mm_lc_ge, mm_lc_eq, Int.not_lt, Int.not_le, Decidable.not_not, Int.sub_neg, q0, e0]
      exact ⟨fun _ => h57, fun z => by omega⟩
    | succ d ih =>
      intro k M1 hk a c e
      have e0 : M1 qo = M qo := a qo (by omega) (by omega)
      have e1 : M1 (qo + 1) = M (qo + 1) := a _ (by omega) (by omega)
      have e2 : M1 (qo + 2) = M (qo + 2) := a _ (by omega) (by omega)
      have e3 : M1 (qo + 3) = M (qo + 3) := a _ (by omega) (by omega)
      have e4 : M1 (qo + 4) = M (qo + 4) := a _ (by omega) (by omega)
      have n0 := e.1.1
      have hqk := hB.2.2 k (by omega) (by omega)
      have h51 : ∀ M2 : mmM, (∀ o', o' ≠ o + 1 → o' ≠ o + 2 → M2 o' = M o') → M2 (o + 1) 1 ≤ ((k + 1 : Nat) : Int) → isKey (fun z => sPl M qo wo z ∧ z < ((k + 1 : Nat) : Int)) (kyf M qo ord b) (M2 (o + 2)) (M2 (o + 1) 1) → J 51 [some (vr o), some (vr qo), some (vi ord), some (vi b), some (vi wo), some (vi k)] [] M2 := by
        intro M2 a' c' e'
        refine hJ 51 _ _ _ (show mm_wp _ _ _ mo_Plan_lay_51 _ _ _ from ?_)
        simp only [mo_Plan_lay_51, mm_wp, mm_ldi, mm_lda, mm_ldl, mm_sti, mm_sta, mm_stl, mm_inc, mm_2i, mm_mm, mm_2l, mm_lcmp, mm_i2l, mm_l2i, mm_cast8, mm_if1, mm_if2, mm_cmp, mm_swi, mm_sw, mm_pop1, mm_dup, mm_dup2, mm_geti, mm_geta, mm_puti, mm_iald, mm_bald, mm_aald, mm_iast, mm_bast, mm_alen, mm_acpy, mm_call, mm_callv, mm_recv, mm_pop, mm_find, mm_push, mm_cats, mm_cat, mm_reti, mm_retz, mm_retl, mm_reta, mm_retv, mm_set1, mm_set2, mm_kill, List.getElem?_cons_zero, List.getElem?_cons_succ, Int.reduceToNat, ↓reduceIte, Nat.reduceEqDiff, Nat.reduceDiv, Nat.reduceAdd, Nat.reduceLeDiff, Nat.zero_le, true_and, and_true, true_or, or_true, mm_b0, mm_b1, mm_lc_lt, mm_lc_le, mm_lc_gt, mm_lc_ge, mm_lc_eq, Int.not_lt, Int.not_le, Decidable.not_not, Int.sub_neg]
        exact ⟨by omega, ih (k + 1) M2 (by omega) a' c' e'⟩
      have hskip : ¬ sPl M qo wo k → J 51 [some (vr o), some (vr qo), some (vi ord), some (vi b), some (vi wo), some (vi k)] [] M1 := by
        intro hn
        refine h51 M1 a (by omega) (isKey_cong e (fun q => ⟨fun z => ⟨z.1, by omega⟩, fun z => ⟨z.1, ?_⟩⟩) (fun _ _ _ => rfl))
        have : q ≠ (k : Int) := fun w => hn (by rw [← w]; exact z.1)
        omega
      have hqB1 : qB M1 qo := by unfold qB; rw [e0, e2, e3, e4]; exact hB
      refine hJ 11 _ _ _ (show mm_wp _ _ _ mo_Plan_lay_11 _ _ _ from ?_)
      simp only [mo_Plan_lay_11, mm_wp, mm_ldi, mm_lda, mm_ldl, mm_sti, mm_sta, mm_stl, mm_inc, mm_2i, mm_mm, mm_2l, mm_lcmp, mm_i2l, mm_l2i, mm_cast8, mm_if1, mm_if2, mm_cmp, mm_swi, mm_sw, mm_pop1, mm_dup, mm_dup2, mm_geti, mm_geta, mm_puti, mm_iald, mm_bald, mm_aald, mm_iast, mm_bast, mm_alen, mm_acpy, mm_call, mm_callv, mm_recv, mm_pop, mm_find, mm_push, mm_cats, mm_cat, mm_reti, mm_retz, mm_retl, mm_reta, mm_retv, mm_set1, mm_set2, mm_kill, List.getElem?_cons_zero, List.getElem?_cons_succ, Int.reduceToNat, ↓reduceIte, Nat.reduceEqDiff, Nat.reduceDiv, Nat.reduceAdd, Nat.reduceLeDiff, Nat.zero_le, true_and, and_true, true_or, or_true, mm_b0, mm_b1, mm_lc_lt, mm_lc_le, mm_lc_gt, mm_lc_ge, mm_lc_eq, Int.not_lt, Int.not_le, Decidable.not_not, Int.sub_neg, q0, e0, e1, e2, e3, e4, t_Q_isPlanned, t_Plan_keyOf, t_Srt_insert, po, so0]
      refine ⟨fun z => by omega, fun _ => ⟨fun z => hskip (fun w => w.2.2.1 z), fun hz => ⟨hq, by omega, by omega, fun hn => hskip (fun w => hn w.2.2.2), fun hp => ⟨hq, hqB1, by omega, by omega, h3, h4, h5, h6, so, n0, by omega, fun M2 p hi hs hf => ?_⟩⟩⟩⟩
      have hpa := pA_b (ord := ord) (b := b) h5 hqk.1 hqk.2.1 hqk.2.2.1 hqk.2.2.2.1 hqk.2.2.2.2.1 hqk.2.2.2.2.2
      have hsk : sPl M qo wo k := ⟨by omega, by omega, hz, hp⟩
      have hins := isKey_ins (q := (k : Int)) e (fun w => by have := w.2; omega) (key_mod hpa.1 (by omega) (by omega)) hi
      refine h51 M2 (fun o' c1 c2 => by rw [hf o' c1 c2, a o' c1 c2]) (by omega) ?_
      rw [hs]
      refine isKey_cong hins (fun q => ⟨fun z => ?_, fun z => ?_⟩) (fun _ _ _ => rfl)
      · rcases z with z | z
        · exact ⟨z.1, by have := z.2; omega⟩
        · rw [z]; exact ⟨hsk, by omega⟩
      · by_cases hc : q = (k : Int)
        · exact Or.inr hc
        · exact Or.inl ⟨z.1, by have := z.2; omega⟩
  have e9 : mm_up M (o + 1) 1 0 (o + 1) 1 = 0 := mm_up_s _ _ _ _
  refine hJ 0 _ _ _ (show mm_wp _ _ _ mo_Plan_lay_0 _ _ _ from ?_)
  simp only [mo_Plan_lay_0, mm_wp, mm_ldi, mm_lda, mm_ldl, mm_sti, mm_sta, mm_stl, mm_inc, mm_2i, mm_mm, mm_2l, mm_lcmp, mm_i2l, mm_l2i, mm_cast8, mm_if1, mm_if2, mm_cmp, mm_swi, mm_sw, mm_pop1, mm_dup, mm_dup2, mm_geti, mm_geta, mm_puti, mm_iald, mm_bald, mm_aald, mm_iast, mm_bast, mm_alen, mm_acpy, mm_call, mm_callv, mm_recv, mm_pop, mm_find, mm_push, mm_cats, mm_cat, mm_reti, mm_retz, mm_retl, mm_reta, mm_retv, mm_set1, mm_set2, mm_kill, List.getElem?_cons_zero, List.getElem?_cons_succ, Int.reduceToNat, ↓reduceIte, Nat.reduceEqDiff, Nat.reduceDiv, Nat.reduceAdd, Nat.reduceLeDiff, Nat.zero_le, true_and, and_true, true_or, or_true, mm_b0, mm_b1, mm_lc_lt, mm_lc_le, mm_lc_gt, mm_lc_ge, mm_lc_eq, Int.not_lt, Int.not_le, Decidable.not_not, Int.sub_neg, po, so0]
  have := hl (M qo 4).toNat 0 (mm_up M (o + 1) 1 0) (by have := hB.1; omega) (fun o' c1 _ => mm_up_o _ _ c1) (by rw [e9]; omega) (by rw [e9]; exact isKey_0 (fun q z => by have := z.1.1; have := z.2; omega))
  exact this
