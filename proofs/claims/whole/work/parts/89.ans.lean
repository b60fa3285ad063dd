/-! RangePlanner.answer: it answers, or it throws -/
abbrev RNS : String := "java/util/NoSuchElementException"
abbrev ex_names : List String := ["java/lang/RuntimeException", "java/lang/Exception"]
abbrev ex_rx : ByteArray := prog_28_method_4_code
def ex_w : List Cond := ex_at RX10 185 RNS 13 ex_rx ex_names
def ex_k (w : Cond) : Nat := match w with
  | .declares _ => 1
  | .castable _ _ => 2
  | _ => 99
theorem ex_wk : ∀ w ∈ ex_w, goodWord w = true ∨ ex_k w = 1 ∨ ex_k w = 2 := by decide +kernel
theorem ex_wt : ∀ w ∈ ex_w, w ∈ lw_tbl := by decide +kernel
theorem ex_wo : ∀ w ∈ Cond.classLink RX10 181 RNS :: Cond.initialized RNS :: ex_w, vx_ot w = true := by decide +kernel
theorem ex_wc : Cond.castable RNS RNS ∈ ex_w := by decide +kernel
theorem an_k : Cond.classLink RX10 181 RNS ∈ mm_words := mm_in4 (List.mem_of_getElem? (i := 230) (by decide +kernel)) (by decide +kernel)
theorem an_i : Cond.initialized RNS ∈ mm_words := mm_in1 (List.mem_of_getElem? (i := 22) (by decide +kernel)) (by decide +kernel)
theorem an_lk : Cond.classLink RL 13 RNS ∈ mm_words := mm_in4 (List.mem_of_getElem? (i := 225) (by decide +kernel)) (by decide +kernel)
theorem an_l7 : Cond.methodLink RL 7 yX10_answer ∈ mm_words := mm_in4 (List.mem_of_getElem? (i := 226) (by decide +kernel)) (by decide +kernel)
theorem an_l61 : Cond.methodLink RL 61 yL_answer ∈ mm_words := mm_in4 (List.mem_of_getElem? (i := 222) (by decide +kernel)) (by decide +kernel)
theorem an_st : Cond.static yL_answer ∈ mm_words := mm_in4 (List.mem_of_getElem? (i := 223) (by decide +kernel)) (by decide +kernel)
theorem an_ini : Cond.initialized RL ∈ mm_words := mm_in1 (List.mem_of_getElem? (i := 0) (by decide +kernel)) (by decide +kernel)
theorem an_cw : Cond.codeWith yL_answer cL_answer 4 (some .int) [(0, 8, 11, 13)] ∈ mm_words := mm_in4 (List.mem_of_getElem? (i := 224) (by decide +kernel)) (by decide +kernel)
def ex_X (A : Nat → Prop) (sa : Nat) (U : State) : Prop := (∀ w ∈ ex_w, ex_k w = 1 ∨ ex_k w = 2 → va_Nw w U) ∧ vk_R RX10 183 "no such question" sa U ∧ vx_Zq Bundle.tN "UNASSIGNED_STACK" Bundle.steD A U U.heap ∧ vx_Zq Bundle.tN "SUPPRESSED_SENTINEL" Bundle.listD A U U.heap
theorem ex_X.narrow {A B : Nat → Prop} {sa : Nat} {U : State} (h : ex_X A sa U) (hAB : ∀ q, B q → A q) : ex_X B sa U := ⟨h.1, h.2.1, h.2.2.1.narrow hAB, h.2.2.2.narrow hAB⟩
theorem ex_X.warm {A : Nat → Prop} {sa : Nat} {s U : State} (hW : s.WarmedH U.vm) (hh : ∀ q : Nat, q < s.heap.size → ¬ A q → U.heap[q]? = s.heap[q]?) (h : ex_X A sa s) : ex_X A sa U := by
  refine ⟨fun w hw hk => ?_, vk_R.warm hW h.2.1, vx_Zq.moved hW.alike (h.2.2.1.kept hh), vx_Zq.moved hW.alike (h.2.2.2.kept hh)⟩
  have h1 := h.1 w hw hk
  cases w <;> first | exact va_Nw.warmD hW h1 | exact va_Nw.warmC hW h1 | (exfalso; rcases hk with hk | hk <;> exact absurd hk (by decide)) | (exfalso; rcases hk with hk | hk <;> simp [ex_k] at hk)
theorem ex_X.same {A : Nat → Prop} {sa : Nat} {s U : State} (hv : U.vm = s.vm) (hh : U.heap = s.heap) (h : ex_X A sa s) : ex_X A sa U := ex_X.warm (by rw [hv]; exact State.WarmedH.refl s) (fun q _ _ => by rw [hh]) h
/-- what the claim's start gives of texts and statics -/
def xX (ad adV : Nat → Nat) (sa : Nat) (U : State) : Prop := js_X (mm_A ad) (fun j => ad (1000 + j)) adV U ∧ ex_X (mm_A ad) sa U
theorem xX_ok (ad adV : Nat → Nat) (sa : Nat) : mm_XOk ad (xX ad adV sa) := ⟨fun s U hW hh h => ⟨js_X.same hW.alike hh h.1, ex_X.warm hW hh h.2⟩, fun u U hv hh h => ⟨js_X.same (by rw [hv]; exact Vm.Alike.refl _) (fun q _ _ => by rw [hh]) h.1, ex_X.same hv hh h.2⟩⟩
def mo_Pan_0 : List mmO := [(0, .aload 0, 0, 0), (1, .getstatic 26, 10, 18), (4, .iload 1, 0, 0), (5, .invokevirtual 146, 203, 2), (8, .ifCond .ne 0, 21, 0), (11, .nop, 0, 0)]
def mo_Pan_21 : List mmO := [(21, .aload 0, 0, 0), (22, .iload 1, 0, 0), (23, .invokevirtual 188, 1036, 2), (26, .lreturn, 0, 0)]
def mb_Pan : List (Nat × List mmO) := [(0, mo_Pan_0), (21, mo_Pan_21)]
set_option maxRecDepth 100000 in
theorem ck_Pan : mm_chkB mr_1010 mb_Pan = true := by decide +kernel
def t_P_answer : mmT := fun as M Q => match as with
  | [.inr (.inr o), .inl q] => o = 0 ∧ 0 ≤ q ∧ q < M 18 4 ∧ t_P_answerOf [vr 0, vi q] M Q
  | _ => False
set_option maxHeartbeats 4000000 in
set_option maxRecDepth 100000 in
theorem p_P_answer : ∀ as M Q, (∀ v ∈ as, mm_vin v) → mm_mem M → t_P_answer as M Q → (mm_ent as).length ≤ 2 ∧ mm_ok mb_Pan [(203, t_Q_has), (1036, t_P_answerOf)] (mm_entry 2 as) M Q := by
  intro as M Q hin hM h
  unfold t_P_answer at h
  split at h
  rotate_left
  · exact h.elim
  rename_i o q
  refine ⟨by simp [mm_ent], (show mm_ok mb_Pan [(203, t_Q_has), (1036, t_P_answerOf)] [some (vr o), some (vi q)] M Q from ?_)⟩
  intro J hJ
  obtain ⟨rfl, h0, h1, h2⟩ := h
  unfold t_P_answerOf at h2
  simp only [true_and] at h2
  refine hJ 0 _ _ _ (show mm_wp _ _ _ mo_Pan_0 _ _ _ from ?_)
  simp only [mo_Pan_0, mm_wp, mm_ldi, mm_lda, mm_ldl, mm_sti, mm_sta, mm_stl, mm_inc, mm_2i, mm_mm, mm_2l, mm_lcmp, mm_i2l, mm_l2i, mm_cast8, mm_if1, mm_if2, mm_cmp, mm_swi, mm_sw, mm_pop1, mm_dup, mm_dup2, mm_geti, mm_geta, mm_puti, mm_iald, mm_bald, mm_aald, mm_iast, mm_bast, mm_alen, mm_acpy, mm_call, mm_callv, mm_recv, mm_pop, mm_find, mm_push, mm_cats, mm_cat, mm_reti, mm_retz, mm_retl, mm_reta, mm_retv, mm_set1, mm_set2, mm_kill, List.getElem?_cons_zero, List.getElem?_cons_succ, Int.reduceToNat, ↓reduceIte, Nat.reduceEqDiff, Nat.reduceDiv, Nat.reduceAdd, Nat.reduceLeDiff, Nat.zero_le, true_and, and_true, true_or, or_true, mm_b0, mm_b1, mm_lc_lt, mm_lc_le, mm_lc_gt, mm_lc_ge, mm_lc_eq, Int.not_lt, Int.not_le, Decidable.not_not, Int.sub_neg, t_Q_has, c_0, c_1, c_2, l_2, c_3, c_4, l_4, c_5, l_5, c_6, l_6, c_7, l_7, c_8, c_9, l_9, c_10, l_10, c_11, l_11, c_12, l_12, c_13, c_14, l_14, c_15, l_15, c_16, l_16, c_17, l_17, c_18, c_19, l_19, c_20, l_20, c_21, l_21, c_22, l_22, c_23, c_24, l_24, c_25, l_25, c_26, c_27, c_28, l_28, c_29, c_30, l_30, c_31, c_32, l_32, c_33, l_33, c_34, l_34, c_35, l_35, c_36, l_36, c_37, l_37, c_38, l_38, c_39, l_39, c_40, c_41, l_41, c_42, c_43, c_44, l_44, c_45, c_46, l_46, c_47, c_48, l_48, c_49, l_49, c_50, l_50, c_51, l_51, c_52, l_52, c_53, l_53, c_54, l_54, c_55, l_55, c_56, l_56, c_57, l_57, c_58, l_58, c_59, l_59, c_60, l_60, c_61, l_61, c_62, c_63, l_63, c_64, l_64, c_65, l_65, c_66, l_66, c_67, l_67, c_68, l_68, c_69, l_69, c_70, l_70, c_71, l_71, c_72, l_72, c_73, l_73, c_74, l_74, c_75, l_75, c_76, l_76]
  refine ⟨by unfold isQ; decide, fun _ => ?_, fun h => absurd ⟨h0, h1⟩ h⟩
  refine hJ 21 _ _ _ (show mm_wp _ _ _ mo_Pan_21 _ _ _ from ?_)
  simp only [mo_Pan_21, mm_wp, mm_ldi, mm_lda, mm_ldl, mm_sti, mm_sta, mm_stl, mm_inc, mm_2i, mm_mm, mm_2l, mm_lcmp, mm_i2l, mm_l2i, mm_cast8, mm_if1, mm_if2, mm_cmp, mm_swi, mm_sw, mm_pop1, mm_dup, mm_dup2, mm_geti, mm_geta, mm_puti, mm_iald, mm_bald, mm_aald, mm_iast, mm_bast, mm_alen, mm_acpy, mm_call, mm_callv, mm_recv, mm_pop, mm_find, mm_push, mm_cats, mm_cat, mm_reti, mm_retz, mm_retl, mm_reta, mm_retv, mm_set1, mm_set2, mm_kill, List.getElem?_cons_zero, List.getElem?_cons_succ, Int.reduceToNat, ↓reduceIte, Nat.reduceEqDiff, Nat.reduceDiv, Nat.reduceAdd, Nat.reduceLeDiff, Nat.zero_le, true_and, and_true, true_or, or_true, mm_b0, mm_b1, mm_lc_lt, mm_lc_le, mm_lc_gt, mm_lc_ge, mm_lc_eq, Int.not_lt, Int.not_le, Decidable.not_not, Int.sub_neg, t_P_answerOf, c_0, c_1, c_2, l_2, c_3, c_4, l_4, c_5, l_5, c_6, l_6, c_7, l_7, c_8, c_9, l_9, c_10, l_10, c_11, l_11, c_12, l_12, c_13, c_14, l_14, c_15, l_15, c_16, l_16, c_17, l_17, c_18, c_19, l_19, c_20, l_20, c_21, l_21, c_22, l_22, c_23, c_24, l_24, c_25, l_25, c_26, c_27, c_28, l_28, c_29, c_30, l_30, c_31, c_32, l_32, c_33, l_33, c_34, l_34, c_35, l_35, c_36, l_36, c_37, l_37, c_38, l_38, c_39, l_39, c_40, c_41, l_41, c_42, c_43, c_44, l_44, c_45, c_46, l_46, c_47, c_48, l_48, c_49, l_49, c_50, l_50, c_51, l_51, c_52, l_52, c_53, l_53, c_54, l_54, c_55, l_55, c_56, l_56, c_57, l_57, c_58, l_58, c_59, l_59, c_60, l_60, c_61, l_61, c_62, c_63, l_63, c_64, l_64, c_65, l_65, c_66, l_66, c_67, l_67, c_68, l_68, c_69, l_69, c_70, l_70, c_71, l_71, c_72, l_72, c_73, l_73, c_74, l_74, c_75, l_75, c_76, l_76]
  exact h2
theorem s_P_answer {l : Launch} {D : va_G} {ad : Nat → Nat} {G : ClassId × ClassId × ClassId} {X : State → Prop} (hX : mm_XOk ad X) (hinj : ∀ i j, i < 77 → j < 77 → ad i = ad j → i = j) (hw : mm_snd l D ad G X 313 t_Rd_isWord) : mm_snd l D ad G X 1010 t_P_answer := mm_sound hX hinj (x := 1010) (r := mr_1010) rfl ck_Pan (T := [(203, t_Q_has), (1036, t_P_answerOf)]) (List.forall_mem_cons.mpr ⟨s_Q_has hX hinj hw, List.forall_mem_cons.mpr ⟨s_P_answerOf hX hinj hw, fun _ h => absurd h List.not_mem_nil⟩⟩) p_P_answer
