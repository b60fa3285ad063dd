/-! Reader.isWord: the blocks between the calls on the text, and the calls -/
def mo_Wd_0 : List mmO := [(0, .aload 0, 0, 0), (1, .getfield 59, 3, 5), (4, .iconst 1, 0, 0), (5, .if_icmp .ne 0, 24, 0), (8, .aload 0, 0, 0), (9, .getfield 46, 3, 7), (12, .aload 0, 0, 0), (13, .getfield 145, 3, 6), (16, .isub, 0, 0), (17, .aload 1, 0, 0), (18, .nop, 0, 0)]
def mo_Wd_21 : List mmO := [(21, .if_icmp .eq 0, 26, 0), (24, .nop, 0, 0)]
def mo_Wd_24 : List mmO := [(24, .iconst 0, 0, 0), (25, .freturn, 0, 0)]
def mo_Wd_26 : List mmO := [(26, .iconst 0, 0, 0), (27, .istore 2, 0, 0), (28, .nop, 0, 0)]
def mo_Wd_28 : List mmO := [(28, .iload 2, 0, 0), (29, .aload 1, 0, 0), (30, .nop, 0, 0)]
def mo_Wd_33 : List mmO := [(33, .if_icmp .ge 0, 62, 0), (36, .aload 0, 0, 0), (37, .aload 0, 0, 0), (38, .getfield 145, 3, 6), (41, .iload 2, 0, 0), (42, .iadd, 0, 0), (43, .invokevirtual 153, 317, 2), (46, .aload 1, 0, 0), (47, .iload 2, 0, 0), (48, .nop, 0, 0)]
def mo_Wd_51 : List mmO := [(51, .if_icmp .eq 0, 56, 0), (54, .iconst 0, 0, 0), (55, .freturn, 0, 0)]
def mo_Wd_56 : List mmO := [(56, .iinc 2 1, 0, 0), (59, .goto 0, 28, 0)]
def mo_Wd_62 : List mmO := [(62, .iconst 1, 0, 0), (63, .freturn, 0, 0)]
def mb_Wd : List (Nat × List mmO) := [(0, mo_Wd_0), (21, mo_Wd_21), (24, mo_Wd_24), (26, mo_Wd_26), (28, mo_Wd_28), (33, mo_Wd_33), (51, mo_Wd_51), (56, mo_Wd_56), (62, mo_Wd_62)]
set_option maxRecDepth 100000 in
theorem ck_Wd : mm_chkB mr_313 mb_Wd = true := by decide +kernel
theorem jw_len : ∀ i, i < 12 → (wdL i).length = js_len.getD i 0 ∧ Int32.ofNat (js_len.getD i 0) = Int32.ofInt ((wdL i).length : Int) ∧ (wdL i).length ≤ 7 ∧ ∀ k, k < (wdL i).length → Int32.ofInt (k : Int) = nI k ∧ (js_byt.getD i []).getD k 0 = Int32.ofInt ((wdL i).getD k 0) ∧ 0 ≤ (wdL i).getD k 0 ∧ (wdL i).getD k 0 ≤ 255 := by decide +kernel
set_option maxHeartbeats 4000000 in
set_option maxRecDepth 100000 in
theorem jw_ok {j : Nat} (hj : j < 12) {M : mmM} (hM : mm_mem M) (hr : rdM M) {Q : mmP} (hq : Q (some (vi (mm_b (wdB M j = true)))) M) {J : mmJ} (hJ : ∀ (b : Nat) (L : mmL) (S : mmS) (M : mmM), mm_wp [(317, t_Rd_byteAt)] J Q (mm_lk mb_Wd b) L S M → J b L S M)
    (hA : ∀ (pc : Nat) (L : mmL) (S : mmS) (M : mmM), pc = 18 ∨ pc = 30 → mm_cats S ≤ 8 → J (pc + 3) L (vi ((wdL j).length : Int) :: S) M → J pc L (vr (1000 + j) :: S) M)
    (hC : ∀ (L : mmL) (S : mmS) (M : mmM) (k : Nat), k < (wdL j).length → mm_cats S ≤ 8 → J 51 L (vi ((wdL j).getD k 0) :: S) M → J 48 L (vi (k : Int) :: vr (1000 + j) :: S) M) : J 0 [some (vr 1), some (vr (1000 + j)), none] [] M := by
  obtain ⟨hl1, hl2, hl3, hl4⟩ := jw_len j hj
  have hM5 := hM 1 5
  have hM6 := hM 1 6
  have hM7 := hM 1 7
  obtain ⟨hi, h60, h67⟩ := hr
  have hfalse : ∀ (L : mmL), wdB M j = false → J 24 L [] M := by
    intro L hb
    rw [hb] at hq
    refine hJ 24 _ _ _ (show mm_wp _ _ _ mo_Wd_24 _ _ _ from ?_)
    simp only [mo_Wd_24, mm_wp, mm_ldi, mm_lda, mm_ldl, mm_sti, mm_sta, mm_stl, mm_inc, mm_2i, mm_mm, mm_2l, mm_lcmp, mm_i2l, mm_l2i, mm_cast8, mm_if1, mm_if2, mm_cmp, mm_swi, mm_sw, mm_pop1, mm_dup, mm_dup2, mm_geti, mm_geta, mm_puti, mm_iald, mm_bald, mm_aald, mm_iast, mm_bast, mm_alen, mm_acpy, mm_call, mm_callv, mm_recv, mm_pop, mm_find, mm_push, mm_cats, mm_cat, mm_reti, mm_retz, mm_retl, mm_reta, mm_retv, mm_set1, mm_set2, mm_kill, List.getElem?_cons_zero, List.getElem?_cons_succ, Int.reduceToNat, ↓reduceIte, Nat.reduceEqDiff, Nat.reduceDiv, Nat.reduceAdd, Nat.reduceLeDiff, Nat.zero_le, true_and, and_true, true_or, or_true, mm_b0, mm_b1, mm_lc_lt, mm_lc_le, mm_lc_gt, mm_lc_ge, mm_lc_eq, Int.not_lt, Int.not_le, Decidable.not_not, Int.sub_neg]
    exact hq
  have hloop : ∀ (n k : Nat), (wdL j).length - k = n → k ≤ (wdL j).length → M 1 5 = 1 → M 1 7 - M 1 6 = ((wdL j).length : Int) → (∀ i : Nat, i < k → byF M (M 1 6 + i) = (wdL j).getD i 0) → J 28 [some (vr 1), some (vr (1000 + j)), some (vi (k : Int))] [] M := by
    intro n
    induction n with
    | zero =>
      intro k hk hkl h5 h7 hall
      refine hJ 28 _ _ _ (show mm_wp _ _ _ mo_Wd_28 _ _ _ from ?_)
      simp only [mo_Wd_28, mm_wp, mm_ldi, mm_lda, mm_ldl, mm_sti, mm_sta, mm_stl, mm_inc, mm_2i, mm_mm, mm_2l, mm_lcmp, mm_i2l, mm_l2i, mm_cast8, mm_if1, mm_if2, mm_cmp, mm_swi, mm_sw, mm_pop1, mm_dup, mm_dup2, mm_geti, mm_geta, mm_puti, mm_iald, mm_bald, mm_aald, mm_iast, mm_bast, mm_alen, mm_acpy, mm_call, mm_callv, mm_recv, mm_pop, mm_find, mm_push, mm_cats, mm_cat, mm_reti, mm_retz, mm_retl, mm_reta, mm_retv, mm_set1, mm_set2, mm_kill, List.getElem?_cons_zero, List.getElem?_cons_succ, Int.reduceToNat, ↓reduceIte, Nat.reduceEqDiff, Nat.reduceDiv, Nat.reduceAdd, Nat.reduceLeDiff, Nat.zero_le, true_and, and_true, true_or, or_true, mm_b0, mm_b1, mm_lc_lt, mm_lc_le, mm_lc_gt, mm_lc_ge, mm_lc_eq, Int.not_lt, Int.not_le, Decidable.not_not, Int.sub_neg]
      refine hA 30 _ _ _ (Or.inr rfl) (Nat.le_of_ble_eq_true rfl) ?_
      refine hJ 33 _ _ _ (show mm_wp _ _ _ mo_Wd_33 _ _ _ from ?_)
      simp only [mo_Wd_33, mm_wp, mm_ldi, mm_lda, mm_ldl, mm_sti, mm_sta, mm_stl, mm_inc, mm_2i, mm_mm, mm_2l, mm_lcmp, mm_i2l, mm_l2i, mm_cast8, mm_if1, mm_if2, mm_cmp, mm_swi, mm_sw, mm_pop1, mm_dup, mm_dup2, mm_geti, mm_geta, mm_puti, mm_iald, mm_bald, mm_aald, mm_iast, mm_bast, mm_alen, mm_acpy, mm_call, mm_callv, mm_recv, mm_pop, mm_find, mm_push, mm_cats, mm_cat, mm_reti, mm_retz, mm_retl, mm_reta, mm_retv, mm_set1, mm_set2, mm_kill, List.getElem?_cons_zero, List.getElem?_cons_succ, Int.reduceToNat, ↓reduceIte, Nat.reduceEqDiff, Nat.reduceDiv, Nat.reduceAdd, Nat.reduceLeDiff, Nat.zero_le, true_and, and_true, true_or, or_true, mm_b0, mm_b1, mm_lc_lt, mm_lc_le, mm_lc_gt, mm_lc_ge, mm_lc_eq, Int.not_lt, Int.not_le, Decidable.not_not, Int.sub_neg]
      refine ⟨fun _ => ?_, fun h => absurd h (by omega)⟩
      refine hJ 62 _ _ _ (show mm_wp _ _ _ mo_Wd_62 _ _ _ from ?_)
      simp only [mo_Wd_62, mm_wp, mm_ldi, mm_lda, mm_ldl, mm_sti, mm_sta, mm_stl, mm_inc, mm_2i, mm_mm, mm_2l, mm_lcmp, mm_i2l, mm_l2i, mm_cast8, mm_if1, mm_if2, mm_cmp, mm_swi, mm_sw, mm_pop1, mm_dup, mm_dup2, mm_geti, mm_geta, mm_puti, mm_iald, mm_bald, mm_aald, mm_iast, mm_bast, mm_alen, mm_acpy, mm_call, mm_callv, mm_recv, mm_pop, mm_find, mm_push, mm_cats, mm_cat, mm_reti, mm_retz, mm_retl, mm_reta, mm_retv, mm_set1, mm_set2, mm_kill, List.getElem?_cons_zero, List.getElem?_cons_succ, Int.reduceToNat, ↓reduceIte, Nat.reduceEqDiff, Nat.reduceDiv, Nat.reduceAdd, Nat.reduceLeDiff, Nat.zero_le, true_and, and_true, true_or, or_true, mm_b0, mm_b1, mm_lc_lt, mm_lc_le, mm_lc_gt, mm_lc_ge, mm_lc_eq, Int.not_lt, Int.not_le, Decidable.not_not, Int.sub_neg]
      have hb : wdB M j = true := by
        unfold wdB
        simp only [Bool.and_eq_true, decide_eq_true_eq, List.all_eq_true, List.mem_range]
        exact ⟨⟨h5, h7⟩, fun i hi => hall i (by omega)⟩
      rw [hb] at hq
      exact hq
    | succ n ih =>
      intro k hk hkl h5 h7 hall
      refine hJ 28 _ _ _ (show mm_wp _ _ _ mo_Wd_28 _ _ _ from ?_)
      simp only [mo_Wd_28, mm_wp, mm_ldi, mm_lda, mm_ldl, mm_sti, mm_sta, mm_stl, mm_inc, mm_2i, mm_mm, mm_2l, mm_lcmp, mm_i2l, mm_l2i, mm_cast8, mm_if1, mm_if2, mm_cmp, mm_swi, mm_sw, mm_pop1, mm_dup, mm_dup2, mm_geti, mm_geta, mm_puti, mm_iald, mm_bald, mm_aald, mm_iast, mm_bast, mm_alen, mm_acpy, mm_call, mm_callv, mm_recv, mm_pop, mm_find, mm_push, mm_cats, mm_cat, mm_reti, mm_retz, mm_retl, mm_reta, mm_retv, mm_set1, mm_set2, mm_kill, List.getElem?_cons_zero, List.getElem?_cons_succ, Int.reduceToNat, ↓reduceIte, Nat.reduceEqDiff, Nat.reduceDiv, Nat.reduceAdd, Nat.reduceLeDiff, Nat.zero_le, true_and, and_true, true_or, or_true, mm_b0, mm_b1, mm_lc_lt, mm_lc_le, mm_lc_gt, mm_lc_ge, mm_lc_eq, Int.not_lt, Int.not_le, Decidable.not_not, Int.sub_neg]
      refine hA 30 _ _ _ (Or.inr rfl) (Nat.le_of_ble_eq_true rfl) ?_
      refine hJ 33 _ _ _ (show mm_wp _ _ _ mo_Wd_33 _ _ _ from ?_)
      simp only [mo_Wd_33, mm_wp, mm_ldi, mm_lda, mm_ldl, mm_sti, mm_sta, mm_stl, mm_inc, mm_2i, mm_mm, mm_2l, mm_lcmp, mm_i2l, mm_l2i, mm_cast8, mm_if1, mm_if2, mm_cmp, mm_swi, mm_sw, mm_pop1, mm_dup, mm_dup2, mm_geti, mm_geta, mm_puti, mm_iald, mm_bald, mm_aald, mm_iast, mm_bast, mm_alen, mm_acpy, mm_call, mm_callv, mm_recv, mm_pop, mm_find, mm_push, mm_cats, mm_cat, mm_reti, mm_retz, mm_retl, mm_reta, mm_retv, mm_set1, mm_set2, mm_kill, List.getElem?_cons_zero, List.getElem?_cons_succ, Int.reduceToNat, ↓reduceIte, Nat.reduceEqDiff, Nat.reduceDiv, Nat.reduceAdd, Nat.reduceLeDiff, Nat.zero_le, true_and, and_true, true_or, or_true, mm_b0, mm_b1, mm_lc_lt, mm_lc_le, mm_lc_gt, mm_lc_ge, mm_lc_eq, Int.not_lt, Int.not_le, Decidable.not_not, Int.sub_neg]
      refine ⟨fun h => absurd h (by omega), fun _ => ?_⟩
      refine ⟨rfl, by unfold mm_R at *; omega, rfl, rfl, ?_⟩
      refine hC _ _ _ k (by omega) (Nat.le_of_ble_eq_true rfl) ?_
      refine hJ 51 _ _ _ (show mm_wp _ _ _ mo_Wd_51 _ _ _ from ?_)
      simp only [mo_Wd_51, mm_wp, mm_ldi, mm_lda, mm_ldl, mm_sti, mm_sta, mm_stl, mm_inc, mm_2i, mm_mm, mm_2l, mm_lcmp, mm_i2l, mm_l2i, mm_cast8, mm_if1, mm_if2, mm_cmp, mm_swi, mm_sw, mm_pop1, mm_dup, mm_dup2, mm_geti, mm_geta, mm_puti, mm_iald, mm_bald, mm_aald, mm_iast, mm_bast, mm_alen, mm_acpy, mm_call, mm_callv, mm_recv, mm_pop, mm_find, mm_push, mm_cats, mm_cat, mm_reti, mm_retz, mm_retl, mm_reta, mm_retv, mm_set1, mm_set2, mm_kill, List.getElem?_cons_zero, List.getElem?_cons_succ, Int.reduceToNat, ↓reduceIte, Nat.reduceEqDiff, Nat.reduceDiv, Nat.reduceAdd, Nat.reduceLeDiff, Nat.zero_le, true_and, and_true, true_or, or_true, mm_b0, mm_b1, mm_lc_lt, mm_lc_le, mm_lc_gt, mm_lc_ge, mm_lc_eq, Int.not_lt, Int.not_le, Decidable.not_not, Int.sub_neg]
      refine ⟨fun he => ?_, fun he => ?_⟩
      · refine hJ 56 _ _ _ (show mm_wp _ _ _ mo_Wd_56 _ _ _ from ?_)
        simp only [mo_Wd_56, mm_wp, mm_ldi, mm_lda, mm_ldl, mm_sti, mm_sta, mm_stl, mm_inc, mm_2i, mm_mm, mm_2l, mm_lcmp, mm_i2l, mm_l2i, mm_cast8, mm_if1, mm_if2, mm_cmp, mm_swi, mm_sw, mm_pop1, mm_dup, mm_dup2, mm_geti, mm_geta, mm_puti, mm_iald, mm_bald, mm_aald, mm_iast, mm_bast, mm_alen, mm_acpy, mm_call, mm_callv, mm_recv, mm_pop, mm_find, mm_push, mm_cats, mm_cat, mm_reti, mm_retz, mm_retl, mm_reta, mm_retv, mm_set1, mm_set2, mm_kill, List.getElem?_cons_zero, List.getElem?_cons_succ, Int.reduceToNat, ↓reduceIte, Nat.reduceEqDiff, Nat.reduceDiv, Nat.reduceAdd, Nat.reduceLeDiff, Nat.zero_le, true_and, and_true, true_or, or_true, mm_b0, mm_b1, mm_lc_lt, mm_lc_le, mm_lc_gt, mm_lc_ge, mm_lc_eq, Int.not_lt, Int.not_le, Decidable.not_not, Int.sub_neg]
        refine ⟨by unfold mm_R; omega, ?_⟩
        have := ih (k + 1) (by omega) (by omega) h5 h7 (fun i hi => by
          rcases Nat.lt_or_ge i k with h | h
          · exact hall i h
          · rw [show i = k by omega]; exact he)
        rwa [show ((k + 1 : Nat) : Int) = (k : Int) + 1 by omega] at this
      · have hb : wdB M j = false := by
          by_cases hb : wdB M j = true
          · exfalso
            unfold wdB at hb
            simp only [Bool.and_eq_true, decide_eq_true_eq, List.all_eq_true, List.mem_range] at hb
            exact he (hb.2 k (by omega))
          · simpa using hb
        rw [hb] at hq
        exact hq
  refine hJ 0 _ _ _ (show mm_wp _ _ _ mo_Wd_0 _ _ _ from ?_)
  simp only [mo_Wd_0, mm_wp, mm_ldi, mm_lda, mm_ldl, mm_sti, mm_sta, mm_stl, mm_inc, mm_2i, mm_mm, mm_2l, mm_lcmp, mm_i2l, mm_l2i, mm_cast8, mm_if1, mm_if2, mm_cmp, mm_swi, mm_sw, mm_pop1, mm_dup, mm_dup2, mm_geti, mm_geta, mm_puti, mm_iald, mm_bald, mm_aald, mm_iast, mm_bast, mm_alen, mm_acpy, mm_call, mm_callv, mm_recv, mm_pop, mm_find, mm_push, mm_cats, mm_cat, mm_reti, mm_retz, mm_retl, mm_reta, mm_retv, mm_set1, mm_set2, mm_kill, List.getElem?_cons_zero, List.getElem?_cons_succ, Int.reduceToNat, ↓reduceIte, Nat.reduceEqDiff, Nat.reduceDiv, Nat.reduceAdd, Nat.reduceLeDiff, Nat.zero_le, true_and, and_true, true_or, or_true, mm_b0, mm_b1, mm_lc_lt, mm_lc_le, mm_lc_gt, mm_lc_ge, mm_lc_eq, Int.not_lt, Int.not_le, Decidable.not_not, Int.sub_neg]
  refine ⟨rfl, fun h5 => ?_, fun h5 => ?_⟩
  · refine hfalse _ ?_
    unfold wdB
    simp [h5]
  · refine ⟨rfl, rfl, by unfold mm_R at *; omega, ?_⟩
    refine hA 18 _ _ _ (Or.inl rfl) (Nat.le_of_ble_eq_true rfl) ?_
    refine hJ 21 _ _ _ (show mm_wp _ _ _ mo_Wd_21 _ _ _ from ?_)
    simp only [mo_Wd_21, mm_wp, mm_ldi, mm_lda, mm_ldl, mm_sti, mm_sta, mm_stl, mm_inc, mm_2i, mm_mm, mm_2l, mm_lcmp, mm_i2l, mm_l2i, mm_cast8, mm_if1, mm_if2, mm_cmp, mm_swi, mm_sw, mm_pop1, mm_dup, mm_dup2, mm_geti, mm_geta, mm_puti, mm_iald, mm_bald, mm_aald, mm_iast, mm_bast, mm_alen, mm_acpy, mm_call, mm_callv, mm_recv, mm_pop, mm_find, mm_push, mm_cats, mm_cat, mm_reti, mm_retz, mm_retl, mm_reta, mm_retv, mm_set1, mm_set2, mm_kill, List.getElem?_cons_zero, List.getElem?_cons_succ, Int.reduceToNat, ↓reduceIte, Nat.reduceEqDiff, Nat.reduceDiv, Nat.reduceAdd, Nat.reduceLeDiff, Nat.zero_le, true_and, and_true, true_or, or_true, mm_b0, mm_b1, mm_lc_lt, mm_lc_le, mm_lc_gt, mm_lc_ge, mm_lc_eq, Int.not_lt, Int.not_le, Decidable.not_not, Int.sub_neg]
    refine ⟨fun h7 => ?_, fun h7 => ?_⟩
    · refine hJ 26 _ _ _ (show mm_wp _ _ _ mo_Wd_26 _ _ _ from ?_)
      simp only [mo_Wd_26, mm_wp, mm_ldi, mm_lda, mm_ldl, mm_sti, mm_sta, mm_stl, mm_inc, mm_2i, mm_mm, mm_2l, mm_lcmp, mm_i2l, mm_l2i, mm_cast8, mm_if1, mm_if2, mm_cmp, mm_swi, mm_sw, mm_pop1, mm_dup, mm_dup2, mm_geti, mm_geta, mm_puti, mm_iald, mm_bald, mm_aald, mm_iast, mm_bast, mm_alen, mm_acpy, mm_call, mm_callv, mm_recv, mm_pop, mm_find, mm_push, mm_cats, mm_cat, mm_reti, mm_retz, mm_retl, mm_reta, mm_retv, mm_set1, mm_set2, mm_kill, List.getElem?_cons_zero, List.getElem?_cons_succ, Int.reduceToNat, ↓reduceIte, Nat.reduceEqDiff, Nat.reduceDiv, Nat.reduceAdd, Nat.reduceLeDiff, Nat.zero_le, true_and, and_true, true_or, or_true, mm_b0, mm_b1, mm_lc_lt, mm_lc_le, mm_lc_gt, mm_lc_ge, mm_lc_eq, Int.not_lt, Int.not_le, Decidable.not_not, Int.sub_neg]
      exact hloop _ 0 rfl (Nat.zero_le _) h5 h7 (fun i hi => absurd hi (by omega))
    · refine hfalse _ ?_
      unfold wdB
      simp [h7]
theorem s_Rd_isWord {l : Launch} {D : va_G} {ad adV : Nat → Nat} {G : ClassId × ClassId × ClassId} {X : State → Prop} (hX : mm_XOk ad X) (hinj : ∀ i j, i < 77 → j < 77 → ad i = ad j → i = j) (hXj : ∀ U : State, X U → js_X (mm_A ad) (fun j => ad (1000 + j)) adV U) : mm_snd l D ad G X 313 t_Rd_isWord := by
  intro r' hr' as M Q has hM ht
  cases (show mm_rlk mm_recs 313 = some mr_313 from rfl).symm.trans hr'
  unfold t_Rd_isWord at ht
  split at ht
  rotate_left
  · exact ht.elim
  rename_i o w
  obtain ⟨rfl, hw0, hw1, hrd, hq⟩ := ht
  obtain ⟨j, rfl⟩ : ∃ j, w = 1000 + j := ⟨w - 1000, by omega⟩
  rw [Nat.add_sub_cancel_left] at hq
  have hj : j < 12 := by omega
  obtain ⟨hl1, hl2, hl3, hl4⟩ := jw_len j hj
  have hrec := mm_recs_ok _ (mm_rlk_mem (show mm_rlk mm_recs 313 = some mr_313 from rfl))
  have hby : mm_snd l D ad G X 317 t_Rd_byteAt := mm_sound hX hinj (x := 317) (r := mr_317) rfl ck_Rd_byteAt (T := []) (fun _ h => absurd h List.not_mem_nil) p_Rd_byteAt
  have hT : ∀ q ∈ [(317, t_Rd_byteAt)], mm_snd l D ad G X q.1 q.2 := by
    intro q hq
    rcases List.mem_cons.mp hq with rfl | h
    · exact hby
    · exact absurd h List.not_mem_nil
  refine Met.ofW (cc := mr_313.2.1) (maxL := mr_313.2.2.1) (ret := mr_313.2.2.2.1) hrec.2.2.2.2.2.1 rfl ?_
  intro p e s m args below meth c s₁ B9 hml hv
  obtain ⟨rfl, hP, hE⟩ := hv
  have hts : ∀ w ∈ mm_rws mr_313, w.before (([vr 1, vr (1000 + j)] : List mmV).map (mm_val ad)).toArray s = true := atoms_spec (ws := mm_rws mr_313) B9.pre
  have hown : s.vm.findClass mr_313.1.cls = some m.cls := findClass_of_methodNamed B9.named
  have C : mm_Cx p s m (([vr 1, vr (1000 + j)] : List mmV).map (mm_val ad)).toArray meth c D ad G X mr_313.2.2.2.2.2.2.2.2 mr_313.2.1 mr_313.2.2.1 mr_313.2.2.2.1 := ⟨B9.exec, B9.bytes, hml, B9.returns, B9.notSynchronized, by rw [← hrec.2.2.2.2.2.2]; exact hown, fun w hw => hts w (List.mem_cons_of_mem _ hw), hE, hX, hinj⟩
  have hjx := hXj s hE.2.2.2.2
  have hts2 := C.2.2.2.2.2.2.1
  rw [lg_entry_eq]
  have key : mm_W p l e (headSpec (mm_rws mr_313) (mm_rm mr_313)).room s m (([vr 1, vr (1000 + j)] : List mmV).map (mm_val ad)).toArray below meth c (MQ below (mm_Qc D ad G Q) (([vr 1, vr (1000 + j)] : List mmV).map (mm_val ad)).toArray s 0 0 (mm_A ad)) D ad G 3 0 [some (vr 1), some (vr (1000 + j)), none] [] M := by
    refine jw_ok hj hM hrd hq (J := mm_W p l e (headSpec (mm_rws mr_313) (mm_rm mr_313)).room s m (([vr 1, vr (1000 + j)] : List mmV).map (mm_val ad)).toArray below meth c (MQ below (mm_Qc D ad G Q) (([vr 1, vr (1000 + j)] : List mmV).map (mm_val ad)).toArray s 0 0 (mm_A ad)) D ad G 3) ?_ ?_ ?_
    · intro b L S M h9
      rcases mm_lk_in (B := mb_Wd) (b := b) with h1 | h1
      · rw [h1] at h9; exact h9.elim
      · have h2 := List.all_eq_true.mp ck_Wd _ h1
        simp only [Bool.and_eq_true, decide_eq_true_eq] at h2
        have h3 := mm_blk (R := (headSpec (mm_rws mr_313) (mm_rm mr_313)).room) C hT (mm_lk mb_Wd b) h2.2 L S M h9
        rw [h2.1] at h3
        exact h3
    · intro pc L S M hpc hS8 hk H locs ls hL hS hM hP hSt
      have hd : decode mr_313.2.1 pc = .ok (.invokevirtual 148, 3) := by
        rcases hpc with rfl | rfl
        · decide +kernel
        · decide +kernel
      refine js_callV (j := j) (As := []) (rest := S.map (mm_val ad)) (adK := fun j => ad (1000 + j)) C.1 C.2.1 hml C.2.2.2.2.2.1 hts2 hjx hSt hL.1.1 hj (jm_len l _ adV hj) rfl jc_len jl_wlen ji_len jv_len (by decide +kernel) rfl (Nat.le_of_ble_eq_true rfl) (Nat.le_of_ble_eq_true rfl) (by rw [mm_catsE]; exact hS8) ⟨Nat.zero_le _, Nat.zero_le _⟩ hd (fun H1 locs1 hk1 hS1 => ?_)
      have hP1 := hP.kept (H1 := H1) (fun k q hq => hk1 q.1 (hP k q hq).lt)
      have := hk H1 locs1 ls hL (List.forall_mem_cons.mpr ⟨show mm_R _ by unfold mm_R; omega, (List.forall_mem_cons.mp hS).2⟩) hM hP1 hS1
      rw [hl2]
      exact this
    · intro L S M k hkl hS8 hk H locs ls hL hS hM hP hSt
      obtain ⟨hk1, hk2, hk3, hk4⟩ := hl4 k hkl
      have hd : decode mr_313.2.1 48 = .ok (.invokevirtual 157, 3) := by decide +kernel
      have hgo := js_callV (l := l) (e := e) (below := below) (R := (headSpec (mm_rws mr_313) (mm_rm mr_313)).room) (Q := MQ below (mm_Qc D ad G Q) (([vr 1, vr (1000 + j)] : List mmV).map (mm_val ad)).toArray s 0 0 (mm_A ad)) (cells := 0) (slots := 0) (j := j) (n := 1) (As := [.int (nI k)]) (rest := S.map (mm_val ad)) (adK := fun j => ad (1000 + j)) C.1 C.2.1 hml C.2.2.2.2.2.1 hts2 hjx hSt hL.1.1 hj (jm_cha l _ adV hj (by rw [← hl1]; exact hkl)) rfl jc_cha jl_wcha ji_cha jv_cha (by decide +kernel) rfl (Nat.le_of_ble_eq_true rfl) (Nat.le_of_ble_eq_true rfl) (by rw [mm_catsE]; exact hS8) ⟨Nat.zero_le _, Nat.zero_le _⟩ hd (fun H1 locs1 hk1 hS1 => by
        have hP1 := hP.kept (H1 := H1) (fun k q hq => hk1 q.1 (hP k q hq).lt)
        have := hk H1 locs1 ls hL (List.forall_mem_cons.mpr ⟨show mm_R _ by unfold mm_R; omega, (List.forall_mem_cons.mp (List.forall_mem_cons.mp hS).2).2⟩) hM hP1 hS1
        rw [hk2]
        exact this)
      rw [← hk1] at hgo
      exact hgo
  exact key s.heap [] _ (mm_LR_entry (n := 3) (as := [vr 1, vr (1000 + j)]) (Nat.le_of_ble_eq_true rfl) has) (fun v hv => by cases hv) hM hP va_S.rf
