/-! the reference: how often, parts, what a kind tells -/
theorem sN_one {f g : Int → Int} {a : Int} : ∀ n : Nat, (∀ k : Nat, k < n → (k : Int) ≠ a → f k = g k) → 0 ≤ a → sN f n = sN g n + (if a < n then f a - g a else 0)
  | 0, _, h0 => by
    rw [if_neg (by omega)]
    rfl
  | n + 1, h, h0 => by
    have ih := sN_one n (fun k hk => h k (by omega)) h0
    simp only [sN]
    rw [ih]
    by_cases c : a = n
    · rw [if_neg (by omega), if_pos (by omega), c]
      omega
    · rw [h n (by omega) (fun e => c e.symm)]
      by_cases c2 : a < n
      · rw [if_pos c2, if_pos (by omega)]
        omega
      · rw [if_neg c2, if_neg (by omega)]
        omega
def exB (N : Int → Int) (k : Int) : Nat → Bool
  | 0 => false
  | m + 1 => exB N k m || decide (N m = k)
theorem exB_t {N : Int → Int} {k : Int} : ∀ m : Nat, exB N k m = true ↔ ∃ j : Nat, j < m ∧ N j = k
  | 0 => by simp [exB]
  | m + 1 => by
    simp only [exB, Bool.or_eq_true, decide_eq_true_eq, exB_t m]
    constructor
    · rintro (⟨j, h1, h2⟩ | h)
      · exact ⟨j, by omega, h2⟩
      · exact ⟨m, by omega, h⟩
    · rintro ⟨j, h1, h2⟩
      by_cases c : j = m
      · subst c; exact Or.inr h2
      · exact Or.inl ⟨j, by omega, h2⟩
def dvF (N : Int → Int) : Int := sN (fun k => mm_b (exB N k 8 = true)) 8
def mj (N : Int → Int) (a b : Int) : Int → Int := fun j => if N j = N a then N b else N j
def mdS (T : Int → Int) : Nat → Int → Int
  | 0 => fun j => j
  | n + 1 => if 0 < T n then mj (mdS T n) ((n : Int) / 8) ((n : Int) % 8) else mdS T n
theorem mdS_b (T : Int → Int) : ∀ n : Nat, n ≤ 64 → ∀ j, 0 ≤ j → j < 8 → 0 ≤ mdS T n j ∧ mdS T n j < 8
  | 0, _, j, h0, h1 => ⟨h0, h1⟩
  | n + 1, hn, j, h0, h1 => by
    have i1 := mdS_b T n (by omega) j h0 h1
    have i2 := mdS_b T n (by omega) ((n : Int) % 8) (by omega) (by omega)
    simp only [mdS]
    split
    · unfold mj
      split
      · exact i2
      · exact i1
    · exact i1
theorem dv_step {N : Int → Int} {a b : Int} (ha0 : 0 ≤ a) (ha : a < 8) (hb0 : 0 ≤ b) (hb : b < 8) (hN : ∀ j, 0 ≤ j → j < 8 → 0 ≤ N j ∧ N j < 8) (hne : ¬ N a = N b) : dvF (mj N a b) = dvF N - 1 := by
  unfold dvF
  have hp : ∀ k : Nat, k < 8 → (k : Int) ≠ N a → mm_b (exB (mj N a b) k 8 = true) = mm_b (exB N k 8 = true) := by
    intro k hk hne2
    have : exB (mj N a b) k 8 = true ↔ exB N k 8 = true := by
      rw [exB_t, exB_t]
      constructor
      · rintro ⟨j, h1, h2⟩
        unfold mj at h2
        split at h2
        · exact ⟨b.toNat, by omega, by rw [show ((b.toNat : Nat) : Int) = b by omega]; exact h2⟩
        · exact ⟨j, h1, h2⟩
      · rintro ⟨j, h1, h2⟩
        refine ⟨j, h1, ?_⟩
        unfold mj
        rw [if_neg (by omega)]
        exact h2
    by_cases c : exB N k 8 = true
    · rw [mm_bT c, mm_bT (this.mpr c)]
    · rw [mm_bF c, mm_bF (fun w => c (this.mp w))]
  have hNa := hN a ha0 ha
  rw [sN_one (g := fun k => mm_b (exB N k 8 = true)) (a := N a) 8 (fun k hk hne2 => hp k hk hne2) hNa.1, if_pos (by omega)]
  have e1 : mm_b (exB N (N a) 8 = true) = 1 := mm_bT (by rw [exB_t]; exact ⟨a.toNat, by omega, by rw [show ((a.toNat : Nat) : Int) = a by omega]⟩)
  have e2 : mm_b (exB (mj N a b) (N a) 8 = true) = 0 := mm_bF (by
    rw [exB_t]
    rintro ⟨j, h1, h2⟩
    unfold mj at h2
    split at h2
    · exact hne h2.symm
    · contradiction)
  show _ + (mm_b (exB (mj N a b) (N a) 8 = true) - mm_b (exB N (N a) 8 = true)) = _
  rw [e1, e2]
  omega
theorem parts_eq (T : Int → Int) : ∀ n : Nat, n ≤ 64 → (∀ i j, 0 ≤ i → i < 8 → 0 ≤ j → j < 8 → (mdS T n i = mdS T n j ↔ (clS T n).1 i = (clS T n).1 j)) ∧ dvF (mdS T n) = (clS T n).2
  | 0, _ => ⟨fun i j _ _ _ _ => Iff.rfl, by show dvF (fun j => j) = 8; decide⟩
  | n + 1, hn => by
    obtain ⟨h1, h2⟩ := parts_eq T n (by omega)
    have a0 : 0 ≤ (n : Int) / 8 := by omega
    have a1 : (n : Int) / 8 < 8 := by omega
    have b0 : 0 ≤ (n : Int) % 8 := by omega
    have b1 : (n : Int) % 8 < 8 := by omega
    have hb := mdS_b T n (by omega)
    simp only [mdS, clS]
    by_cases c : 0 < T n
    · rw [if_pos c, if_pos c]
      generalize (n : Int) / 8 = a at *
      generalize (n : Int) % 8 = b at *
      generalize mdS T n = N at *
      generalize clS T n = C at *
      have hab := h1 a b a0 a1 b0 b1
      refine ⟨fun i j i0 i1 j0 j1 => ?_, ?_⟩
      · have hia := h1 i a i0 i1 a0 a1
        have hib := h1 i b i0 i1 b0 b1
        have hja := h1 j a j0 j1 a0 a1
        have hjb := h1 j b j0 j1 b0 b1
        have hij := h1 i j i0 i1 j0 j1
        simp only [mj, jn]
        by_cases q1 : N i = N a <;> by_cases q2 : N j = N a <;> by_cases q3 : C.1 i = C.1 b <;> by_cases q4 : C.1 j = C.1 b <;> simp only [q1, q2, q3, q4, ↓reduceIte, if_true, if_false, true_iff, iff_true, eq_self] <;> omega
      · by_cases q : N a = N b
        · rw [if_pos (hab.mp q), ← h2]
          congr 1
          funext j
          unfold mj
          split
          · rename_i w; rw [w, q]
          · rfl
        · rw [if_neg (fun w => q (hab.mpr w)), ← h2]
          exact dv_step a0 a1 b0 b1 hb q
    · rw [if_neg c, if_neg c]
      exact ⟨h1, h2⟩
def t_M_parts : mmT := fun as M Q => match as with
  | [.inr (.inr o)] => o = 62 ∧ ∀ M', (∀ o', o' ≠ 74 → M' o' = M o') → Q (some (vi (clS (M 73) 64).2)) M'
  | _ => False
set_option maxHeartbeats 4000000 in
set_option maxRecDepth 100000 in
theorem p_M_parts : ∀ as M Q, (∀ v ∈ as, mm_vin v) → mm_mem M → t_M_parts as M Q → (mm_ent as).length ≤ 5 ∧ mm_ok mb_M_parts [] (mm_entry 5 as) M Q := by
  intro as M Q hin hM h
  unfold t_M_parts at h
  split at h
  rotate_left
  · exact h.elim
  rename_i o
  refine ⟨by simp [mm_ent], (show mm_ok mb_M_parts [] [some (vr o), none, none, none, none] M Q from ?_)⟩
  intro J hJ
  obtain ⟨rfl, h⟩ := h
  have hcount : ∀ (M1 : mmM) (x1 x2 x3 x4 : Option mmV), (∀ o', o' ≠ 74 → M1 o' = M o') → (∀ j : Int, 0 ≤ j → j < 8 → M1 74 j = mdS (M 73) 64 j) → J 109 [some (vr 62), x1, x2, x3, x4] [] M1 := by
    intro M1 x1 x2 x3 x4 f1 g1
    have hq := h M1 f1
    rw [← (parts_eq (M 73) 64 (by omega)).2] at hq
    generalize hN : mdS (M 73) 64 = N at *
    have hfb : ∀ n : Nat, n ≤ 8 → 0 ≤ sN (fun k => mm_b (exB N k 8 = true)) n ∧ sN (fun k => mm_b (exB N k 8 = true)) n ≤ n := fun n _ => by
      have := sN_b (f := fun k => mm_b (exB N k 8 = true)) (a := 0) (b := 1) n (fun k _ => mm_b_R _)
      omega
    have hl : ∀ (d k : Nat) (x3 x4 : Option mmV), k + d = 8 → J 113 [some (vr 62), some (vi (sN (fun k => mm_b (exB N k 8 = true)) k)), some (vi k), x3, x4] [] M1 := by
      intro d
      induction d with
      | zero =>
        intro k x3 x4 hk
        have h176 : J 176 [some (vr 62), some (vi (sN (fun k => mm_b (exB N k 8 = true)) k)), some (vi k), x3, x4] [] M1 := by
          refine hJ 176 _ _ _ (show mm_wp _ _ _ mo_M_parts_176 _ _ _ from ?_)
          simp only [mo_M_parts_176, mm_wp, mm_ldi, mm_lda, mm_ldl, mm_sti, mm_sta, mm_stl, mm_inc, mm_2i, mm_mm, mm_2l, mm_lcmp, mm_i2l, mm_l2i, mm_cast8, mm_if1, mm_if2, mm_cmp, mm_swi, mm_sw, mm_pop1, mm_dup, mm_dup2, mm_geti, mm_geta, mm_puti, mm_iald, mm_bald, mm_aald, mm_iast, mm_bast, mm_alen, mm_acpy, mm_call, mm_callv, mm_recv, mm_pop, mm_find, mm_push, mm_cats, mm_cat, mm_reti, mm_retz, mm_retl, mm_reta, mm_retv, mm_set1, mm_set2, mm_kill, List.getElem?_cons_zero, List.getElem?_cons_succ, Int.reduceToNat, ↓reduceIte, Nat.reduceEqDiff, Nat.reduceDiv, Nat.reduceAdd, Nat.reduceLeDiff, Nat.zero_le, true_and, and_true, true_or, or_true, mm_b0, mm_b1, mm_lc_lt, mm_lc_le, mm_lc_gt, mm_lc_ge, mm_lc_eq, Int.not_lt, Int.not_le, Decidable.not_not, Int.sub_neg]
          rw [show k = 8 by omega]
          exact hq
        refine hJ 113 _ _ _ (show mm_wp _ _ _ mo_M_parts_113 _ _ _ from ?_)
        simp only [mo_M_parts_113, mm_wp, mm_ldi, mm_lda, mm_ldl, mm_sti, mm_sta, mm_stl, mm_inc, mm_2i, mm_mm, mm_2l, mm_lcmp, mm_i2l, mm_l2i, mm_cast8, mm_if1, mm_if2, mm_cmp, mm_swi, mm_sw, mm_pop1, mm_dup, mm_dup2, mm_geti, mm_geta, mm_puti, mm_iald, mm_bald, mm_aald, mm_iast, mm_bast, mm_alen, mm_acpy, mm_call, mm_callv, mm_recv, mm_pop, mm_find, mm_push, mm_cats, mm_cat, mm_reti, mm_retz, mm_retl, mm_reta, mm_retv, mm_set1, mm_set2, mm_kill, List.getElem?_cons_zero, List.getElem?_cons_succ, Int.reduceToNat, ↓reduceIte, Nat.reduceEqDiff, Nat.reduceDiv, Nat.reduceAdd, Nat.reduceLeDiff, Nat.zero_le, true_and, and_true, true_or, or_true, mm_b0, mm_b1, mm_lc_lt, mm_lc_le, mm_lc_gt, mm_lc_ge, mm_lc_eq, Int.not_lt, Int.not_le, Decidable.not_not, Int.sub_neg]
        exact ⟨fun _ => h176, fun z => by omega⟩
      | succ d ih =>
        intro k x3 x4 hk
        have hb := hfb k (by omega)
        have hb2 := mm_b_R (exB N k 8 = true)
        have h158 : ∀ x4, J 158 [some (vr 62), some (vi (sN (fun k => mm_b (exB N k 8 = true)) k)), some (vi k), some (vi (mm_b (exB N k 8 = true))), x4] [] M1 := by
          intro x4
          have h168 : J 168 [some (vr 62), some (vi (sN (fun k => mm_b (exB N k 8 = true)) k)), some (vi k), some (vi (mm_b (exB N k 8 = true))), x4] [vi (mm_b (exB N k 8 = true)), vi (sN (fun k => mm_b (exB N k 8 = true)) k)] M1 := by
            refine hJ 168 _ _ _ (show mm_wp _ _ _ mo_M_parts_168 _ _ _ from ?_)
            simp only [mo_M_parts_168, mm_wp, mm_ldi, mm_lda, mm_ldl, mm_sti, mm_sta, mm_stl, mm_inc, mm_2i, mm_mm, mm_2l, mm_lcmp, mm_i2l, mm_l2i, mm_cast8, mm_if1, mm_if2, mm_cmp, mm_swi, mm_sw, mm_pop1, mm_dup, mm_dup2, mm_geti, mm_geta, mm_puti, mm_iald, mm_bald, mm_aald, mm_iast, mm_bast, mm_alen, mm_acpy, mm_call, mm_callv, mm_recv, mm_pop, mm_find, mm_push, mm_cats, mm_cat, mm_reti, mm_retz, mm_retl, mm_reta, mm_retv, mm_set1, mm_set2, mm_kill, List.getElem?_cons_zero, List.getElem?_cons_succ, Int.reduceToNat, ↓reduceIte, Nat.reduceEqDiff, Nat.reduceDiv, Nat.reduceAdd, Nat.reduceLeDiff, Nat.zero_le, true_and, and_true, true_or, or_true, mm_b0, mm_b1, mm_lc_lt, mm_lc_le, mm_lc_gt, mm_lc_ge, mm_lc_eq, Int.not_lt, Int.not_le, Decidable.not_not, Int.sub_neg]
            exact ⟨by omega, by omega, ih (k + 1) _ _ (by omega)⟩
          by_cases c : exB N k 8 = true
          · rw [mm_bT c] at h168 ⊢
            refine hJ 158 _ _ _ (show mm_wp _ _ _ mo_M_parts_158 _ _ _ from ?_)
            simp only [mo_M_parts_158, mm_wp, mm_ldi, mm_lda, mm_ldl, mm_sti, mm_sta, mm_stl, mm_inc, mm_2i, mm_mm, mm_2l, mm_lcmp, mm_i2l, mm_l2i, mm_cast8, mm_if1, mm_if2, mm_cmp, mm_swi, mm_sw, mm_pop1, mm_dup, mm_dup2, mm_geti, mm_geta, mm_puti, mm_iald, mm_bald, mm_aald, mm_iast, mm_bast, mm_alen, mm_acpy, mm_call, mm_callv, mm_recv, mm_pop, mm_find, mm_push, mm_cats, mm_cat, mm_reti, mm_retz, mm_retl, mm_reta, mm_retv, mm_set1, mm_set2, mm_kill, List.getElem?_cons_zero, List.getElem?_cons_succ, Int.reduceToNat, ↓reduceIte, Nat.reduceEqDiff, Nat.reduceDiv, Nat.reduceAdd, Nat.reduceLeDiff, Nat.zero_le, true_and, and_true, true_or, or_true, mm_b0, mm_b1, mm_lc_lt, mm_lc_le, mm_lc_gt, mm_lc_ge, mm_lc_eq, Int.not_lt, Int.not_le, Decidable.not_not, Int.sub_neg]
            exact ⟨fun z => by omega, fun _ => h168⟩
          · rw [mm_bF c] at h168 ⊢
            have h167 : J 167 [some (vr 62), some (vi (sN (fun k => mm_b (exB N k 8 = true)) k)), some (vi k), some (vi 0), x4] [vi (sN (fun k => mm_b (exB N k 8 = true)) k)] M1 := by
              refine hJ 167 _ _ _ (show mm_wp _ _ _ mo_M_parts_167 _ _ _ from ?_)
              simp only [mo_M_parts_167, mm_wp, mm_ldi, mm_lda, mm_ldl, mm_sti, mm_sta, mm_stl, mm_inc, mm_2i, mm_mm, mm_2l, mm_lcmp, mm_i2l, mm_l2i, mm_cast8, mm_if1, mm_if2, mm_cmp, mm_swi, mm_sw, mm_pop1, mm_dup, mm_dup2, mm_geti, mm_geta, mm_puti, mm_iald, mm_bald, mm_aald, mm_iast, mm_bast, mm_alen, mm_acpy, mm_call, mm_callv, mm_recv, mm_pop, mm_find, mm_push, mm_cats, mm_cat, mm_reti, mm_retz, mm_retl, mm_reta, mm_retv, mm_set1, mm_set2, mm_kill, List.getElem?_cons_zero, List.getElem?_cons_succ, Int.reduceToNat, ↓reduceIte, Nat.reduceEqDiff, Nat.reduceDiv, Nat.reduceAdd, Nat.reduceLeDiff, Nat.zero_le, true_and, and_true, true_or, or_true, mm_b0, mm_b1, mm_lc_lt, mm_lc_le, mm_lc_gt, mm_lc_ge, mm_lc_eq, Int.not_lt, Int.not_le, Decidable.not_not, Int.sub_neg]
              exact h168
            refine hJ 158 _ _ _ (show mm_wp _ _ _ mo_M_parts_158 _ _ _ from ?_)
            simp only [mo_M_parts_158, mm_wp, mm_ldi, mm_lda, mm_ldl, mm_sti, mm_sta, mm_stl, mm_inc, mm_2i, mm_mm, mm_2l, mm_lcmp, mm_i2l, mm_l2i, mm_cast8, mm_if1, mm_if2, mm_cmp, mm_swi, mm_sw, mm_pop1, mm_dup, mm_dup2, mm_geti, mm_geta, mm_puti, mm_iald, mm_bald, mm_aald, mm_iast, mm_bast, mm_alen, mm_acpy, mm_call, mm_callv, mm_recv, mm_pop, mm_find, mm_push, mm_cats, mm_cat, mm_reti, mm_retz, mm_retl, mm_reta, mm_retv, mm_set1, mm_set2, mm_kill, List.getElem?_cons_zero, List.getElem?_cons_succ, Int.reduceToNat, ↓reduceIte, Nat.reduceEqDiff, Nat.reduceDiv, Nat.reduceAdd, Nat.reduceLeDiff, Nat.zero_le, true_and, and_true, true_or, or_true, mm_b0, mm_b1, mm_lc_lt, mm_lc_le, mm_lc_gt, mm_lc_ge, mm_lc_eq, Int.not_lt, Int.not_le, Decidable.not_not, Int.sub_neg]
            exact ⟨fun _ => h167, fun z => by first | omega | simp at z⟩
        have hl2 : ∀ (d2 j : Nat), j + d2 = 8 → J 124 [some (vr 62), some (vi (sN (fun k => mm_b (exB N k 8 = true)) k)), some (vi k), some (vi (mm_b (exB N k j = true))), some (vi j)] [] M1 := by
          intro d2
          induction d2 with
          | zero =>
            intro j hj
            obtain rfl : j = 8 := by omega
            have := h158 (some (vi (8 : Nat)))
            refine hJ 124 _ _ _ (show mm_wp _ _ _ mo_M_parts_124 _ _ _ from ?_)
            simp only [mo_M_parts_124, mm_wp, mm_ldi, mm_lda, mm_ldl, mm_sti, mm_sta, mm_stl, mm_inc, mm_2i, mm_mm, mm_2l, mm_lcmp, mm_i2l, mm_l2i, mm_cast8, mm_if1, mm_if2, mm_cmp, mm_swi, mm_sw, mm_pop1, mm_dup, mm_dup2, mm_geti, mm_geta, mm_puti, mm_iald, mm_bald, mm_aald, mm_iast, mm_bast, mm_alen, mm_acpy, mm_call, mm_callv, mm_recv, mm_pop, mm_find, mm_push, mm_cats, mm_cat, mm_reti, mm_retz, mm_retl, mm_reta, mm_retv, mm_set1, mm_set2, mm_kill, List.getElem?_cons_zero, List.getElem?_cons_succ, Int.reduceToNat, ↓reduceIte, Nat.reduceEqDiff, Nat.reduceDiv, Nat.reduceAdd, Nat.reduceLeDiff, Nat.zero_le, true_and, and_true, true_or, or_true, mm_b0, mm_b1, mm_lc_lt, mm_lc_le, mm_lc_gt, mm_lc_ge, mm_lc_eq, Int.not_lt, Int.not_le, Decidable.not_not, Int.sub_neg]
            exact ⟨fun _ => this, fun z => by omega⟩
          | succ d2 ih2 =>
            intro j hj
            have gj := g1 j (by omega) (by omega)
            have h151 : ∀ x z, z = mm_b (exB N k (j + 1) = true) → J 151 [some (vr 62), some (vi (sN (fun k => mm_b (exB N k 8 = true)) k)), some (vi k), some (vi x), some (vi j)] [vi z] M1 := by
              intro x z hz
              refine hJ 151 _ _ _ (show mm_wp _ _ _ mo_M_parts_151 _ _ _ from ?_)
              simp only [mo_M_parts_151, mm_wp, mm_ldi, mm_lda, mm_ldl, mm_sti, mm_sta, mm_stl, mm_inc, mm_2i, mm_mm, mm_2l, mm_lcmp, mm_i2l, mm_l2i, mm_cast8, mm_if1, mm_if2, mm_cmp, mm_swi, mm_sw, mm_pop1, mm_dup, mm_dup2, mm_geti, mm_geta, mm_puti, mm_iald, mm_bald, mm_aald, mm_iast, mm_bast, mm_alen, mm_acpy, mm_call, mm_callv, mm_recv, mm_pop, mm_find, mm_push, mm_cats, mm_cat, mm_reti, mm_retz, mm_retl, mm_reta, mm_retv, mm_set1, mm_set2, mm_kill, List.getElem?_cons_zero, List.getElem?_cons_succ, Int.reduceToNat, ↓reduceIte, Nat.reduceEqDiff, Nat.reduceDiv, Nat.reduceAdd, Nat.reduceLeDiff, Nat.zero_le, true_and, and_true, true_or, or_true, mm_b0, mm_b1, mm_lc_lt, mm_lc_le, mm_lc_gt, mm_lc_ge, mm_lc_eq, Int.not_lt, Int.not_le, Decidable.not_not, Int.sub_neg]
              rw [hz]
              exact ⟨by omega, ih2 (j + 1) (by omega)⟩
            have h146 : ∀ x, exB N k (j + 1) = true → J 146 [some (vr 62), some (vi (sN (fun k => mm_b (exB N k 8 = true)) k)), some (vi k), some (vi x), some (vi j)] [] M1 := by
              intro x hx
              refine hJ 146 _ _ _ (show mm_wp _ _ _ mo_M_parts_146 _ _ _ from ?_)
              simp only [mo_M_parts_146, mm_wp, mm_ldi, mm_lda, mm_ldl, mm_sti, mm_sta, mm_stl, mm_inc, mm_2i, mm_mm, mm_2l, mm_lcmp, mm_i2l, mm_l2i, mm_cast8, mm_if1, mm_if2, mm_cmp, mm_swi, mm_sw, mm_pop1, mm_dup, mm_dup2, mm_geti, mm_geta, mm_puti, mm_iald, mm_bald, mm_aald, mm_iast, mm_bast, mm_alen, mm_acpy, mm_call, mm_callv, mm_recv, mm_pop, mm_find, mm_push, mm_cats, mm_cat, mm_reti, mm_retz, mm_retl, mm_reta, mm_retv, mm_set1, mm_set2, mm_kill, List.getElem?_cons_zero, List.getElem?_cons_succ, Int.reduceToNat, ↓reduceIte, Nat.reduceEqDiff, Nat.reduceDiv, Nat.reduceAdd, Nat.reduceLeDiff, Nat.zero_le, true_and, and_true, true_or, or_true, mm_b0, mm_b1, mm_lc_lt, mm_lc_le, mm_lc_gt, mm_lc_ge, mm_lc_eq, Int.not_lt, Int.not_le, Decidable.not_not, Int.sub_neg]
              exact h151 _ _ (mm_bT hx).symm
            have h150 : ∀ x, ¬ exB N k (j + 1) = true → J 150 [some (vr 62), some (vi (sN (fun k => mm_b (exB N k 8 = true)) k)), some (vi k), some (vi x), some (vi j)] [] M1 := by
              intro x hx
              refine hJ 150 _ _ _ (show mm_wp _ _ _ mo_M_parts_150 _ _ _ from ?_)
              simp only [mo_M_parts_150, mm_wp, mm_ldi, mm_lda, mm_ldl, mm_sti, mm_sta, mm_stl, mm_inc, mm_2i, mm_mm, mm_2l, mm_lcmp, mm_i2l, mm_l2i, mm_cast8, mm_if1, mm_if2, mm_cmp, mm_swi, mm_sw, mm_pop1, mm_dup, mm_dup2, mm_geti, mm_geta, mm_puti, mm_iald, mm_bald, mm_aald, mm_iast, mm_bast, mm_alen, mm_acpy, mm_call, mm_callv, mm_recv, mm_pop, mm_find, mm_push, mm_cats, mm_cat, mm_reti, mm_retz, mm_retl, mm_reta, mm_retv, mm_set1, mm_set2, mm_kill, List.getElem?_cons_zero, List.getElem?_cons_succ, Int.reduceToNat, ↓reduceIte, Nat.reduceEqDiff, Nat.reduceDiv, Nat.reduceAdd, Nat.reduceLeDiff, Nat.zero_le, true_and, and_true, true_or, or_true, mm_b0, mm_b1, mm_lc_lt, mm_lc_le, mm_lc_gt, mm_lc_ge, mm_lc_eq, Int.not_lt, Int.not_le, Decidable.not_not, Int.sub_neg]
              exact h151 _ _ (mm_bF hx).symm
            have he : exB N k (j + 1) = true ↔ (exB N k j = true ∨ N j = k) := by simp [exB]
            refine hJ 124 _ _ _ (show mm_wp _ _ _ mo_M_parts_124 _ _ _ from ?_)
            simp only [mo_M_parts_124, mm_wp, mm_ldi, mm_lda, mm_ldl, mm_sti, mm_sta, mm_stl, mm_inc, mm_2i, mm_mm, mm_2l, mm_lcmp, mm_i2l, mm_l2i, mm_cast8, mm_if1, mm_if2, mm_cmp, mm_swi, mm_sw, mm_pop1, mm_dup, mm_dup2, mm_geti, mm_geta, mm_puti, mm_iald, mm_bald, mm_aald, mm_iast, mm_bast, mm_alen, mm_acpy, mm_call, mm_callv, mm_recv, mm_pop, mm_find, mm_push, mm_cats, mm_cat, mm_reti, mm_retz, mm_retl, mm_reta, mm_retv, mm_set1, mm_set2, mm_kill, List.getElem?_cons_zero, List.getElem?_cons_succ, Int.reduceToNat, ↓reduceIte, Nat.reduceEqDiff, Nat.reduceDiv, Nat.reduceAdd, Nat.reduceLeDiff, Nat.zero_le, true_and, and_true, true_or, or_true, mm_b0, mm_b1, mm_lc_lt, mm_lc_le, mm_lc_gt, mm_lc_ge, mm_lc_eq, Int.not_lt, Int.not_le, Decidable.not_not, Int.sub_neg, c_0, c_1, c_2, l_2, c_3, c_4, l_4, c_5, l_5, c_6, l_6, c_7, l_7, c_8, c_9, l_9, c_10, l_10, c_11, l_11, c_12, l_12, c_13, c_14, l_14, c_15, l_15, c_16, l_16, c_17, l_17, c_18, c_19, l_19, c_20, l_20, c_21, l_21, c_22, l_22, c_23, c_24, l_24, c_25, l_25, c_26, c_27, c_28, l_28, c_29, c_30, l_30, c_31, c_32, l_32, c_33, l_33, c_34, l_34, c_35, l_35, c_36, l_36, c_37, l_37, c_38, l_38, c_39, l_39, c_40, c_41, l_41, c_42, c_43, c_44, l_44, c_45, c_46, l_46, c_47, c_48, l_48, c_49, l_49, c_50, l_50, c_51, l_51, c_52, l_52, c_53, l_53, c_54, l_54, c_55, l_55, c_56, l_56, c_57, l_57, c_58, l_58, c_59, l_59, c_60, l_60, c_61, l_61, c_62, c_63, l_63, c_64, l_64, c_65, l_65, c_66, l_66, c_67, l_67, c_68, l_68, c_69, l_69, c_70, l_70, c_71, l_71, c_72, l_72, c_73, l_73, c_74, l_74, c_75, l_75, c_76, l_76, gj]
            refine ⟨fun z => by omega, fun _ => ⟨fun z => h146 _ (he.mpr (Or.inl z)), fun z => ⟨by omega, fun z2 => h150 _ (fun w => (he.mp w).elim z z2), fun z2 => h146 _ (he.mpr (Or.inr z2))⟩⟩⟩
        refine hJ 113 _ _ _ (show mm_wp _ _ _ mo_M_parts_113 _ _ _ from ?_)
        simp only [mo_M_parts_113, mm_wp, mm_ldi, mm_lda, mm_ldl, mm_sti, mm_sta, mm_stl, mm_inc, mm_2i, mm_mm, mm_2l, mm_lcmp, mm_i2l, mm_l2i, mm_cast8, mm_if1, mm_if2, mm_cmp, mm_swi, mm_sw, mm_pop1, mm_dup, mm_dup2, mm_geti, mm_geta, mm_puti, mm_iald, mm_bald, mm_aald, mm_iast, mm_bast, mm_alen, mm_acpy, mm_call, mm_callv, mm_recv, mm_pop, mm_find, mm_push, mm_cats, mm_cat, mm_reti, mm_retz, mm_retl, mm_reta, mm_retv, mm_set1, mm_set2, mm_kill, List.getElem?_cons_zero, List.getElem?_cons_succ, Int.reduceToNat, ↓reduceIte, Nat.reduceEqDiff, Nat.reduceDiv, Nat.reduceAdd, Nat.reduceLeDiff, Nat.zero_le, true_and, and_true, true_or, or_true, mm_b0, mm_b1, mm_lc_lt, mm_lc_le, mm_lc_gt, mm_lc_ge, mm_lc_eq, Int.not_lt, Int.not_le, Decidable.not_not, Int.sub_neg]
        exact ⟨fun z => by omega, fun _ => hl2 8 0 (by omega)⟩
    refine hJ 109 _ _ _ (show mm_wp _ _ _ mo_M_parts_109 _ _ _ from ?_)
    simp only [mo_M_parts_109, mm_wp, mm_ldi, mm_lda, mm_ldl, mm_sti, mm_sta, mm_stl, mm_inc, mm_2i, mm_mm, mm_2l, mm_lcmp, mm_i2l, mm_l2i, mm_cast8, mm_if1, mm_if2, mm_cmp, mm_swi, mm_sw, mm_pop1, mm_dup, mm_dup2, mm_geti, mm_geta, mm_puti, mm_iald, mm_bald, mm_aald, mm_iast, mm_bast, mm_alen, mm_acpy, mm_call, mm_callv, mm_recv, mm_pop, mm_find, mm_push, mm_cats, mm_cat, mm_reti, mm_retz, mm_retl, mm_reta, mm_retv, mm_set1, mm_set2, mm_kill, List.getElem?_cons_zero, List.getElem?_cons_succ, Int.reduceToNat, ↓reduceIte, Nat.reduceEqDiff, Nat.reduceDiv, Nat.reduceAdd, Nat.reduceLeDiff, Nat.zero_le, true_and, and_true, true_or, or_true, mm_b0, mm_b1, mm_lc_lt, mm_lc_le, mm_lc_gt, mm_lc_ge, mm_lc_eq, Int.not_lt, Int.not_le, Decidable.not_not, Int.sub_neg]
    exact hl 8 0 _ _ (by omega)
  have hv : ∀ (d k : Nat) (x2 x3 x4 : Option mmV) (M1 : mmM), k + d = 64 → (∀ o', o' ≠ 74 → M1 o' = M o') → (∀ j : Int, 0 ≤ j → j < 8 → M1 74 j = mdS (M 73) k j) → J 23 [some (vr 62), some (vi k), x2, x3, x4] [] M1 := by
    intro d
    induction d with
    | zero =>
      intro k x2 x3 x4 M1 hk f1 g1
      have := hcount M1 (some (vi k)) x2 x3 x4 f1 (by rw [show (64 : Nat) = k by omega]; exact g1)
      refine hJ 23 _ _ _ (show mm_wp _ _ _ mo_M_parts_23 _ _ _ from ?_)
      simp only [mo_M_parts_23, mm_wp, mm_ldi, mm_lda, mm_ldl, mm_sti, mm_sta, mm_stl, mm_inc, mm_2i, mm_mm, mm_2l, mm_lcmp, mm_i2l, mm_l2i, mm_cast8, mm_if1, mm_if2, mm_cmp, mm_swi, mm_sw, mm_pop1, mm_dup, mm_dup2, mm_geti, mm_geta, mm_puti, mm_iald, mm_bald, mm_aald, mm_iast, mm_bast, mm_alen, mm_acpy, mm_call, mm_callv, mm_recv, mm_pop, mm_find, mm_push, mm_cats, mm_cat, mm_reti, mm_retz, mm_retl, mm_reta, mm_retv, mm_set1, mm_set2, mm_kill, List.getElem?_cons_zero, List.getElem?_cons_succ, Int.reduceToNat, ↓reduceIte, Nat.reduceEqDiff, Nat.reduceDiv, Nat.reduceAdd, Nat.reduceLeDiff, Nat.zero_le, true_and, and_true, true_or, or_true, mm_b0, mm_b1, mm_lc_lt, mm_lc_le, mm_lc_gt, mm_lc_ge, mm_lc_eq, Int.not_lt, Int.not_le, Decidable.not_not, Int.sub_neg]
      exact ⟨fun _ => this, fun z => by omega⟩
    | succ d ih =>
      intro k x2 x3 x4 M1 hk f1 g1
      have e73 : M1 73 = M 73 := f1 73 (by decide)
      have d1 : Int.tdiv (k : Int) 8 = (k : Int) / 8 := Int.tdiv_eq_ediv_of_nonneg (by omega)
      have d2 : Int.tmod (k : Int) 8 = (k : Int) % 8 := Int.tmod_eq_emod_of_nonneg (by omega)
      have ga := g1 ((k : Int) / 8) (by omega) (by omega)
      have gb := g1 ((k : Int) % 8) (by omega) (by omega)
      have h103 : ∀ (x2 x3 x4 : Option mmV) (M2 : mmM), (∀ o', o' ≠ 74 → M2 o' = M o') → (∀ j : Int, 0 ≤ j → j < 8 → M2 74 j = mdS (M 73) (k + 1) j) → J 103 [some (vr 62), some (vi k), x2, x3, x4] [] M2 := by
        intro x2 x3 x4 M2 f2 g2
        refine hJ 103 _ _ _ (show mm_wp _ _ _ mo_M_parts_103 _ _ _ from ?_)
        simp only [mo_M_parts_103, mm_wp, mm_ldi, mm_lda, mm_ldl, mm_sti, mm_sta, mm_stl, mm_inc, mm_2i, mm_mm, mm_2l, mm_lcmp, mm_i2l, mm_l2i, mm_cast8, mm_if1, mm_if2, mm_cmp, mm_swi, mm_sw, mm_pop1, mm_dup, mm_dup2, mm_geti, mm_geta, mm_puti, mm_iald, mm_bald, mm_aald, mm_iast, mm_bast, mm_alen, mm_acpy, mm_call, mm_callv, mm_recv, mm_pop, mm_find, mm_push, mm_cats, mm_cat, mm_reti, mm_retz, mm_retl, mm_reta, mm_retv, mm_set1, mm_set2, mm_kill, List.getElem?_cons_zero, List.getElem?_cons_succ, Int.reduceToNat, ↓reduceIte, Nat.reduceEqDiff, Nat.reduceDiv, Nat.reduceAdd, Nat.reduceLeDiff, Nat.zero_le, true_and, and_true, true_or, or_true, mm_b0, mm_b1, mm_lc_lt, mm_lc_le, mm_lc_gt, mm_lc_ge, mm_lc_eq, Int.not_lt, Int.not_le, Decidable.not_not, Int.sub_neg]
        exact ⟨by omega, ih (k + 1) _ _ _ M2 (by omega) f2 g2⟩
      have hin : 0 < M 73 k → ∀ (d2 j : Nat) (M2 : mmM), j + d2 = 8 → (∀ o', o' ≠ 74 → M2 o' = M o') → (∀ i : Int, 0 ≤ i → i < 8 → M2 74 i = if i < (j : Int) then mdS (M 73) (k + 1) i else mdS (M 73) k i) → J 52 [some (vr 62), some (vi k), some (vi (mdS (M 73) k ((k : Int) / 8))), some (vi (mdS (M 73) k ((k : Int) % 8))), some (vi j)] [] M2 := by
        intro hpos d2
        have em : ∀ i, mdS (M 73) (k + 1) i = mj (mdS (M 73) k) ((k : Int) / 8) ((k : Int) % 8) i := fun i => by simp only [mdS]; rw [if_pos hpos]
        induction d2 with
        | zero =>
          intro j M2 hj f2 g2
          have := h103 (some (vi (mdS (M 73) k ((k : Int) / 8)))) (some (vi (mdS (M 73) k ((k : Int) % 8)))) (some (vi j)) M2 f2 (fun i i0 i1 => by rw [g2 i i0 i1, if_pos (by omega)])
          refine hJ 52 _ _ _ (show mm_wp _ _ _ mo_M_parts_52 _ _ _ from ?_)
          simp only [mo_M_parts_52, mm_wp, mm_ldi, mm_lda, mm_ldl, mm_sti, mm_sta, mm_stl, mm_inc, mm_2i, mm_mm, mm_2l, mm_lcmp, mm_i2l, mm_l2i, mm_cast8, mm_if1, mm_if2, mm_cmp, mm_swi, mm_sw, mm_pop1, mm_dup, mm_dup2, mm_geti, mm_geta, mm_puti, mm_iald, mm_bald, mm_aald, mm_iast, mm_bast, mm_alen, mm_acpy, mm_call, mm_callv, mm_recv, mm_pop, mm_find, mm_push, mm_cats, mm_cat, mm_reti, mm_retz, mm_retl, mm_reta, mm_retv, mm_set1, mm_set2, mm_kill, List.getElem?_cons_zero, List.getElem?_cons_succ, Int.reduceToNat, ↓reduceIte, Nat.reduceEqDiff, Nat.reduceDiv, Nat.reduceAdd, Nat.reduceLeDiff, Nat.zero_le, true_and, and_true, true_or, or_true, mm_b0, mm_b1, mm_lc_lt, mm_lc_le, mm_lc_gt, mm_lc_ge, mm_lc_eq, Int.not_lt, Int.not_le, Decidable.not_not, Int.sub_neg]
          exact ⟨fun _ => this, fun z => by omega⟩
        | succ d2 ih2 =>
          intro j M2 hj f2 g2
          have e2 : M2 73 = M 73 := f2 73 (by decide)
          have gj := g2 j (by omega) (by omega)
          rw [if_neg (by omega)] at gj
          have h96 : ∀ z, z = mdS (M 73) (k + 1) j → J 96 [some (vr 62), some (vi k), some (vi (mdS (M 73) k ((k : Int) / 8))), some (vi (mdS (M 73) k ((k : Int) % 8))), some (vi j)] [vi z, vi j, vr 74] M2 := by
            intro z hz
            refine hJ 96 _ _ _ (show mm_wp _ _ _ mo_M_parts_96 _ _ _ from ?_)
            simp only [mo_M_parts_96, mm_wp, mm_ldi, mm_lda, mm_ldl, mm_sti, mm_sta, mm_stl, mm_inc, mm_2i, mm_mm, mm_2l, mm_lcmp, mm_i2l, mm_l2i, mm_cast8, mm_if1, mm_if2, mm_cmp, mm_swi, mm_sw, mm_pop1, mm_dup, mm_dup2, mm_geti, mm_geta, mm_puti, mm_iald, mm_bald, mm_aald, mm_iast, mm_bast, mm_alen, mm_acpy, mm_call, mm_callv, mm_recv, mm_pop, mm_find, mm_push, mm_cats, mm_cat, mm_reti, mm_retz, mm_retl, mm_reta, mm_retv, mm_set1, mm_set2, mm_kill, List.getElem?_cons_zero, List.getElem?_cons_succ, Int.reduceToNat, ↓reduceIte, Nat.reduceEqDiff, Nat.reduceDiv, Nat.reduceAdd, Nat.reduceLeDiff, Nat.zero_le, true_and, and_true, true_or, or_true, mm_b0, mm_b1, mm_lc_lt, mm_lc_le, mm_lc_gt, mm_lc_ge, mm_lc_eq, Int.not_lt, Int.not_le, Decidable.not_not, Int.sub_neg, c_0, c_1, c_2, l_2, c_3, c_4, l_4, c_5, l_5, c_6, l_6, c_7, l_7, c_8, c_9, l_9, c_10, l_10, c_11, l_11, c_12, l_12, c_13, c_14, l_14, c_15, l_15, c_16, l_16, c_17, l_17, c_18, c_19, l_19, c_20, l_20, c_21, l_21, c_22, l_22, c_23, c_24, l_24, c_25, l_25, c_26, c_27, c_28, l_28, c_29, c_30, l_30, c_31, c_32, l_32, c_33, l_33, c_34, l_34, c_35, l_35, c_36, l_36, c_37, l_37, c_38, l_38, c_39, l_39, c_40, c_41, l_41, c_42, c_43, c_44, l_44, c_45, c_46, l_46, c_47, c_48, l_48, c_49, l_49, c_50, l_50, c_51, l_51, c_52, l_52, c_53, l_53, c_54, l_54, c_55, l_55, c_56, l_56, c_57, l_57, c_58, l_58, c_59, l_59, c_60, l_60, c_61, l_61, c_62, c_63, l_63, c_64, l_64, c_65, l_65, c_66, l_66, c_67, l_67, c_68, l_68, c_69, l_69, c_70, l_70, c_71, l_71, c_72, l_72, c_73, l_73, c_74, l_74, c_75, l_75, c_76, l_76]
            refine ⟨by omega, by omega, ih2 (j + 1) _ (by omega) (fun o' c => by rw [mm_up_o _ _ c, f2 o' c]) (fun i i0 i1 => ?_)⟩
            rw [mm_up_if]
            by_cases c : i = j
            · rw [if_pos c, if_pos (by omega), hz, c]
            · rw [if_neg c, g2 i i0 i1]
              by_cases c2 : i < (j : Int)
              · rw [if_pos c2, if_pos (by omega)]
              · rw [if_neg c2, if_neg (by omega)]
          have h89 : ¬ mdS (M 73) k j = mdS (M 73) k ((k : Int) / 8) → J 89 [some (vr 62), some (vi k), some (vi (mdS (M 73) k ((k : Int) / 8))), some (vi (mdS (M 73) k ((k : Int) % 8))), some (vi j)] [vi j, vr 74] M2 := by
            intro hne
            refine hJ 89 _ _ _ (show mm_wp _ _ _ mo_M_parts_89 _ _ _ from ?_)
            simp only [mo_M_parts_89, mm_wp, mm_ldi, mm_lda, mm_ldl, mm_sti, mm_sta, mm_stl, mm_inc, mm_2i, mm_mm, mm_2l, mm_lcmp, mm_i2l, mm_l2i, mm_cast8, mm_if1, mm_if2, mm_cmp, mm_swi, mm_sw, mm_pop1, mm_dup, mm_dup2, mm_geti, mm_geta, mm_puti, mm_iald, mm_bald, mm_aald, mm_iast, mm_bast, mm_alen, mm_acpy, mm_call, mm_callv, mm_recv, mm_pop, mm_find, mm_push, mm_cats, mm_cat, mm_reti, mm_retz, mm_retl, mm_reta, mm_retv, mm_set1, mm_set2, mm_kill, List.getElem?_cons_zero, List.getElem?_cons_succ, Int.reduceToNat, ↓reduceIte, Nat.reduceEqDiff, Nat.reduceDiv, Nat.reduceAdd, Nat.reduceLeDiff, Nat.zero_le, true_and, and_true, true_or, or_true, mm_b0, mm_b1, mm_lc_lt, mm_lc_le, mm_lc_gt, mm_lc_ge, mm_lc_eq, Int.not_lt, Int.not_le, Decidable.not_not, Int.sub_neg, c_0, c_1, c_2, l_2, c_3, c_4, l_4, c_5, l_5, c_6, l_6, c_7, l_7, c_8, c_9, l_9, c_10, l_10, c_11, l_11, c_12, l_12, c_13, c_14, l_14, c_15, l_15, c_16, l_16, c_17, l_17, c_18, c_19, l_19, c_20, l_20, c_21, l_21, c_22, l_22, c_23, c_24, l_24, c_25, l_25, c_26, c_27, c_28, l_28, c_29, c_30, l_30, c_31, c_32, l_32, c_33, l_33, c_34, l_34, c_35, l_35, c_36, l_36, c_37, l_37, c_38, l_38, c_39, l_39, c_40, c_41, l_41, c_42, c_43, c_44, l_44, c_45, c_46, l_46, c_47, c_48, l_48, c_49, l_49, c_50, l_50, c_51, l_51, c_52, l_52, c_53, l_53, c_54, l_54, c_55, l_55, c_56, l_56, c_57, l_57, c_58, l_58, c_59, l_59, c_60, l_60, c_61, l_61, c_62, c_63, l_63, c_64, l_64, c_65, l_65, c_66, l_66, c_67, l_67, c_68, l_68, c_69, l_69, c_70, l_70, c_71, l_71, c_72, l_72, c_73, l_73, c_74, l_74, c_75, l_75, c_76, l_76, gj]
            refine ⟨by omega, h96 _ ?_⟩
            rw [em]
            unfold mj
            rw [if_neg hne]
          refine hJ 52 _ _ _ (show mm_wp _ _ _ mo_M_parts_52 _ _ _ from ?_)
          simp only [mo_M_parts_52, mm_wp, mm_ldi, mm_lda, mm_ldl, mm_sti, mm_sta, mm_stl, mm_inc, mm_2i, mm_mm, mm_2l, mm_lcmp, mm_i2l, mm_l2i, mm_cast8, mm_if1, mm_if2, mm_cmp, mm_swi, mm_sw, mm_pop1, mm_dup, mm_dup2, mm_geti, mm_geta, mm_puti, mm_iald, mm_bald, mm_aald, mm_iast, mm_bast, mm_alen, mm_acpy, mm_call, mm_callv, mm_recv, mm_pop, mm_find, mm_push, mm_cats, mm_cat, mm_reti, mm_retz, mm_retl, mm_reta, mm_retv, mm_set1, mm_set2, mm_kill, List.getElem?_cons_zero, List.getElem?_cons_succ, Int.reduceToNat, ↓reduceIte, Nat.reduceEqDiff, Nat.reduceDiv, Nat.reduceAdd, Nat.reduceLeDiff, Nat.zero_le, true_and, and_true, true_or, or_true, mm_b0, mm_b1, mm_lc_lt, mm_lc_le, mm_lc_gt, mm_lc_ge, mm_lc_eq, Int.not_lt, Int.not_le, Decidable.not_not, Int.sub_neg, c_0, c_1, c_2, l_2, c_3, c_4, l_4, c_5, l_5, c_6, l_6, c_7, l_7, c_8, c_9, l_9, c_10, l_10, c_11, l_11, c_12, l_12, c_13, c_14, l_14, c_15, l_15, c_16, l_16, c_17, l_17, c_18, c_19, l_19, c_20, l_20, c_21, l_21, c_22, l_22, c_23, c_24, l_24, c_25, l_25, c_26, c_27, c_28, l_28, c_29, c_30, l_30, c_31, c_32, l_32, c_33, l_33, c_34, l_34, c_35, l_35, c_36, l_36, c_37, l_37, c_38, l_38, c_39, l_39, c_40, c_41, l_41, c_42, c_43, c_44, l_44, c_45, c_46, l_46, c_47, c_48, l_48, c_49, l_49, c_50, l_50, c_51, l_51, c_52, l_52, c_53, l_53, c_54, l_54, c_55, l_55, c_56, l_56, c_57, l_57, c_58, l_58, c_59, l_59, c_60, l_60, c_61, l_61, c_62, c_63, l_63, c_64, l_64, c_65, l_65, c_66, l_66, c_67, l_67, c_68, l_68, c_69, l_69, c_70, l_70, c_71, l_71, c_72, l_72, c_73, l_73, c_74, l_74, c_75, l_75, c_76, l_76, e2, gj]
          refine ⟨fun z => by omega, fun _ => ⟨by omega, fun z => by omega, fun _ => ⟨by omega, fun z => h89 z, fun z => h96 _ ?_⟩⟩⟩
          rw [em]
          unfold mj
          rw [if_pos z]
      have h52 : J 52 [some (vr 62), some (vi k), some (vi (mdS (M 73) k ((k : Int) / 8))), some (vi (mdS (M 73) k ((k : Int) % 8))), some (vi 0)] [] M1 := by
        by_cases c : 0 < M 73 k
        · exact hin c 8 0 M1 (by omega) f1 (fun i i0 i1 => by rw [if_neg (by omega)]; exact g1 i i0 i1)
        · have := h103 (some (vi (mdS (M 73) k ((k : Int) / 8)))) (some (vi (mdS (M 73) k ((k : Int) % 8)))) (some (vi 0)) M1 f1 (fun i i0 i1 => by simp only [mdS]; rw [if_neg c]; exact g1 i i0 i1)
          refine hJ 52 _ _ _ (show mm_wp _ _ _ mo_M_parts_52 _ _ _ from ?_)
          simp only [mo_M_parts_52, mm_wp, mm_ldi, mm_lda, mm_ldl, mm_sti, mm_sta, mm_stl, mm_inc, mm_2i, mm_mm, mm_2l, mm_lcmp, mm_i2l, mm_l2i, mm_cast8, mm_if1, mm_if2, mm_cmp, mm_swi, mm_sw, mm_pop1, mm_dup, mm_dup2, mm_geti, mm_geta, mm_puti, mm_iald, mm_bald, mm_aald, mm_iast, mm_bast, mm_alen, mm_acpy, mm_call, mm_callv, mm_recv, mm_pop, mm_find, mm_push, mm_cats, mm_cat, mm_reti, mm_retz, mm_retl, mm_reta, mm_retv, mm_set1, mm_set2, mm_kill, List.getElem?_cons_zero, List.getElem?_cons_succ, Int.reduceToNat, ↓reduceIte, Nat.reduceEqDiff, Nat.reduceDiv, Nat.reduceAdd, Nat.reduceLeDiff, Nat.zero_le, true_and, and_true, true_or, or_true, mm_b0, mm_b1, mm_lc_lt, mm_lc_le, mm_lc_gt, mm_lc_ge, mm_lc_eq, Int.not_lt, Int.not_le, Decidable.not_not, Int.sub_neg, c_0, c_1, c_2, l_2, c_3, c_4, l_4, c_5, l_5, c_6, l_6, c_7, l_7, c_8, c_9, l_9, c_10, l_10, c_11, l_11, c_12, l_12, c_13, c_14, l_14, c_15, l_15, c_16, l_16, c_17, l_17, c_18, c_19, l_19, c_20, l_20, c_21, l_21, c_22, l_22, c_23, c_24, l_24, c_25, l_25, c_26, c_27, c_28, l_28, c_29, c_30, l_30, c_31, c_32, l_32, c_33, l_33, c_34, l_34, c_35, l_35, c_36, l_36, c_37, l_37, c_38, l_38, c_39, l_39, c_40, c_41, l_41, c_42, c_43, c_44, l_44, c_45, c_46, l_46, c_47, c_48, l_48, c_49, l_49, c_50, l_50, c_51, l_51, c_52, l_52, c_53, l_53, c_54, l_54, c_55, l_55, c_56, l_56, c_57, l_57, c_58, l_58, c_59, l_59, c_60, l_60, c_61, l_61, c_62, c_63, l_63, c_64, l_64, c_65, l_65, c_66, l_66, c_67, l_67, c_68, l_68, c_69, l_69, c_70, l_70, c_71, l_71, c_72, l_72, c_73, l_73, c_74, l_74, c_75, l_75, c_76, l_76, e73]
          exact ⟨fun _ => this, fun _ => ⟨by omega, fun _ => this, fun z => by omega⟩⟩
      refine hJ 23 _ _ _ (show mm_wp _ _ _ mo_M_parts_23 _ _ _ from ?_)
      simp only [mo_M_parts_23, mm_wp, mm_ldi, mm_lda, mm_ldl, mm_sti, mm_sta, mm_stl, mm_inc, mm_2i, mm_mm, mm_2l, mm_lcmp, mm_i2l, mm_l2i, mm_cast8, mm_if1, mm_if2, mm_cmp, mm_swi, mm_sw, mm_pop1, mm_dup, mm_dup2, mm_geti, mm_geta, mm_puti, mm_iald, mm_bald, mm_aald, mm_iast, mm_bast, mm_alen, mm_acpy, mm_call, mm_callv, mm_recv, mm_pop, mm_find, mm_push, mm_cats, mm_cat, mm_reti, mm_retz, mm_retl, mm_reta, mm_retv, mm_set1, mm_set2, mm_kill, List.getElem?_cons_zero, List.getElem?_cons_succ, Int.reduceToNat, ↓reduceIte, Nat.reduceEqDiff, Nat.reduceDiv, Nat.reduceAdd, Nat.reduceLeDiff, Nat.zero_le, true_and, and_true, true_or, or_true, mm_b0, mm_b1, mm_lc_lt, mm_lc_le, mm_lc_gt, mm_lc_ge, mm_lc_eq, Int.not_lt, Int.not_le, Decidable.not_not, Int.sub_neg, c_0, c_1, c_2, l_2, c_3, c_4, l_4, c_5, l_5, c_6, l_6, c_7, l_7, c_8, c_9, l_9, c_10, l_10, c_11, l_11, c_12, l_12, c_13, c_14, l_14, c_15, l_15, c_16, l_16, c_17, l_17, c_18, c_19, l_19, c_20, l_20, c_21, l_21, c_22, l_22, c_23, c_24, l_24, c_25, l_25, c_26, c_27, c_28, l_28, c_29, c_30, l_30, c_31, c_32, l_32, c_33, l_33, c_34, l_34, c_35, l_35, c_36, l_36, c_37, l_37, c_38, l_38, c_39, l_39, c_40, c_41, l_41, c_42, c_43, c_44, l_44, c_45, c_46, l_46, c_47, c_48, l_48, c_49, l_49, c_50, l_50, c_51, l_51, c_52, l_52, c_53, l_53, c_54, l_54, c_55, l_55, c_56, l_56, c_57, l_57, c_58, l_58, c_59, l_59, c_60, l_60, c_61, l_61, c_62, c_63, l_63, c_64, l_64, c_65, l_65, c_66, l_66, c_67, l_67, c_68, l_68, c_69, l_69, c_70, l_70, c_71, l_71, c_72, l_72, c_73, l_73, c_74, l_74, c_75, l_75, c_76, l_76, d1, d2, ga, gb]
      exact ⟨fun z => by omega, fun _ => ⟨by omega, by omega, by omega, by omega, h52⟩⟩
  have hl0 : ∀ (d k : Nat) (M1 : mmM), k + d = 8 → (∀ o', o' ≠ 74 → M1 o' = M o') → (∀ j, 0 ≤ j → j < (k : Int) → M1 74 j = j) → J 2 [some (vr 62), some (vi k), none, none, none] [] M1 := by
    intro d
    induction d with
    | zero =>
      intro k M1 hk f1 g1
      have h21 : J 21 [some (vr 62), some (vi k), none, none, none] [] M1 := by
        refine hJ 21 _ _ _ (show mm_wp _ _ _ mo_M_parts_21 _ _ _ from ?_)
        simp only [mo_M_parts_21, mm_wp, mm_ldi, mm_lda, mm_ldl, mm_sti, mm_sta, mm_stl, mm_inc, mm_2i, mm_mm, mm_2l, mm_lcmp, mm_i2l, mm_l2i, mm_cast8, mm_if1, mm_if2, mm_cmp, mm_swi, mm_sw, mm_pop1, mm_dup, mm_dup2, mm_geti, mm_geta, mm_puti, mm_iald, mm_bald, mm_aald, mm_iast, mm_bast, mm_alen, mm_acpy, mm_call, mm_callv, mm_recv, mm_pop, mm_find, mm_push, mm_cats, mm_cat, mm_reti, mm_retz, mm_retl, mm_reta, mm_retv, mm_set1, mm_set2, mm_kill, List.getElem?_cons_zero, List.getElem?_cons_succ, Int.reduceToNat, ↓reduceIte, Nat.reduceEqDiff, Nat.reduceDiv, Nat.reduceAdd, Nat.reduceLeDiff, Nat.zero_le, true_and, and_true, true_or, or_true, mm_b0, mm_b1, mm_lc_lt, mm_lc_le, mm_lc_gt, mm_lc_ge, mm_lc_eq, Int.not_lt, Int.not_le, Decidable.not_not, Int.sub_neg]
        exact hv 64 0 _ _ _ M1 (by omega) f1 (fun j j0 j1 => g1 j j0 (by omega))
      refine hJ 2 _ _ _ (show mm_wp _ _ _ mo_M_parts_2 _ _ _ from ?_)
      simp only [mo_M_parts_2, mm_wp, mm_ldi, mm_lda, mm_ldl, mm_sti, mm_sta, mm_stl, mm_inc, mm_2i, mm_mm, mm_2l, mm_lcmp, mm_i2l, mm_l2i, mm_cast8, mm_if1, mm_if2, mm_cmp, mm_swi, mm_sw, mm_pop1, mm_dup, mm_dup2, mm_geti, mm_geta, mm_puti, mm_iald, mm_bald, mm_aald, mm_iast, mm_bast, mm_alen, mm_acpy, mm_call, mm_callv, mm_recv, mm_pop, mm_find, mm_push, mm_cats, mm_cat, mm_reti, mm_retz, mm_retl, mm_reta, mm_retv, mm_set1, mm_set2, mm_kill, List.getElem?_cons_zero, List.getElem?_cons_succ, Int.reduceToNat, ↓reduceIte, Nat.reduceEqDiff, Nat.reduceDiv, Nat.reduceAdd, Nat.reduceLeDiff, Nat.zero_le, true_and, and_true, true_or, or_true, mm_b0, mm_b1, mm_lc_lt, mm_lc_le, mm_lc_gt, mm_lc_ge, mm_lc_eq, Int.not_lt, Int.not_le, Decidable.not_not, Int.sub_neg]
      exact ⟨fun _ => h21, fun z => by omega⟩
    | succ d ih =>
      intro k M1 hk f1 g1
      refine hJ 2 _ _ _ (show mm_wp _ _ _ mo_M_parts_2 _ _ _ from ?_)
      simp only [mo_M_parts_2, mm_wp, mm_ldi, mm_lda, mm_ldl, mm_sti, mm_sta, mm_stl, mm_inc, mm_2i, mm_mm, mm_2l, mm_lcmp, mm_i2l, mm_l2i, mm_cast8, mm_if1, mm_if2, mm_cmp, mm_swi, mm_sw, mm_pop1, mm_dup, mm_dup2, mm_geti, mm_geta, mm_puti, mm_iald, mm_bald, mm_aald, mm_iast, mm_bast, mm_alen, mm_acpy, mm_call, mm_callv, mm_recv, mm_pop, mm_find, mm_push, mm_cats, mm_cat, mm_reti, mm_retz, mm_retl, mm_reta, mm_retv, mm_set1, mm_set2, mm_kill, List.getElem?_cons_zero, List.getElem?_cons_succ, Int.reduceToNat, ↓reduceIte, Nat.reduceEqDiff, Nat.reduceDiv, Nat.reduceAdd, Nat.reduceLeDiff, Nat.zero_le, true_and, and_true, true_or, or_true, mm_b0, mm_b1, mm_lc_lt, mm_lc_le, mm_lc_gt, mm_lc_ge, mm_lc_eq, Int.not_lt, Int.not_le, Decidable.not_not, Int.sub_neg, c_0, c_1, c_2, l_2, c_3, c_4, l_4, c_5, l_5, c_6, l_6, c_7, l_7, c_8, c_9, l_9, c_10, l_10, c_11, l_11, c_12, l_12, c_13, c_14, l_14, c_15, l_15, c_16, l_16, c_17, l_17, c_18, c_19, l_19, c_20, l_20, c_21, l_21, c_22, l_22, c_23, c_24, l_24, c_25, l_25, c_26, c_27, c_28, l_28, c_29, c_30, l_30, c_31, c_32, l_32, c_33, l_33, c_34, l_34, c_35, l_35, c_36, l_36, c_37, l_37, c_38, l_38, c_39, l_39, c_40, c_41, l_41, c_42, c_43, c_44, l_44, c_45, c_46, l_46, c_47, c_48, l_48, c_49, l_49, c_50, l_50, c_51, l_51, c_52, l_52, c_53, l_53, c_54, l_54, c_55, l_55, c_56, l_56, c_57, l_57, c_58, l_58, c_59, l_59, c_60, l_60, c_61, l_61, c_62, c_63, l_63, c_64, l_64, c_65, l_65, c_66, l_66, c_67, l_67, c_68, l_68, c_69, l_69, c_70, l_70, c_71, l_71, c_72, l_72, c_73, l_73, c_74, l_74, c_75, l_75, c_76, l_76]
      refine ⟨fun z => by omega, fun _ => ⟨by omega, by omega, ih (k + 1) _ (by omega) (fun o' c => by rw [mm_up_o _ _ c, f1 o' c]) (fun j j0 j1 => ?_)⟩⟩
      rw [mm_up_if]
      split
      · omega
      · exact g1 j j0 (by omega)
  refine hJ 0 _ _ _ (show mm_wp _ _ _ mo_M_parts_0 _ _ _ from ?_)
  simp only [mo_M_parts_0, mm_wp, mm_ldi, mm_lda, mm_ldl, mm_sti, mm_sta, mm_stl, mm_inc, mm_2i, mm_mm, mm_2l, mm_lcmp, mm_i2l, mm_l2i, mm_cast8, mm_if1, mm_if2, mm_cmp, mm_swi, mm_sw, mm_pop1, mm_dup, mm_dup2, mm_geti, mm_geta, mm_puti, mm_iald, mm_bald, mm_aald, mm_iast, mm_bast, mm_alen, mm_acpy, mm_call, mm_callv, mm_recv, mm_pop, mm_find, mm_push, mm_cats, mm_cat, mm_reti, mm_retz, mm_retl, mm_reta, mm_retv, mm_set1, mm_set2, mm_kill, List.getElem?_cons_zero, List.getElem?_cons_succ, Int.reduceToNat, ↓reduceIte, Nat.reduceEqDiff, Nat.reduceDiv, Nat.reduceAdd, Nat.reduceLeDiff, Nat.zero_le, true_and, and_true, true_or, or_true, mm_b0, mm_b1, mm_lc_lt, mm_lc_le, mm_lc_gt, mm_lc_ge, mm_lc_eq, Int.not_lt, Int.not_le, Decidable.not_not, Int.sub_neg]
  exact hl0 8 0 M (by omega) (fun _ _ => rfl) (fun j j0 j1 => by omega)
def t_M_most : mmT := fun as M Q => match as with
  | [.inr (.inr o)] => o = 62 ∧ Q (some (vi (amx (M 73) 63))) M
  | _ => False
set_option maxHeartbeats 4000000 in
set_option maxRecDepth 100000 in
theorem p_M_most : ∀ as M Q, (∀ v ∈ as, mm_vin v) → mm_mem M → t_M_most as M Q → (mm_ent as).length ≤ 3 ∧ mm_ok mb_M_most [] (mm_entry 3 as) M Q := by
  intro as M Q hin hM h
  unfold t_M_most at h
  split at h
  rotate_left
  · exact h.elim
  rename_i o
  refine ⟨by simp [mm_ent], (show mm_ok mb_M_most [] [some (vr o), none, none] M Q from ?_)⟩
  intro J hJ
  obtain ⟨rfl, h⟩ := h
  have hl : ∀ (d k : Nat), k + d = 63 → J 4 [some (vr 62), some (vi (amx (M 73) k)), some (vi ((k + 1 : Nat) : Int))] [] M := by
    intro d
    induction d with
    | zero =>
      intro k hk
      have h37 : J 37 [some (vr 62), some (vi (amx (M 73) k)), some (vi ((k + 1 : Nat) : Int))] [] M := by
        refine hJ 37 _ _ _ (show mm_wp _ _ _ mo_M_most_37 _ _ _ from ?_)
        simp only [mo_M_most_37, mm_wp, mm_ldi, mm_lda, mm_ldl, mm_sti, mm_sta, mm_stl, mm_inc, mm_2i, mm_mm, mm_2l, mm_lcmp, mm_i2l, mm_l2i, mm_cast8, mm_if1, mm_if2, mm_cmp, mm_swi, mm_sw, mm_pop1, mm_dup, mm_dup2, mm_geti, mm_geta, mm_puti, mm_iald, mm_bald, mm_aald, mm_iast, mm_bast, mm_alen, mm_acpy, mm_call, mm_callv, mm_recv, mm_pop, mm_find, mm_push, mm_cats, mm_cat, mm_reti, mm_retz, mm_retl, mm_reta, mm_retv, mm_set1, mm_set2, mm_kill, List.getElem?_cons_zero, List.getElem?_cons_succ, Int.reduceToNat, ↓reduceIte, Nat.reduceEqDiff, Nat.reduceDiv, Nat.reduceAdd, Nat.reduceLeDiff, Nat.zero_le, true_and, and_true, true_or, or_true, mm_b0, mm_b1, mm_lc_lt, mm_lc_le, mm_lc_gt, mm_lc_ge, mm_lc_eq, Int.not_lt, Int.not_le, Decidable.not_not, Int.sub_neg]
        rw [show k = 63 by omega]; exact h
      refine hJ 4 _ _ _ (show mm_wp _ _ _ mo_M_most_4 _ _ _ from ?_)
      simp only [mo_M_most_4, mm_wp, mm_ldi, mm_lda, mm_ldl, mm_sti, mm_sta, mm_stl, mm_inc, mm_2i, mm_mm, mm_2l, mm_lcmp, mm_i2l, mm_l2i, mm_cast8, mm_if1, mm_if2, mm_cmp, mm_swi, mm_sw, mm_pop1, mm_dup, mm_dup2, mm_geti, mm_geta, mm_puti, mm_iald, mm_bald, mm_aald, mm_iast, mm_bast, mm_alen, mm_acpy, mm_call, mm_callv, mm_recv, mm_pop, mm_find, mm_push, mm_cats, mm_cat, mm_reti, mm_retz, mm_retl, mm_reta, mm_retv, mm_set1, mm_set2, mm_kill, List.getElem?_cons_zero, List.getElem?_cons_succ, Int.reduceToNat, ↓reduceIte, Nat.reduceEqDiff, Nat.reduceDiv, Nat.reduceAdd, Nat.reduceLeDiff, Nat.zero_le, true_and, and_true, true_or, or_true, mm_b0, mm_b1, mm_lc_lt, mm_lc_le, mm_lc_gt, mm_lc_ge, mm_lc_eq, Int.not_lt, Int.not_le, Decidable.not_not, Int.sub_neg]
      exact ⟨fun _ => h37, fun z => by omega⟩
    | succ d ih =>
      intro k hk
      have hb := amx_b (M 73) k
      have h30 : ∀ x z, z = amx (M 73) (k + 1) → J 30 [some (vr 62), some (vi x), some (vi ((k + 1 : Nat) : Int))] [vi z] M := by
        intro x z hz
        refine hJ 30 _ _ _ (show mm_wp _ _ _ mo_M_most_30 _ _ _ from ?_)
        simp only [mo_M_most_30, mm_wp, mm_ldi, mm_lda, mm_ldl, mm_sti, mm_sta, mm_stl, mm_inc, mm_2i, mm_mm, mm_2l, mm_lcmp, mm_i2l, mm_l2i, mm_cast8, mm_if1, mm_if2, mm_cmp, mm_swi, mm_sw, mm_pop1, mm_dup, mm_dup2, mm_geti, mm_geta, mm_puti, mm_iald, mm_bald, mm_aald, mm_iast, mm_bast, mm_alen, mm_acpy, mm_call, mm_callv, mm_recv, mm_pop, mm_find, mm_push, mm_cats, mm_cat, mm_reti, mm_retz, mm_retl, mm_reta, mm_retv, mm_set1, mm_set2, mm_kill, List.getElem?_cons_zero, List.getElem?_cons_succ, Int.reduceToNat, ↓reduceIte, Nat.reduceEqDiff, Nat.reduceDiv, Nat.reduceAdd, Nat.reduceLeDiff, Nat.zero_le, true_and, and_true, true_or, or_true, mm_b0, mm_b1, mm_lc_lt, mm_lc_le, mm_lc_gt, mm_lc_ge, mm_lc_eq, Int.not_lt, Int.not_le, Decidable.not_not, Int.sub_neg]
        rw [hz, show ((k + 1 : Nat) : Int) + 1 = ((k + 1 + 1 : Nat) : Int) by omega]
        exact ⟨by omega, ih (k + 1) (by omega)⟩
      have h29 : ¬ M 73 (amx (M 73) k) < M 73 ((k + 1 : Nat) : Int) → J 29 [some (vr 62), some (vi (amx (M 73) k)), some (vi ((k + 1 : Nat) : Int))] [] M := by
        intro hz
        refine hJ 29 _ _ _ (show mm_wp _ _ _ mo_M_most_29 _ _ _ from ?_)
        simp only [mo_M_most_29, mm_wp, mm_ldi, mm_lda, mm_ldl, mm_sti, mm_sta, mm_stl, mm_inc, mm_2i, mm_mm, mm_2l, mm_lcmp, mm_i2l, mm_l2i, mm_cast8, mm_if1, mm_if2, mm_cmp, mm_swi, mm_sw, mm_pop1, mm_dup, mm_dup2, mm_geti, mm_geta, mm_puti, mm_iald, mm_bald, mm_aald, mm_iast, mm_bast, mm_alen, mm_acpy, mm_call, mm_callv, mm_recv, mm_pop, mm_find, mm_push, mm_cats, mm_cat, mm_reti, mm_retz, mm_retl, mm_reta, mm_retv, mm_set1, mm_set2, mm_kill, List.getElem?_cons_zero, List.getElem?_cons_succ, Int.reduceToNat, ↓reduceIte, Nat.reduceEqDiff, Nat.reduceDiv, Nat.reduceAdd, Nat.reduceLeDiff, Nat.zero_le, true_and, and_true, true_or, or_true, mm_b0, mm_b1, mm_lc_lt, mm_lc_le, mm_lc_gt, mm_lc_ge, mm_lc_eq, Int.not_lt, Int.not_le, Decidable.not_not, Int.sub_neg]
        exact h30 _ _ (by simp only [amx]; rw [if_neg hz])
      refine hJ 4 _ _ _ (show mm_wp _ _ _ mo_M_most_4 _ _ _ from ?_)
      simp only [mo_M_most_4, mm_wp, mm_ldi, mm_lda, mm_ldl, mm_sti, mm_sta, mm_stl, mm_inc, mm_2i, mm_mm, mm_2l, mm_lcmp, mm_i2l, mm_l2i, mm_cast8, mm_if1, mm_if2, mm_cmp, mm_swi, mm_sw, mm_pop1, mm_dup, mm_dup2, mm_geti, mm_geta, mm_puti, mm_iald, mm_bald, mm_aald, mm_iast, mm_bast, mm_alen, mm_acpy, mm_call, mm_callv, mm_recv, mm_pop, mm_find, mm_push, mm_cats, mm_cat, mm_reti, mm_retz, mm_retl, mm_reta, mm_retv, mm_set1, mm_set2, mm_kill, List.getElem?_cons_zero, List.getElem?_cons_succ, Int.reduceToNat, ↓reduceIte, Nat.reduceEqDiff, Nat.reduceDiv, Nat.reduceAdd, Nat.reduceLeDiff, Nat.zero_le, true_and, and_true, true_or, or_true, mm_b0, mm_b1, mm_lc_lt, mm_lc_le, mm_lc_gt, mm_lc_ge, mm_lc_eq, Int.not_lt, Int.not_le, Decidable.not_not, Int.sub_neg, c_0, c_1, c_2, l_2, c_3, c_4, l_4, c_5, l_5, c_6, l_6, c_7, l_7, c_8, c_9, l_9, c_10, l_10, c_11, l_11, c_12, l_12, c_13, c_14, l_14, c_15, l_15, c_16, l_16, c_17, l_17, c_18, c_19, l_19, c_20, l_20, c_21, l_21, c_22, l_22, c_23, c_24, l_24, c_25, l_25, c_26, c_27, c_28, l_28, c_29, c_30, l_30, c_31, c_32, l_32, c_33, l_33, c_34, l_34, c_35, l_35, c_36, l_36, c_37, l_37, c_38, l_38, c_39, l_39, c_40, c_41, l_41, c_42, c_43, c_44, l_44, c_45, c_46, l_46, c_47, c_48, l_48, c_49, l_49, c_50, l_50, c_51, l_51, c_52, l_52, c_53, l_53, c_54, l_54, c_55, l_55, c_56, l_56, c_57, l_57, c_58, l_58, c_59, l_59, c_60, l_60, c_61, l_61, c_62, c_63, l_63, c_64, l_64, c_65, l_65, c_66, l_66, c_67, l_67, c_68, l_68, c_69, l_69, c_70, l_70, c_71, l_71, c_72, l_72, c_73, l_73, c_74, l_74, c_75, l_75, c_76, l_76]
      refine ⟨fun z => by omega, fun _ => ⟨by omega, by omega, fun z => h29 (by omega), fun z => h30 _ _ ?_⟩⟩
      simp only [amx]; rw [if_pos (by omega)]
  refine hJ 0 _ _ _ (show mm_wp _ _ _ mo_M_most_0 _ _ _ from ?_)
  simp only [mo_M_most_0, mm_wp, mm_ldi, mm_lda, mm_ldl, mm_sti, mm_sta, mm_stl, mm_inc, mm_2i, mm_mm, mm_2l, mm_lcmp, mm_i2l, mm_l2i, mm_cast8, mm_if1, mm_if2, mm_cmp, mm_swi, mm_sw, mm_pop1, mm_dup, mm_dup2, mm_geti, mm_geta, mm_puti, mm_iald, mm_bald, mm_aald, mm_iast, mm_bast, mm_alen, mm_acpy, mm_call, mm_callv, mm_recv, mm_pop, mm_find, mm_push, mm_cats, mm_cat, mm_reti, mm_retz, mm_retl, mm_reta, mm_retv, mm_set1, mm_set2, mm_kill, List.getElem?_cons_zero, List.getElem?_cons_succ, Int.reduceToNat, ↓reduceIte, Nat.reduceEqDiff, Nat.reduceDiv, Nat.reduceAdd, Nat.reduceLeDiff, Nat.zero_le, true_and, and_true, true_or, or_true, mm_b0, mm_b1, mm_lc_lt, mm_lc_le, mm_lc_gt, mm_lc_ge, mm_lc_eq, Int.not_lt, Int.not_le, Decidable.not_not, Int.sub_neg]
  exact hl 63 0 rfl
def t_M_lays : mmT := fun as M Q => match as with
  | [.inr (.inr o), .inl f, .inl l, .inl t] => o = 62 ∧ 0 ≤ f ∧ l ≤ 59 ∧ f ≤ l + 1 ∧ 0 ≤ t ∧ t ≤ 32 ∧ (∀ i, f ≤ i → i ≤ l → 0 ≤ ca (M 64) (M 65) (M 66) i t.toNat ∧ ca (M 64) (M 65) (M 66) i t.toNat < 64) ∧ ∀ M', (∀ o', o' ≠ 73 → M' o' = M o') → (∀ v, 0 ≤ v → v < 64 → M' 73 v = hsN (fun i => ca (M 64) (M 65) (M 66) i t.toNat) f v (l - f + 1).toNat) → Q none M'
  | _ => False
set_option maxHeartbeats 4000000 in
set_option maxRecDepth 100000 in
theorem p_M_lays : ∀ as M Q, (∀ v ∈ as, mm_vin v) → mm_mem M → t_M_lays as M Q → (mm_ent as).length ≤ 5 ∧ mm_ok mb_M_lays [(1138, t_M_cellAt)] (mm_entry 5 as) M Q := by
  intro as M Q hin hM h
  unfold t_M_lays at h
  split at h
  rotate_left
  · exact h.elim
  rename_i o f l t
  have hR_f : mm_R f := hin (vi f) (by simp)
  have hR_l : mm_R l := hin (vi l) (by simp)
  have hR_t : mm_R t := hin (vi t) (by simp)
  refine ⟨by simp [mm_ent], (show mm_ok mb_M_lays [(1138, t_M_cellAt)] [some (vr o), some (vi f), some (vi l), some (vi t), none] M Q from ?_)⟩
  intro J hJ
  obtain ⟨rfl, h1, h2, h3, t0, t1, hn, h⟩ := h
  generalize hc : (fun i => ca (M 64) (M 65) (M 66) i t.toNat) = C at h
  have hC : ∀ i, ca (M 64) (M 65) (M 66) i t.toNat = C i := fun i => by rw [← hc]
  have hl : ∀ (d k : Nat) (M1 : mmM), (k : Int) + d = l - f + 1 → (∀ o', o' ≠ 73 → M1 o' = M o') → (∀ v, 0 ≤ v → v < 64 → M1 73 v = hsN C f v k) → J 27 [some (vr 62), some (vi f), some (vi l), some (vi t), some (vi (f + k))] [] M1 := by
    intro d
    induction d with
    | zero =>
      intro k M1 hk a1 b1
      have h55 : J 55 [some (vr 62), some (vi f), some (vi l), some (vi t), some (vi (f + k))] [] M1 := by
        refine hJ 55 _ _ _ (show mm_wp _ _ _ mo_M_lays_55 _ _ _ from ?_)
        simp only [mo_M_lays_55, mm_wp, mm_ldi, mm_lda, mm_ldl, mm_sti, mm_sta, mm_stl, mm_inc, mm_2i, mm_mm, mm_2l, mm_lcmp, mm_i2l, mm_l2i, mm_cast8, mm_if1, mm_if2, mm_cmp, mm_swi, mm_sw, mm_pop1, mm_dup, mm_dup2, mm_geti, mm_geta, mm_puti, mm_iald, mm_bald, mm_aald, mm_iast, mm_bast, mm_alen, mm_acpy, mm_call, mm_callv, mm_recv, mm_pop, mm_find, mm_push, mm_cats, mm_cat, mm_reti, mm_retz, mm_retl, mm_reta, mm_retv, mm_set1, mm_set2, mm_kill, List.getElem?_cons_zero, List.getElem?_cons_succ, Int.reduceToNat, ↓reduceIte, Nat.reduceEqDiff, Nat.reduceDiv, Nat.reduceAdd, Nat.reduceLeDiff, Nat.zero_le, true_and, and_true, true_or, or_true, mm_b0, mm_b1, mm_lc_lt, mm_lc_le, mm_lc_gt, mm_lc_ge, mm_lc_eq, Int.not_lt, Int.not_le, Decidable.not_not, Int.sub_neg]
        exact h M1 a1 (by rw [show (l - f + 1).toNat = k by omega]; exact b1)
      refine hJ 27 _ _ _ (show mm_wp _ _ _ mo_M_lays_27 _ _ _ from ?_)
      simp only [mo_M_lays_27, mm_wp, mm_ldi, mm_lda, mm_ldl, mm_sti, mm_sta, mm_stl, mm_inc, mm_2i, mm_mm, mm_2l, mm_lcmp, mm_i2l, mm_l2i, mm_cast8, mm_if1, mm_if2, mm_cmp, mm_swi, mm_sw, mm_pop1, mm_dup, mm_dup2, mm_geti, mm_geta, mm_puti, mm_iald, mm_bald, mm_aald, mm_iast, mm_bast, mm_alen, mm_acpy, mm_call, mm_callv, mm_recv, mm_pop, mm_find, mm_push, mm_cats, mm_cat, mm_reti, mm_retz, mm_retl, mm_reta, mm_retv, mm_set1, mm_set2, mm_kill, List.getElem?_cons_zero, List.getElem?_cons_succ, Int.reduceToNat, ↓reduceIte, Nat.reduceEqDiff, Nat.reduceDiv, Nat.reduceAdd, Nat.reduceLeDiff, Nat.zero_le, true_and, and_true, true_or, or_true, mm_b0, mm_b1, mm_lc_lt, mm_lc_le, mm_lc_gt, mm_lc_ge, mm_lc_eq, Int.not_lt, Int.not_le, Decidable.not_not, Int.sub_neg]
      exact ⟨fun _ => h55, fun z => by omega⟩
    | succ d ih =>
      intro k M1 hk a1 b1
      have e64 : M1 64 = M 64 := a1 64 (by decide)
      have e65 : M1 65 = M 65 := a1 65 (by decide)
      have e66 : M1 66 = M 66 := a1 66 (by decide)
      have hv := hn (f + k) (by omega) (by omega)
      rw [hC] at hv
      have hb := b1 (C (f + k)) hv.1 hv.2
      have hbb := hsN_b C f (C (f + k)) k
      refine hJ 27 _ _ _ (show mm_wp _ _ _ mo_M_lays_27 _ _ _ from ?_)
      simp only [mo_M_lays_27, mm_wp, mm_ldi, mm_lda, mm_ldl, mm_sti, mm_sta, mm_stl, mm_inc, mm_2i, mm_mm, mm_2l, mm_lcmp, mm_i2l, mm_l2i, mm_cast8, mm_if1, mm_if2, mm_cmp, mm_swi, mm_sw, mm_pop1, mm_dup, mm_dup2, mm_geti, mm_geta, mm_puti, mm_iald, mm_bald, mm_aald, mm_iast, mm_bast, mm_alen, mm_acpy, mm_call, mm_callv, mm_recv, mm_pop, mm_find, mm_push, mm_cats, mm_cat, mm_reti, mm_retz, mm_retl, mm_reta, mm_retv, mm_set1, mm_set2, mm_kill, List.getElem?_cons_zero, List.getElem?_cons_succ, Int.reduceToNat, ↓reduceIte, Nat.reduceEqDiff, Nat.reduceDiv, Nat.reduceAdd, Nat.reduceLeDiff, Nat.zero_le, true_and, and_true, true_or, or_true, mm_b0, mm_b1, mm_lc_lt, mm_lc_le, mm_lc_gt, mm_lc_ge, mm_lc_eq, Int.not_lt, Int.not_le, Decidable.not_not, Int.sub_neg, c_0, c_1, c_2, l_2, c_3, c_4, l_4, c_5, l_5, c_6, l_6, c_7, l_7, c_8, c_9, l_9, c_10, l_10, c_11, l_11, c_12, l_12, c_13, c_14, l_14, c_15, l_15, c_16, l_16, c_17, l_17, c_18, c_19, l_19, c_20, l_20, c_21, l_21, c_22, l_22, c_23, c_24, l_24, c_25, l_25, c_26, c_27, c_28, l_28, c_29, c_30, l_30, c_31, c_32, l_32, c_33, l_33, c_34, l_34, c_35, l_35, c_36, l_36, c_37, l_37, c_38, l_38, c_39, l_39, c_40, c_41, l_41, c_42, c_43, c_44, l_44, c_45, c_46, l_46, c_47, c_48, l_48, c_49, l_49, c_50, l_50, c_51, l_51, c_52, l_52, c_53, l_53, c_54, l_54, c_55, l_55, c_56, l_56, c_57, l_57, c_58, l_58, c_59, l_59, c_60, l_60, c_61, l_61, c_62, c_63, l_63, c_64, l_64, c_65, l_65, c_66, l_66, c_67, l_67, c_68, l_68, c_69, l_69, c_70, l_70, c_71, l_71, c_72, l_72, c_73, l_73, c_74, l_74, c_75, l_75, c_76, l_76, true_or, e64, e65, e66, t_M_cellAt, hC]
      refine ⟨fun z => by omega, fun _ => ⟨by omega, by omega, by omega, by omega, by omega, by omega, by omega, ?_⟩⟩
      rw [show f + (k : Int) + 1 = f + ((k + 1 : Nat) : Int) by omega]
      refine ⟨by omega, ih (k + 1) _ (by omega) (fun o' c => by rw [mm_up_o _ _ c, a1 o' c]) (fun v v0 v1 => ?_)⟩
      rw [mm_up_if]
      simp only [hsN]
      by_cases c : v = C (f + k)
      · rw [if_pos c, hb, mm_bT c.symm, c]
      · rw [if_neg c, b1 v v0 v1, mm_bF (fun z => c z.symm)]; omega
  have hl0 : ∀ (d k : Nat) (M1 : mmM), k + d = 64 → (∀ o', o' ≠ 73 → M1 o' = M o') → (∀ j : Int, 0 ≤ j → j < (k : Int) → M1 73 j = 0) → J 3 [some (vr 62), some (vi f), some (vi l), some (vi t), some (vi k)] [] M1 := by
    intro d
    induction d with
    | zero =>
      intro k M1 hk f1 g1
      have h24 : J 24 [some (vr 62), some (vi f), some (vi l), some (vi t), some (vi k)] [] M1 := by
        refine hJ 24 _ _ _ (show mm_wp _ _ _ mo_M_lays_24 _ _ _ from ?_)
        simp only [mo_M_lays_24, mm_wp, mm_ldi, mm_lda, mm_ldl, mm_sti, mm_sta, mm_stl, mm_inc, mm_2i, mm_mm, mm_2l, mm_lcmp, mm_i2l, mm_l2i, mm_cast8, mm_if1, mm_if2, mm_cmp, mm_swi, mm_sw, mm_pop1, mm_dup, mm_dup2, mm_geti, mm_geta, mm_puti, mm_iald, mm_bald, mm_aald, mm_iast, mm_bast, mm_alen, mm_acpy, mm_call, mm_callv, mm_recv, mm_pop, mm_find, mm_push, mm_cats, mm_cat, mm_reti, mm_retz, mm_retl, mm_reta, mm_retv, mm_set1, mm_set2, mm_kill, List.getElem?_cons_zero, List.getElem?_cons_succ, Int.reduceToNat, ↓reduceIte, Nat.reduceEqDiff, Nat.reduceDiv, Nat.reduceAdd, Nat.reduceLeDiff, Nat.zero_le, true_and, and_true, true_or, or_true, mm_b0, mm_b1, mm_lc_lt, mm_lc_le, mm_lc_gt, mm_lc_ge, mm_lc_eq, Int.not_lt, Int.not_le, Decidable.not_not, Int.sub_neg]
        have := hl (l - f + 1).toNat 0 M1 (by omega) f1 (fun v v0 v1 => g1 v v0 (by omega))
        rw [Int.natCast_zero, Int.add_zero] at this
        exact this
      refine hJ 3 _ _ _ (show mm_wp _ _ _ mo_M_lays_3 _ _ _ from ?_)
      simp only [mo_M_lays_3, mm_wp, mm_ldi, mm_lda, mm_ldl, mm_sti, mm_sta, mm_stl, mm_inc, mm_2i, mm_mm, mm_2l, mm_lcmp, mm_i2l, mm_l2i, mm_cast8, mm_if1, mm_if2, mm_cmp, mm_swi, mm_sw, mm_pop1, mm_dup, mm_dup2, mm_geti, mm_geta, mm_puti, mm_iald, mm_bald, mm_aald, mm_iast, mm_bast, mm_alen, mm_acpy, mm_call, mm_callv, mm_recv, mm_pop, mm_find, mm_push, mm_cats, mm_cat, mm_reti, mm_retz, mm_retl, mm_reta, mm_retv, mm_set1, mm_set2, mm_kill, List.getElem?_cons_zero, List.getElem?_cons_succ, Int.reduceToNat, ↓reduceIte, Nat.reduceEqDiff, Nat.reduceDiv, Nat.reduceAdd, Nat.reduceLeDiff, Nat.zero_le, true_and, and_true, true_or, or_true, mm_b0, mm_b1, mm_lc_lt, mm_lc_le, mm_lc_gt, mm_lc_ge, mm_lc_eq, Int.not_lt, Int.not_le, Decidable.not_not, Int.sub_neg]
      exact ⟨fun _ => h24, fun z => by omega⟩
    | succ d ih =>
      intro k M1 hk f1 g1
      refine hJ 3 _ _ _ (show mm_wp _ _ _ mo_M_lays_3 _ _ _ from ?_)
      simp only [mo_M_lays_3, mm_wp, mm_ldi, mm_lda, mm_ldl, mm_sti, mm_sta, mm_stl, mm_inc, mm_2i, mm_mm, mm_2l, mm_lcmp, mm_i2l, mm_l2i, mm_cast8, mm_if1, mm_if2, mm_cmp, mm_swi, mm_sw, mm_pop1, mm_dup, mm_dup2, mm_geti, mm_geta, mm_puti, mm_iald, mm_bald, mm_aald, mm_iast, mm_bast, mm_alen, mm_acpy, mm_call, mm_callv, mm_recv, mm_pop, mm_find, mm_push, mm_cats, mm_cat, mm_reti, mm_retz, mm_retl, mm_reta, mm_retv, mm_set1, mm_set2, mm_kill, List.getElem?_cons_zero, List.getElem?_cons_succ, Int.reduceToNat, ↓reduceIte, Nat.reduceEqDiff, Nat.reduceDiv, Nat.reduceAdd, Nat.reduceLeDiff, Nat.zero_le, true_and, and_true, true_or, or_true, mm_b0, mm_b1, mm_lc_lt, mm_lc_le, mm_lc_gt, mm_lc_ge, mm_lc_eq, Int.not_lt, Int.not_le, Decidable.not_not, Int.sub_neg, c_0, c_1, c_2, l_2, c_3, c_4, l_4, c_5, l_5, c_6, l_6, c_7, l_7, c_8, c_9, l_9, c_10, l_10, c_11, l_11, c_12, l_12, c_13, c_14, l_14, c_15, l_15, c_16, l_16, c_17, l_17, c_18, c_19, l_19, c_20, l_20, c_21, l_21, c_22, l_22, c_23, c_24, l_24, c_25, l_25, c_26, c_27, c_28, l_28, c_29, c_30, l_30, c_31, c_32, l_32, c_33, l_33, c_34, l_34, c_35, l_35, c_36, l_36, c_37, l_37, c_38, l_38, c_39, l_39, c_40, c_41, l_41, c_42, c_43, c_44, l_44, c_45, c_46, l_46, c_47, c_48, l_48, c_49, l_49, c_50, l_50, c_51, l_51, c_52, l_52, c_53, l_53, c_54, l_54, c_55, l_55, c_56, l_56, c_57, l_57, c_58, l_58, c_59, l_59, c_60, l_60, c_61, l_61, c_62, c_63, l_63, c_64, l_64, c_65, l_65, c_66, l_66, c_67, l_67, c_68, l_68, c_69, l_69, c_70, l_70, c_71, l_71, c_72, l_72, c_73, l_73, c_74, l_74, c_75, l_75, c_76, l_76]
      refine ⟨fun z => by omega, fun _ => ⟨by omega, by omega, ih (k + 1) _ (by omega) (fun o' c => by rw [mm_up_o _ _ c, f1 o' c]) (fun j j0 j1 => ?_)⟩⟩
      rw [mm_up_if]
      split
      · rfl
      · exact g1 j j0 (by omega)
  refine hJ 0 _ _ _ (show mm_wp _ _ _ mo_M_lays_0 _ _ _ from ?_)
  simp only [mo_M_lays_0, mm_wp, mm_ldi, mm_lda, mm_ldl, mm_sti, mm_sta, mm_stl, mm_inc, mm_2i, mm_mm, mm_2l, mm_lcmp, mm_i2l, mm_l2i, mm_cast8, mm_if1, mm_if2, mm_cmp, mm_swi, mm_sw, mm_pop1, mm_dup, mm_dup2, mm_geti, mm_geta, mm_puti, mm_iald, mm_bald, mm_aald, mm_iast, mm_bast, mm_alen, mm_acpy, mm_call, mm_callv, mm_recv, mm_pop, mm_find, mm_push, mm_cats, mm_cat, mm_reti, mm_retz, mm_retl, mm_reta, mm_retv, mm_set1, mm_set2, mm_kill, List.getElem?_cons_zero, List.getElem?_cons_succ, Int.reduceToNat, ↓reduceIte, Nat.reduceEqDiff, Nat.reduceDiv, Nat.reduceAdd, Nat.reduceLeDiff, Nat.zero_le, true_and, and_true, true_or, or_true, mm_b0, mm_b1, mm_lc_lt, mm_lc_le, mm_lc_gt, mm_lc_ge, mm_lc_eq, Int.not_lt, Int.not_le, Decidable.not_not, Int.sub_neg]
  exact hl0 64 0 M (by omega) (fun _ _ => rfl) (fun j j0 j1 => by omega)
def mtB (M : mmM) : Prop := ∀ v, 0 ≤ v → v < 64 → 0 ≤ M 73 v ∧ M 73 v ≤ 60
def t_M_tellsOf : mmT := fun as M Q => match as with
  | [.inr (.inr o), .inl k] => o = 62 ∧ mtB M ∧ 0 ≤ k ∧ k ≤ 7 ∧ ∀ M', (∀ o', o' ≠ 74 → M' o' = M o') → Q (some (vl (tell (M 73) k))) M'
  | _ => False
set_option maxHeartbeats 4000000 in
set_option maxRecDepth 100000 in
theorem p_M_tellsOf : ∀ as M Q, (∀ v ∈ as, mm_vin v) → mm_mem M → t_M_tellsOf as M Q → (mm_ent as).length ≤ 5 ∧ mm_ok mb_M_tellsOf [(1142, t_M_most), (1141, t_M_parts)] (mm_entry 5 as) M Q := by
  intro as M Q hin hM h
  unfold t_M_tellsOf at h
  split at h
  rotate_left
  · exact h.elim
  rename_i o k
  have hR_k : mm_R k := hin (vi k) (by simp)
  refine ⟨by simp [mm_ent], (show mm_ok mb_M_tellsOf [(1142, t_M_most), (1141, t_M_parts)] [some (vr o), some (vi k), none, none, none] M Q from ?_)⟩
  intro J hJ
  obtain ⟨rfl, hT, k0, k7, h⟩ := h
  have hq := h M (fun _ _ => rfl)
  have h44 : k = 0 → J 44 [some (vr 62), some (vi k), some (vl 0), none, none] [] M := by
    intro hk
    simp only [tell, hk, ↓reduceIte] at hq
    have hb : ∀ k : Nat, k < 64 → 0 ≤ (k : Int) * M 73 k ∧ (k : Int) * M 73 k ≤ 63 * 60 := fun k hk => mul_b (by omega) (by omega) (hT k (by omega) (by omega)).1 (hT k (by omega) (by omega)).2
    have hs : ∀ n : Nat, n ≤ 64 → 0 ≤ sN (fun v => v * M 73 v) n ∧ sN (fun v => v * M 73 v) n ≤ 3780 * n := fun n hn => by
      have := sN_b (f := fun v => v * M 73 v) (a := 0) (b := 3780) n (fun k hk => hb k (by omega))
      omega
    have hl : ∀ (d j : Nat), j + d = 64 → J 47 [some (vr 62), some (vi k), some (vl (sN (fun v => v * M 73 v) j)), none, some (vi j)] [] M := by
      intro d
      induction d with
      | zero =>
        intro j hj
        have h74 : J 74 [some (vr 62), some (vi k), some (vl (sN (fun v => v * M 73 v) j)), none, some (vi j)] [] M := by
          refine hJ 74 _ _ _ (show mm_wp _ _ _ mo_M_tellsOf_74 _ _ _ from ?_)
          simp only [mo_M_tellsOf_74, mm_wp, mm_ldi, mm_lda, mm_ldl, mm_sti, mm_sta, mm_stl, mm_inc, mm_2i, mm_mm, mm_2l, mm_lcmp, mm_i2l, mm_l2i, mm_cast8, mm_if1, mm_if2, mm_cmp, mm_swi, mm_sw, mm_pop1, mm_dup, mm_dup2, mm_geti, mm_geta, mm_puti, mm_iald, mm_bald, mm_aald, mm_iast, mm_bast, mm_alen, mm_acpy, mm_call, mm_callv, mm_recv, mm_pop, mm_find, mm_push, mm_cats, mm_cat, mm_reti, mm_retz, mm_retl, mm_reta, mm_retv, mm_set1, mm_set2, mm_kill, List.getElem?_cons_zero, List.getElem?_cons_succ, Int.reduceToNat, ↓reduceIte, Nat.reduceEqDiff, Nat.reduceDiv, Nat.reduceAdd, Nat.reduceLeDiff, Nat.zero_le, true_and, and_true, true_or, or_true, mm_b0, mm_b1, mm_lc_lt, mm_lc_le, mm_lc_gt, mm_lc_ge, mm_lc_eq, Int.not_lt, Int.not_le, Decidable.not_not, Int.sub_neg]
          rw [show j = 64 by omega]; exact hq
        refine hJ 47 _ _ _ (show mm_wp _ _ _ mo_M_tellsOf_47 _ _ _ from ?_)
        simp only [mo_M_tellsOf_47, mm_wp, mm_ldi, mm_lda, mm_ldl, mm_sti, mm_sta, mm_stl, mm_inc, mm_2i, mm_mm, mm_2l, mm_lcmp, mm_i2l, mm_l2i, mm_cast8, mm_if1, mm_if2, mm_cmp, mm_swi, mm_sw, mm_pop1, mm_dup, mm_dup2, mm_geti, mm_geta, mm_puti, mm_iald, mm_bald, mm_aald, mm_iast, mm_bast, mm_alen, mm_acpy, mm_call, mm_callv, mm_recv, mm_pop, mm_find, mm_push, mm_cats, mm_cat, mm_reti, mm_retz, mm_retl, mm_reta, mm_retv, mm_set1, mm_set2, mm_kill, List.getElem?_cons_zero, List.getElem?_cons_succ, Int.reduceToNat, ↓reduceIte, Nat.reduceEqDiff, Nat.reduceDiv, Nat.reduceAdd, Nat.reduceLeDiff, Nat.zero_le, true_and, and_true, true_or, or_true, mm_b0, mm_b1, mm_lc_lt, mm_lc_le, mm_lc_gt, mm_lc_ge, mm_lc_eq, Int.not_lt, Int.not_le, Decidable.not_not, Int.sub_neg]
        exact ⟨fun _ => h74, fun z => by omega⟩
      | succ d ih =>
        intro j hj
        have b1 := hb j (by omega)
        have b2 := hs j (by omega)
        refine hJ 47 _ _ _ (show mm_wp _ _ _ mo_M_tellsOf_47 _ _ _ from ?_)
        simp only [mo_M_tellsOf_47, mm_wp, mm_ldi, mm_lda, mm_ldl, mm_sti, mm_sta, mm_stl, mm_inc, mm_2i, mm_mm, mm_2l, mm_lcmp, mm_i2l, mm_l2i, mm_cast8, mm_if1, mm_if2, mm_cmp, mm_swi, mm_sw, mm_pop1, mm_dup, mm_dup2, mm_geti, mm_geta, mm_puti, mm_iald, mm_bald, mm_aald, mm_iast, mm_bast, mm_alen, mm_acpy, mm_call, mm_callv, mm_recv, mm_pop, mm_find, mm_push, mm_cats, mm_cat, mm_reti, mm_retz, mm_retl, mm_reta, mm_retv, mm_set1, mm_set2, mm_kill, List.getElem?_cons_zero, List.getElem?_cons_succ, Int.reduceToNat, ↓reduceIte, Nat.reduceEqDiff, Nat.reduceDiv, Nat.reduceAdd, Nat.reduceLeDiff, Nat.zero_le, true_and, and_true, true_or, or_true, mm_b0, mm_b1, mm_lc_lt, mm_lc_le, mm_lc_gt, mm_lc_ge, mm_lc_eq, Int.not_lt, Int.not_le, Decidable.not_not, Int.sub_neg, c_0, c_1, c_2, l_2, c_3, c_4, l_4, c_5, l_5, c_6, l_6, c_7, l_7, c_8, c_9, l_9, c_10, l_10, c_11, l_11, c_12, l_12, c_13, c_14, l_14, c_15, l_15, c_16, l_16, c_17, l_17, c_18, c_19, l_19, c_20, l_20, c_21, l_21, c_22, l_22, c_23, c_24, l_24, c_25, l_25, c_26, c_27, c_28, l_28, c_29, c_30, l_30, c_31, c_32, l_32, c_33, l_33, c_34, l_34, c_35, l_35, c_36, l_36, c_37, l_37, c_38, l_38, c_39, l_39, c_40, c_41, l_41, c_42, c_43, c_44, l_44, c_45, c_46, l_46, c_47, c_48, l_48, c_49, l_49, c_50, l_50, c_51, l_51, c_52, l_52, c_53, l_53, c_54, l_54, c_55, l_55, c_56, l_56, c_57, l_57, c_58, l_58, c_59, l_59, c_60, l_60, c_61, l_61, c_62, c_63, l_63, c_64, l_64, c_65, l_65, c_66, l_66, c_67, l_67, c_68, l_68, c_69, l_69, c_70, l_70, c_71, l_71, c_72, l_72, c_73, l_73, c_74, l_74, c_75, l_75, c_76, l_76]
        refine ⟨fun z => by omega, fun _ => ?_⟩
        repeat (refine And.intro (by omega) ?_)
        exact ih (j + 1) (by omega)
    refine hJ 44 _ _ _ (show mm_wp _ _ _ mo_M_tellsOf_44 _ _ _ from ?_)
    simp only [mo_M_tellsOf_44, mm_wp, mm_ldi, mm_lda, mm_ldl, mm_sti, mm_sta, mm_stl, mm_inc, mm_2i, mm_mm, mm_2l, mm_lcmp, mm_i2l, mm_l2i, mm_cast8, mm_if1, mm_if2, mm_cmp, mm_swi, mm_sw, mm_pop1, mm_dup, mm_dup2, mm_geti, mm_geta, mm_puti, mm_iald, mm_bald, mm_aald, mm_iast, mm_bast, mm_alen, mm_acpy, mm_call, mm_callv, mm_recv, mm_pop, mm_find, mm_push, mm_cats, mm_cat, mm_reti, mm_retz, mm_retl, mm_reta, mm_retv, mm_set1, mm_set2, mm_kill, List.getElem?_cons_zero, List.getElem?_cons_succ, Int.reduceToNat, ↓reduceIte, Nat.reduceEqDiff, Nat.reduceDiv, Nat.reduceAdd, Nat.reduceLeDiff, Nat.zero_le, true_and, and_true, true_or, or_true, mm_b0, mm_b1, mm_lc_lt, mm_lc_le, mm_lc_gt, mm_lc_ge, mm_lc_eq, Int.not_lt, Int.not_le, Decidable.not_not, Int.sub_neg]
    exact hl 64 0 rfl
  have h76 : k = 1 → J 76 [some (vr 62), some (vi k), some (vl 0), none, none] [] M := by
    intro hk
    simp only [tell, hk, Int.reduceEq, ↓reduceIte] at hq
    generalize hf : (fun v => mm_b (0 < M 73 v)) = f at hq
    have hfv : ∀ v, f v = mm_b (0 < M 73 v) := fun v => by rw [← hf]
    have hs : ∀ n : Nat, 0 ≤ sN f n ∧ sN f n ≤ n := fun n => by
      have := sN_b (f := f) (a := 0) (b := 1) n (fun k hk => by rw [hfv]; exact mm_b_R _)
      omega
    have hl : ∀ (d j : Nat), j + d = 64 → J 79 [some (vr 62), some (vi k), some (vl (sN f j)), none, some (vi j)] [] M := by
      intro d
      induction d with
      | zero =>
        intro j hj
        have h74 : J 110 [some (vr 62), some (vi k), some (vl (sN f j)), none, some (vi j)] [] M := by
          refine hJ 110 _ _ _ (show mm_wp _ _ _ mo_M_tellsOf_110 _ _ _ from ?_)
          simp only [mo_M_tellsOf_110, mm_wp, mm_ldi, mm_lda, mm_ldl, mm_sti, mm_sta, mm_stl, mm_inc, mm_2i, mm_mm, mm_2l, mm_lcmp, mm_i2l, mm_l2i, mm_cast8, mm_if1, mm_if2, mm_cmp, mm_swi, mm_sw, mm_pop1, mm_dup, mm_dup2, mm_geti, mm_geta, mm_puti, mm_iald, mm_bald, mm_aald, mm_iast, mm_bast, mm_alen, mm_acpy, mm_call, mm_callv, mm_recv, mm_pop, mm_find, mm_push, mm_cats, mm_cat, mm_reti, mm_retz, mm_retl, mm_reta, mm_retv, mm_set1, mm_set2, mm_kill, List.getElem?_cons_zero, List.getElem?_cons_succ, Int.reduceToNat, ↓reduceIte, Nat.reduceEqDiff, Nat.reduceDiv, Nat.reduceAdd, Nat.reduceLeDiff, Nat.zero_le, true_and, and_true, true_or, or_true, mm_b0, mm_b1, mm_lc_lt, mm_lc_le, mm_lc_gt, mm_lc_ge, mm_lc_eq, Int.not_lt, Int.not_le, Decidable.not_not, Int.sub_neg]
          rw [show j = 64 by omega]; exact hq
        refine hJ 79 _ _ _ (show mm_wp _ _ _ mo_M_tellsOf_79 _ _ _ from ?_)
        simp only [mo_M_tellsOf_79, mm_wp, mm_ldi, mm_lda, mm_ldl, mm_sti, mm_sta, mm_stl, mm_inc, mm_2i, mm_mm, mm_2l, mm_lcmp, mm_i2l, mm_l2i, mm_cast8, mm_if1, mm_if2, mm_cmp, mm_swi, mm_sw, mm_pop1, mm_dup, mm_dup2, mm_geti, mm_geta, mm_puti, mm_iald, mm_bald, mm_aald, mm_iast, mm_bast, mm_alen, mm_acpy, mm_call, mm_callv, mm_recv, mm_pop, mm_find, mm_push, mm_cats, mm_cat, mm_reti, mm_retz, mm_retl, mm_reta, mm_retv, mm_set1, mm_set2, mm_kill, List.getElem?_cons_zero, List.getElem?_cons_succ, Int.reduceToNat, ↓reduceIte, Nat.reduceEqDiff, Nat.reduceDiv, Nat.reduceAdd, Nat.reduceLeDiff, Nat.zero_le, true_and, and_true, true_or, or_true, mm_b0, mm_b1, mm_lc_lt, mm_lc_le, mm_lc_gt, mm_lc_ge, mm_lc_eq, Int.not_lt, Int.not_le, Decidable.not_not, Int.sub_neg]
        exact ⟨fun _ => h74, fun z => by omega⟩
      | succ d ih =>
        intro j hj
        have b2 := hs j
        have b3 := hs (j + 1)
        have h102 : ∀ z, sN f j + z = sN f (j + 1) → J 102 [some (vr 62), some (vi k), some (vl (sN f j)), none, some (vi j)] [vl z, vl (sN f j)] M := by
          intro z hz
          refine hJ 102 _ _ _ (show mm_wp _ _ _ mo_M_tellsOf_102 _ _ _ from ?_)
          simp only [mo_M_tellsOf_102, mm_wp, mm_ldi, mm_lda, mm_ldl, mm_sti, mm_sta, mm_stl, mm_inc, mm_2i, mm_mm, mm_2l, mm_lcmp, mm_i2l, mm_l2i, mm_cast8, mm_if1, mm_if2, mm_cmp, mm_swi, mm_sw, mm_pop1, mm_dup, mm_dup2, mm_geti, mm_geta, mm_puti, mm_iald, mm_bald, mm_aald, mm_iast, mm_bast, mm_alen, mm_acpy, mm_call, mm_callv, mm_recv, mm_pop, mm_find, mm_push, mm_cats, mm_cat, mm_reti, mm_retz, mm_retl, mm_reta, mm_retv, mm_set1, mm_set2, mm_kill, List.getElem?_cons_zero, List.getElem?_cons_succ, Int.reduceToNat, ↓reduceIte, Nat.reduceEqDiff, Nat.reduceDiv, Nat.reduceAdd, Nat.reduceLeDiff, Nat.zero_le, true_and, and_true, true_or, or_true, mm_b0, mm_b1, mm_lc_lt, mm_lc_le, mm_lc_gt, mm_lc_ge, mm_lc_eq, Int.not_lt, Int.not_le, Decidable.not_not, Int.sub_neg]
          rw [hz]
          exact ⟨by omega, by omega, ih (j + 1) (by omega)⟩
        have h101 : ¬ 0 < M 73 j → J 101 [some (vr 62), some (vi k), some (vl (sN f j)), none, some (vi j)] [vl (sN f j)] M := by
          intro hz
          refine hJ 101 _ _ _ (show mm_wp _ _ _ mo_M_tellsOf_101 _ _ _ from ?_)
          simp only [mo_M_tellsOf_101, mm_wp, mm_ldi, mm_lda, mm_ldl, mm_sti, mm_sta, mm_stl, mm_inc, mm_2i, mm_mm, mm_2l, mm_lcmp, mm_i2l, mm_l2i, mm_cast8, mm_if1, mm_if2, mm_cmp, mm_swi, mm_sw, mm_pop1, mm_dup, mm_dup2, mm_geti, mm_geta, mm_puti, mm_iald, mm_bald, mm_aald, mm_iast, mm_bast, mm_alen, mm_acpy, mm_call, mm_callv, mm_recv, mm_pop, mm_find, mm_push, mm_cats, mm_cat, mm_reti, mm_retz, mm_retl, mm_reta, mm_retv, mm_set1, mm_set2, mm_kill, List.getElem?_cons_zero, List.getElem?_cons_succ, Int.reduceToNat, ↓reduceIte, Nat.reduceEqDiff, Nat.reduceDiv, Nat.reduceAdd, Nat.reduceLeDiff, Nat.zero_le, true_and, and_true, true_or, or_true, mm_b0, mm_b1, mm_lc_lt, mm_lc_le, mm_lc_gt, mm_lc_ge, mm_lc_eq, Int.not_lt, Int.not_le, Decidable.not_not, Int.sub_neg]
          refine h102 _ ?_
          show _ = sN f j + f j
          rw [hfv, mm_bF hz]
        refine hJ 79 _ _ _ (show mm_wp _ _ _ mo_M_tellsOf_79 _ _ _ from ?_)
        simp only [mo_M_tellsOf_79, mm_wp, mm_ldi, mm_lda, mm_ldl, mm_sti, mm_sta, mm_stl, mm_inc, mm_2i, mm_mm, mm_2l, mm_lcmp, mm_i2l, mm_l2i, mm_cast8, mm_if1, mm_if2, mm_cmp, mm_swi, mm_sw, mm_pop1, mm_dup, mm_dup2, mm_geti, mm_geta, mm_puti, mm_iald, mm_bald, mm_aald, mm_iast, mm_bast, mm_alen, mm_acpy, mm_call, mm_callv, mm_recv, mm_pop, mm_find, mm_push, mm_cats, mm_cat, mm_reti, mm_retz, mm_retl, mm_reta, mm_retv, mm_set1, mm_set2, mm_kill, List.getElem?_cons_zero, List.getElem?_cons_succ, Int.reduceToNat, ↓reduceIte, Nat.reduceEqDiff, Nat.reduceDiv, Nat.reduceAdd, Nat.reduceLeDiff, Nat.zero_le, true_and, and_true, true_or, or_true, mm_b0, mm_b1, mm_lc_lt, mm_lc_le, mm_lc_gt, mm_lc_ge, mm_lc_eq, Int.not_lt, Int.not_le, Decidable.not_not, Int.sub_neg, c_0, c_1, c_2, l_2, c_3, c_4, l_4, c_5, l_5, c_6, l_6, c_7, l_7, c_8, c_9, l_9, c_10, l_10, c_11, l_11, c_12, l_12, c_13, c_14, l_14, c_15, l_15, c_16, l_16, c_17, l_17, c_18, c_19, l_19, c_20, l_20, c_21, l_21, c_22, l_22, c_23, c_24, l_24, c_25, l_25, c_26, c_27, c_28, l_28, c_29, c_30, l_30, c_31, c_32, l_32, c_33, l_33, c_34, l_34, c_35, l_35, c_36, l_36, c_37, l_37, c_38, l_38, c_39, l_39, c_40, c_41, l_41, c_42, c_43, c_44, l_44, c_45, c_46, l_46, c_47, c_48, l_48, c_49, l_49, c_50, l_50, c_51, l_51, c_52, l_52, c_53, l_53, c_54, l_54, c_55, l_55, c_56, l_56, c_57, l_57, c_58, l_58, c_59, l_59, c_60, l_60, c_61, l_61, c_62, c_63, l_63, c_64, l_64, c_65, l_65, c_66, l_66, c_67, l_67, c_68, l_68, c_69, l_69, c_70, l_70, c_71, l_71, c_72, l_72, c_73, l_73, c_74, l_74, c_75, l_75, c_76, l_76]
        refine ⟨fun z => by omega, fun _ => ⟨by omega, fun z => h101 (by omega), fun z => h102 _ ?_⟩⟩
        show _ = sN f j + f j
        rw [hfv, mm_bT (by omega)]
    refine hJ 76 _ _ _ (show mm_wp _ _ _ mo_M_tellsOf_76 _ _ _ from ?_)
    simp only [mo_M_tellsOf_76, mm_wp, mm_ldi, mm_lda, mm_ldl, mm_sti, mm_sta, mm_stl, mm_inc, mm_2i, mm_mm, mm_2l, mm_lcmp, mm_i2l, mm_l2i, mm_cast8, mm_if1, mm_if2, mm_cmp, mm_swi, mm_sw, mm_pop1, mm_dup, mm_dup2, mm_geti, mm_geta, mm_puti, mm_iald, mm_bald, mm_aald, mm_iast, mm_bast, mm_alen, mm_acpy, mm_call, mm_callv, mm_recv, mm_pop, mm_find, mm_push, mm_cats, mm_cat, mm_reti, mm_retz, mm_retl, mm_reta, mm_retv, mm_set1, mm_set2, mm_kill, List.getElem?_cons_zero, List.getElem?_cons_succ, Int.reduceToNat, ↓reduceIte, Nat.reduceEqDiff, Nat.reduceDiv, Nat.reduceAdd, Nat.reduceLeDiff, Nat.zero_le, true_and, and_true, true_or, or_true, mm_b0, mm_b1, mm_lc_lt, mm_lc_le, mm_lc_gt, mm_lc_ge, mm_lc_eq, Int.not_lt, Int.not_le, Decidable.not_not, Int.sub_neg]
    exact hl 64 0 rfl
  have hb63 := amx_b (M 73) 63
  have h112 : k = 2 → J 112 [some (vr 62), some (vi k), some (vl 0), none, none] [] M := by
    intro hk
    simp only [tell, hk, Int.reduceEq, ↓reduceIte] at hq
    refine hJ 112 _ _ _ (show mm_wp _ _ _ mo_M_tellsOf_112 _ _ _ from ?_)
    simp only [mo_M_tellsOf_112, mm_wp, mm_ldi, mm_lda, mm_ldl, mm_sti, mm_sta, mm_stl, mm_inc, mm_2i, mm_mm, mm_2l, mm_lcmp, mm_i2l, mm_l2i, mm_cast8, mm_if1, mm_if2, mm_cmp, mm_swi, mm_sw, mm_pop1, mm_dup, mm_dup2, mm_geti, mm_geta, mm_puti, mm_iald, mm_bald, mm_aald, mm_iast, mm_bast, mm_alen, mm_acpy, mm_call, mm_callv, mm_recv, mm_pop, mm_find, mm_push, mm_cats, mm_cat, mm_reti, mm_retz, mm_retl, mm_reta, mm_retv, mm_set1, mm_set2, mm_kill, List.getElem?_cons_zero, List.getElem?_cons_succ, Int.reduceToNat, ↓reduceIte, Nat.reduceEqDiff, Nat.reduceDiv, Nat.reduceAdd, Nat.reduceLeDiff, Nat.zero_le, true_and, and_true, true_or, or_true, mm_b0, mm_b1, mm_lc_lt, mm_lc_le, mm_lc_gt, mm_lc_ge, mm_lc_eq, Int.not_lt, Int.not_le, Decidable.not_not, Int.sub_neg, c_0, c_1, c_2, l_2, c_3, c_4, l_4, c_5, l_5, c_6, l_6, c_7, l_7, c_8, c_9, l_9, c_10, l_10, c_11, l_11, c_12, l_12, c_13, c_14, l_14, c_15, l_15, c_16, l_16, c_17, l_17, c_18, c_19, l_19, c_20, l_20, c_21, l_21, c_22, l_22, c_23, c_24, l_24, c_25, l_25, c_26, c_27, c_28, l_28, c_29, c_30, l_30, c_31, c_32, l_32, c_33, l_33, c_34, l_34, c_35, l_35, c_36, l_36, c_37, l_37, c_38, l_38, c_39, l_39, c_40, c_41, l_41, c_42, c_43, c_44, l_44, c_45, c_46, l_46, c_47, c_48, l_48, c_49, l_49, c_50, l_50, c_51, l_51, c_52, l_52, c_53, l_53, c_54, l_54, c_55, l_55, c_56, l_56, c_57, l_57, c_58, l_58, c_59, l_59, c_60, l_60, c_61, l_61, c_62, c_63, l_63, c_64, l_64, c_65, l_65, c_66, l_66, c_67, l_67, c_68, l_68, c_69, l_69, c_70, l_70, c_71, l_71, c_72, l_72, c_73, l_73, c_74, l_74, c_75, l_75, c_76, l_76, t_M_most]
    exact ⟨by omega, hq⟩
  have h123 : k = 3 → J 123 [some (vr 62), some (vi k), some (vl 0), none, none] [] M := by
    intro hk
    simp only [tell, hk, Int.reduceEq, ↓reduceIte] at hq
    refine hJ 123 _ _ _ (show mm_wp _ _ _ mo_M_tellsOf_123 _ _ _ from ?_)
    simp only [mo_M_tellsOf_123, mm_wp, mm_ldi, mm_lda, mm_ldl, mm_sti, mm_sta, mm_stl, mm_inc, mm_2i, mm_mm, mm_2l, mm_lcmp, mm_i2l, mm_l2i, mm_cast8, mm_if1, mm_if2, mm_cmp, mm_swi, mm_sw, mm_pop1, mm_dup, mm_dup2, mm_geti, mm_geta, mm_puti, mm_iald, mm_bald, mm_aald, mm_iast, mm_bast, mm_alen, mm_acpy, mm_call, mm_callv, mm_recv, mm_pop, mm_find, mm_push, mm_cats, mm_cat, mm_reti, mm_retz, mm_retl, mm_reta, mm_retv, mm_set1, mm_set2, mm_kill, List.getElem?_cons_zero, List.getElem?_cons_succ, Int.reduceToNat, ↓reduceIte, Nat.reduceEqDiff, Nat.reduceDiv, Nat.reduceAdd, Nat.reduceLeDiff, Nat.zero_le, true_and, and_true, true_or, or_true, mm_b0, mm_b1, mm_lc_lt, mm_lc_le, mm_lc_gt, mm_lc_ge, mm_lc_eq, Int.not_lt, Int.not_le, Decidable.not_not, Int.sub_neg, c_0, c_1, c_2, l_2, c_3, c_4, l_4, c_5, l_5, c_6, l_6, c_7, l_7, c_8, c_9, l_9, c_10, l_10, c_11, l_11, c_12, l_12, c_13, c_14, l_14, c_15, l_15, c_16, l_16, c_17, l_17, c_18, c_19, l_19, c_20, l_20, c_21, l_21, c_22, l_22, c_23, c_24, l_24, c_25, l_25, c_26, c_27, c_28, l_28, c_29, c_30, l_30, c_31, c_32, l_32, c_33, l_33, c_34, l_34, c_35, l_35, c_36, l_36, c_37, l_37, c_38, l_38, c_39, l_39, c_40, c_41, l_41, c_42, c_43, c_44, l_44, c_45, c_46, l_46, c_47, c_48, l_48, c_49, l_49, c_50, l_50, c_51, l_51, c_52, l_52, c_53, l_53, c_54, l_54, c_55, l_55, c_56, l_56, c_57, l_57, c_58, l_58, c_59, l_59, c_60, l_60, c_61, l_61, c_62, c_63, l_63, c_64, l_64, c_65, l_65, c_66, l_66, c_67, l_67, c_68, l_68, c_69, l_69, c_70, l_70, c_71, l_71, c_72, l_72, c_73, l_73, c_74, l_74, c_75, l_75, c_76, l_76, t_M_most]
    exact hq
  have h129 : k = 4 → J 129 [some (vr 62), some (vi k), some (vl 0), none, none] [] M := by
    intro hk
    simp only [tell, hk, Int.reduceEq, ↓reduceIte] at hq
    have hb0 : ∀ k : Nat, k < 64 → 0 ≤ M 73 k * M 73 k ∧ M 73 k * M 73 k ≤ 60 * 60 := fun k hk => mul_b (hT k (by omega) (by omega)).1 (hT k (by omega) (by omega)).2 (hT k (by omega) (by omega)).1 (hT k (by omega) (by omega)).2
    have hb : ∀ k : Nat, k < 64 → 0 ≤ M 73 k * M 73 k * (k : Int) ∧ M 73 k * M 73 k * (k : Int) ≤ 3600 * 63 := fun k hk => mul_b (hb0 k hk).1 (hb0 k hk).2 (by omega) (by omega)
    generalize hf : (fun v => M 73 v * M 73 v * v) = f at hq
    have hfv : ∀ v, f v = M 73 v * M 73 v * v := fun v => by rw [← hf]
    have hs : ∀ n : Nat, n ≤ 64 → 0 ≤ sN f n ∧ sN f n ≤ 226800 * n := fun n hn => by
      have := sN_b (f := f) (a := 0) (b := 226800) n (fun k hk => by rw [hfv]; exact hb k (by omega))
      omega
    have hl : ∀ (d j : Nat), j + d = 64 → J 132 [some (vr 62), some (vi k), some (vl (sN f j)), none, some (vi j)] [] M := by
      intro d
      induction d with
      | zero =>
        intro j hj
        have h74 : J 169 [some (vr 62), some (vi k), some (vl (sN f j)), none, some (vi j)] [] M := by
          refine hJ 169 _ _ _ (show mm_wp _ _ _ mo_M_tellsOf_169 _ _ _ from ?_)
          simp only [mo_M_tellsOf_169, mm_wp, mm_ldi, mm_lda, mm_ldl, mm_sti, mm_sta, mm_stl, mm_inc, mm_2i, mm_mm, mm_2l, mm_lcmp, mm_i2l, mm_l2i, mm_cast8, mm_if1, mm_if2, mm_cmp, mm_swi, mm_sw, mm_pop1, mm_dup, mm_dup2, mm_geti, mm_geta, mm_puti, mm_iald, mm_bald, mm_aald, mm_iast, mm_bast, mm_alen, mm_acpy, mm_call, mm_callv, mm_recv, mm_pop, mm_find, mm_push, mm_cats, mm_cat, mm_reti, mm_retz, mm_retl, mm_reta, mm_retv, mm_set1, mm_set2, mm_kill, List.getElem?_cons_zero, List.getElem?_cons_succ, Int.reduceToNat, ↓reduceIte, Nat.reduceEqDiff, Nat.reduceDiv, Nat.reduceAdd, Nat.reduceLeDiff, Nat.zero_le, true_and, and_true, true_or, or_true, mm_b0, mm_b1, mm_lc_lt, mm_lc_le, mm_lc_gt, mm_lc_ge, mm_lc_eq, Int.not_lt, Int.not_le, Decidable.not_not, Int.sub_neg]
          rw [show j = 64 by omega]; exact hq
        refine hJ 132 _ _ _ (show mm_wp _ _ _ mo_M_tellsOf_132 _ _ _ from ?_)
        simp only [mo_M_tellsOf_132, mm_wp, mm_ldi, mm_lda, mm_ldl, mm_sti, mm_sta, mm_stl, mm_inc, mm_2i, mm_mm, mm_2l, mm_lcmp, mm_i2l, mm_l2i, mm_cast8, mm_if1, mm_if2, mm_cmp, mm_swi, mm_sw, mm_pop1, mm_dup, mm_dup2, mm_geti, mm_geta, mm_puti, mm_iald, mm_bald, mm_aald, mm_iast, mm_bast, mm_alen, mm_acpy, mm_call, mm_callv, mm_recv, mm_pop, mm_find, mm_push, mm_cats, mm_cat, mm_reti, mm_retz, mm_retl, mm_reta, mm_retv, mm_set1, mm_set2, mm_kill, List.getElem?_cons_zero, List.getElem?_cons_succ, Int.reduceToNat, ↓reduceIte, Nat.reduceEqDiff, Nat.reduceDiv, Nat.reduceAdd, Nat.reduceLeDiff, Nat.zero_le, true_and, and_true, true_or, or_true, mm_b0, mm_b1, mm_lc_lt, mm_lc_le, mm_lc_gt, mm_lc_ge, mm_lc_eq, Int.not_lt, Int.not_le, Decidable.not_not, Int.sub_neg]
        exact ⟨fun _ => h74, fun z => by omega⟩
      | succ d ih =>
        intro j hj
        have b0 := hb0 j (by omega)
        have b1 := hb j (by omega)
        have b2 := hs j (by omega)
        have hn := ih (j + 1) (by omega)
        simp only [sN, hfv] at hn
        refine hJ 132 _ _ _ (show mm_wp _ _ _ mo_M_tellsOf_132 _ _ _ from ?_)
        simp only [mo_M_tellsOf_132, mm_wp, mm_ldi, mm_lda, mm_ldl, mm_sti, mm_sta, mm_stl, mm_inc, mm_2i, mm_mm, mm_2l, mm_lcmp, mm_i2l, mm_l2i, mm_cast8, mm_if1, mm_if2, mm_cmp, mm_swi, mm_sw, mm_pop1, mm_dup, mm_dup2, mm_geti, mm_geta, mm_puti, mm_iald, mm_bald, mm_aald, mm_iast, mm_bast, mm_alen, mm_acpy, mm_call, mm_callv, mm_recv, mm_pop, mm_find, mm_push, mm_cats, mm_cat, mm_reti, mm_retz, mm_retl, mm_reta, mm_retv, mm_set1, mm_set2, mm_kill, List.getElem?_cons_zero, List.getElem?_cons_succ, Int.reduceToNat, ↓reduceIte, Nat.reduceEqDiff, Nat.reduceDiv, Nat.reduceAdd, Nat.reduceLeDiff, Nat.zero_le, true_and, and_true, true_or, or_true, mm_b0, mm_b1, mm_lc_lt, mm_lc_le, mm_lc_gt, mm_lc_ge, mm_lc_eq, Int.not_lt, Int.not_le, Decidable.not_not, Int.sub_neg, c_0, c_1, c_2, l_2, c_3, c_4, l_4, c_5, l_5, c_6, l_6, c_7, l_7, c_8, c_9, l_9, c_10, l_10, c_11, l_11, c_12, l_12, c_13, c_14, l_14, c_15, l_15, c_16, l_16, c_17, l_17, c_18, c_19, l_19, c_20, l_20, c_21, l_21, c_22, l_22, c_23, c_24, l_24, c_25, l_25, c_26, c_27, c_28, l_28, c_29, c_30, l_30, c_31, c_32, l_32, c_33, l_33, c_34, l_34, c_35, l_35, c_36, l_36, c_37, l_37, c_38, l_38, c_39, l_39, c_40, c_41, l_41, c_42, c_43, c_44, l_44, c_45, c_46, l_46, c_47, c_48, l_48, c_49, l_49, c_50, l_50, c_51, l_51, c_52, l_52, c_53, l_53, c_54, l_54, c_55, l_55, c_56, l_56, c_57, l_57, c_58, l_58, c_59, l_59, c_60, l_60, c_61, l_61, c_62, c_63, l_63, c_64, l_64, c_65, l_65, c_66, l_66, c_67, l_67, c_68, l_68, c_69, l_69, c_70, l_70, c_71, l_71, c_72, l_72, c_73, l_73, c_74, l_74, c_75, l_75, c_76, l_76]
        refine ⟨fun z => by omega, fun _ => ?_⟩
        repeat (refine And.intro (by omega) ?_)
        exact hn
    refine hJ 129 _ _ _ (show mm_wp _ _ _ mo_M_tellsOf_129 _ _ _ from ?_)
    simp only [mo_M_tellsOf_129, mm_wp, mm_ldi, mm_lda, mm_ldl, mm_sti, mm_sta, mm_stl, mm_inc, mm_2i, mm_mm, mm_2l, mm_lcmp, mm_i2l, mm_l2i, mm_cast8, mm_if1, mm_if2, mm_cmp, mm_swi, mm_sw, mm_pop1, mm_dup, mm_dup2, mm_geti, mm_geta, mm_puti, mm_iald, mm_bald, mm_aald, mm_iast, mm_bast, mm_alen, mm_acpy, mm_call, mm_callv, mm_recv, mm_pop, mm_find, mm_push, mm_cats, mm_cat, mm_reti, mm_retz, mm_retl, mm_reta, mm_retv, mm_set1, mm_set2, mm_kill, List.getElem?_cons_zero, List.getElem?_cons_succ, Int.reduceToNat, ↓reduceIte, Nat.reduceEqDiff, Nat.reduceDiv, Nat.reduceAdd, Nat.reduceLeDiff, Nat.zero_le, true_and, and_true, true_or, or_true, mm_b0, mm_b1, mm_lc_lt, mm_lc_le, mm_lc_gt, mm_lc_ge, mm_lc_eq, Int.not_lt, Int.not_le, Decidable.not_not, Int.sub_neg]
    exact hl 64 0 rfl
  have h171 : k = 5 → J 171 [some (vr 62), some (vi k), some (vl 0), none, none] [] M := by
    intro hk
    simp only [tell, hk, Int.reduceEq, ↓reduceIte] at hq
    have h196 : ∀ j : Nat, (j : Int) = misF (M 73) 64 0 → J 196 [some (vr 62), some (vi k), some (vl j), none, none] [] M := by
      intro j hj
      refine hJ 196 _ _ _ (show mm_wp _ _ _ mo_M_tellsOf_196 _ _ _ from ?_)
      simp only [mo_M_tellsOf_196, mm_wp, mm_ldi, mm_lda, mm_ldl, mm_sti, mm_sta, mm_stl, mm_inc, mm_2i, mm_mm, mm_2l, mm_lcmp, mm_i2l, mm_l2i, mm_cast8, mm_if1, mm_if2, mm_cmp, mm_swi, mm_sw, mm_pop1, mm_dup, mm_dup2, mm_geti, mm_geta, mm_puti, mm_iald, mm_bald, mm_aald, mm_iast, mm_bast, mm_alen, mm_acpy, mm_call, mm_callv, mm_recv, mm_pop, mm_find, mm_push, mm_cats, mm_cat, mm_reti, mm_retz, mm_retl, mm_reta, mm_retv, mm_set1, mm_set2, mm_kill, List.getElem?_cons_zero, List.getElem?_cons_succ, Int.reduceToNat, ↓reduceIte, Nat.reduceEqDiff, Nat.reduceDiv, Nat.reduceAdd, Nat.reduceLeDiff, Nat.zero_le, true_and, and_true, true_or, or_true, mm_b0, mm_b1, mm_lc_lt, mm_lc_le, mm_lc_gt, mm_lc_ge, mm_lc_eq, Int.not_lt, Int.not_le, Decidable.not_not, Int.sub_neg]
      rw [hj]; exact hq
    have hl : ∀ (d j : Nat), j + d = 64 → misF (M 73) d j = misF (M 73) 64 0 → J 171 [some (vr 62), some (vi k), some (vl j), none, none] [] M := by
      intro d
      induction d with
      | zero =>
        intro j hj he
        refine hJ 171 _ _ _ (show mm_wp _ _ _ mo_M_tellsOf_171 _ _ _ from ?_)
        simp only [mo_M_tellsOf_171, mm_wp, mm_ldi, mm_lda, mm_ldl, mm_sti, mm_sta, mm_stl, mm_inc, mm_2i, mm_mm, mm_2l, mm_lcmp, mm_i2l, mm_l2i, mm_cast8, mm_if1, mm_if2, mm_cmp, mm_swi, mm_sw, mm_pop1, mm_dup, mm_dup2, mm_geti, mm_geta, mm_puti, mm_iald, mm_bald, mm_aald, mm_iast, mm_bast, mm_alen, mm_acpy, mm_call, mm_callv, mm_recv, mm_pop, mm_find, mm_push, mm_cats, mm_cat, mm_reti, mm_retz, mm_retl, mm_reta, mm_retv, mm_set1, mm_set2, mm_kill, List.getElem?_cons_zero, List.getElem?_cons_succ, Int.reduceToNat, ↓reduceIte, Nat.reduceEqDiff, Nat.reduceDiv, Nat.reduceAdd, Nat.reduceLeDiff, Nat.zero_le, true_and, and_true, true_or, or_true, mm_b0, mm_b1, mm_lc_lt, mm_lc_le, mm_lc_gt, mm_lc_ge, mm_lc_eq, Int.not_lt, Int.not_le, Decidable.not_not, Int.sub_neg]
        exact ⟨fun _ => h196 j he, fun z => by omega⟩
      | succ d ih =>
        intro j hj he
        simp only [misF] at he
        refine hJ 171 _ _ _ (show mm_wp _ _ _ mo_M_tellsOf_171 _ _ _ from ?_)
        simp only [mo_M_tellsOf_171, mm_wp, mm_ldi, mm_lda, mm_ldl, mm_sti, mm_sta, mm_stl, mm_inc, mm_2i, mm_mm, mm_2l, mm_lcmp, mm_i2l, mm_l2i, mm_cast8, mm_if1, mm_if2, mm_cmp, mm_swi, mm_sw, mm_pop1, mm_dup, mm_dup2, mm_geti, mm_geta, mm_puti, mm_iald, mm_bald, mm_aald, mm_iast, mm_bast, mm_alen, mm_acpy, mm_call, mm_callv, mm_recv, mm_pop, mm_find, mm_push, mm_cats, mm_cat, mm_reti, mm_retz, mm_retl, mm_reta, mm_retv, mm_set1, mm_set2, mm_kill, List.getElem?_cons_zero, List.getElem?_cons_succ, Int.reduceToNat, ↓reduceIte, Nat.reduceEqDiff, Nat.reduceDiv, Nat.reduceAdd, Nat.reduceLeDiff, Nat.zero_le, true_and, and_true, true_or, or_true, mm_b0, mm_b1, mm_lc_lt, mm_lc_le, mm_lc_gt, mm_lc_ge, mm_lc_eq, Int.not_lt, Int.not_le, Decidable.not_not, Int.sub_neg, c_0, c_1, c_2, l_2, c_3, c_4, l_4, c_5, l_5, c_6, l_6, c_7, l_7, c_8, c_9, l_9, c_10, l_10, c_11, l_11, c_12, l_12, c_13, c_14, l_14, c_15, l_15, c_16, l_16, c_17, l_17, c_18, c_19, l_19, c_20, l_20, c_21, l_21, c_22, l_22, c_23, c_24, l_24, c_25, l_25, c_26, c_27, c_28, l_28, c_29, c_30, l_30, c_31, c_32, l_32, c_33, l_33, c_34, l_34, c_35, l_35, c_36, l_36, c_37, l_37, c_38, l_38, c_39, l_39, c_40, c_41, l_41, c_42, c_43, c_44, l_44, c_45, c_46, l_46, c_47, c_48, l_48, c_49, l_49, c_50, l_50, c_51, l_51, c_52, l_52, c_53, l_53, c_54, l_54, c_55, l_55, c_56, l_56, c_57, l_57, c_58, l_58, c_59, l_59, c_60, l_60, c_61, l_61, c_62, c_63, l_63, c_64, l_64, c_65, l_65, c_66, l_66, c_67, l_67, c_68, l_68, c_69, l_69, c_70, l_70, c_71, l_71, c_72, l_72, c_73, l_73, c_74, l_74, c_75, l_75, c_76, l_76]
        refine ⟨fun z => by omega, fun _ => ⟨by omega, by omega, fun z => h196 j ?_, fun z => ⟨by omega, ih (j + 1) (by omega) ?_⟩⟩⟩
        · rw [if_neg (by omega)] at he; exact he
        · rw [if_pos (by omega)] at he; exact he
    exact hl 64 0 rfl rfl
  have h198 : k = 6 → J 198 [some (vr 62), some (vi k), some (vl 0), none, none] [] M := by
    intro hk
    simp only [tell, hk, Int.reduceEq, ↓reduceIte] at h
    refine hJ 198 _ _ _ (show mm_wp _ _ _ mo_M_tellsOf_198 _ _ _ from ?_)
    simp only [mo_M_tellsOf_198, mm_wp, mm_ldi, mm_lda, mm_ldl, mm_sti, mm_sta, mm_stl, mm_inc, mm_2i, mm_mm, mm_2l, mm_lcmp, mm_i2l, mm_l2i, mm_cast8, mm_if1, mm_if2, mm_cmp, mm_swi, mm_sw, mm_pop1, mm_dup, mm_dup2, mm_geti, mm_geta, mm_puti, mm_iald, mm_bald, mm_aald, mm_iast, mm_bast, mm_alen, mm_acpy, mm_call, mm_callv, mm_recv, mm_pop, mm_find, mm_push, mm_cats, mm_cat, mm_reti, mm_retz, mm_retl, mm_reta, mm_retv, mm_set1, mm_set2, mm_kill, List.getElem?_cons_zero, List.getElem?_cons_succ, Int.reduceToNat, ↓reduceIte, Nat.reduceEqDiff, Nat.reduceDiv, Nat.reduceAdd, Nat.reduceLeDiff, Nat.zero_le, true_and, and_true, true_or, or_true, mm_b0, mm_b1, mm_lc_lt, mm_lc_le, mm_lc_gt, mm_lc_ge, mm_lc_eq, Int.not_lt, Int.not_le, Decidable.not_not, Int.sub_neg, c_0, c_1, c_2, l_2, c_3, c_4, l_4, c_5, l_5, c_6, l_6, c_7, l_7, c_8, c_9, l_9, c_10, l_10, c_11, l_11, c_12, l_12, c_13, c_14, l_14, c_15, l_15, c_16, l_16, c_17, l_17, c_18, c_19, l_19, c_20, l_20, c_21, l_21, c_22, l_22, c_23, c_24, l_24, c_25, l_25, c_26, c_27, c_28, l_28, c_29, c_30, l_30, c_31, c_32, l_32, c_33, l_33, c_34, l_34, c_35, l_35, c_36, l_36, c_37, l_37, c_38, l_38, c_39, l_39, c_40, c_41, l_41, c_42, c_43, c_44, l_44, c_45, c_46, l_46, c_47, c_48, l_48, c_49, l_49, c_50, l_50, c_51, l_51, c_52, l_52, c_53, l_53, c_54, l_54, c_55, l_55, c_56, l_56, c_57, l_57, c_58, l_58, c_59, l_59, c_60, l_60, c_61, l_61, c_62, c_63, l_63, c_64, l_64, c_65, l_65, c_66, l_66, c_67, l_67, c_68, l_68, c_69, l_69, c_70, l_70, c_71, l_71, c_72, l_72, c_73, l_73, c_74, l_74, c_75, l_75, c_76, l_76, t_M_parts]
    exact fun M' f => h M' f
  have h204 : k = 7 → J 204 [some (vr 62), some (vi k), some (vl 0), none, none] [] M := by
    intro hk
    simp only [tell, hk, Int.reduceEq, ↓reduceIte] at hq
    generalize hf : (fun v => (M 73 v * (M 73 v - 1)).tdiv 2) = f at hq
    have hfv : ∀ v, f v = (M 73 v * (M 73 v - 1)).tdiv 2 := fun v => by rw [← hf]
    have hb : ∀ k : Nat, k < 64 → _ := fun k hk => pr_b (hT k (by omega) (by omega)).1 (hT k (by omega) (by omega)).2
    have hs : ∀ n : Nat, n ≤ 64 → 0 ≤ sN f n ∧ sN f n ≤ 3600 * n := fun n hn => by
      have := sN_b (f := f) (a := 0) (b := 3600) n (fun k hk => by rw [hfv]; exact (hb k (by omega)).2.2)
      omega
    have hl : ∀ (d j : Nat), j + d = 64 → J 207 [some (vr 62), some (vi k), some (vl (sN f j)), none, some (vi j)] [] M := by
      intro d
      induction d with
      | zero =>
        intro j hj
        have h74 : J 243 [some (vr 62), some (vi k), some (vl (sN f j)), none, some (vi j)] [] M := by
          refine hJ 243 _ _ _ (show mm_wp _ _ _ mo_M_tellsOf_243 _ _ _ from ?_)
          simp only [mo_M_tellsOf_243, mm_wp, mm_ldi, mm_lda, mm_ldl, mm_sti, mm_sta, mm_stl, mm_inc, mm_2i, mm_mm, mm_2l, mm_lcmp, mm_i2l, mm_l2i, mm_cast8, mm_if1, mm_if2, mm_cmp, mm_swi, mm_sw, mm_pop1, mm_dup, mm_dup2, mm_geti, mm_geta, mm_puti, mm_iald, mm_bald, mm_aald, mm_iast, mm_bast, mm_alen, mm_acpy, mm_call, mm_callv, mm_recv, mm_pop, mm_find, mm_push, mm_cats, mm_cat, mm_reti, mm_retz, mm_retl, mm_reta, mm_retv, mm_set1, mm_set2, mm_kill, List.getElem?_cons_zero, List.getElem?_cons_succ, Int.reduceToNat, ↓reduceIte, Nat.reduceEqDiff, Nat.reduceDiv, Nat.reduceAdd, Nat.reduceLeDiff, Nat.zero_le, true_and, and_true, true_or, or_true, mm_b0, mm_b1, mm_lc_lt, mm_lc_le, mm_lc_gt, mm_lc_ge, mm_lc_eq, Int.not_lt, Int.not_le, Decidable.not_not, Int.sub_neg]
          rw [show j = 64 by omega]; exact hq
        refine hJ 207 _ _ _ (show mm_wp _ _ _ mo_M_tellsOf_207 _ _ _ from ?_)
        simp only [mo_M_tellsOf_207, mm_wp, mm_ldi, mm_lda, mm_ldl, mm_sti, mm_sta, mm_stl, mm_inc, mm_2i, mm_mm, mm_2l, mm_lcmp, mm_i2l, mm_l2i, mm_cast8, mm_if1, mm_if2, mm_cmp, mm_swi, mm_sw, mm_pop1, mm_dup, mm_dup2, mm_geti, mm_geta, mm_puti, mm_iald, mm_bald, mm_aald, mm_iast, mm_bast, mm_alen, mm_acpy, mm_call, mm_callv, mm_recv, mm_pop, mm_find, mm_push, mm_cats, mm_cat, mm_reti, mm_retz, mm_retl, mm_reta, mm_retv, mm_set1, mm_set2, mm_kill, List.getElem?_cons_zero, List.getElem?_cons_succ, Int.reduceToNat, ↓reduceIte, Nat.reduceEqDiff, Nat.reduceDiv, Nat.reduceAdd, Nat.reduceLeDiff, Nat.zero_le, true_and, and_true, true_or, or_true, mm_b0, mm_b1, mm_lc_lt, mm_lc_le, mm_lc_gt, mm_lc_ge, mm_lc_eq, Int.not_lt, Int.not_le, Decidable.not_not, Int.sub_neg]
        exact ⟨fun _ => h74, fun z => by omega⟩
      | succ d ih =>
        intro j hj
        have b0 := hT j (by omega) (by omega)
        have b1 := hb j (by omega)
        have b2 := hs j (by omega)
        have hn := ih (j + 1) (by omega)
        simp only [sN, hfv] at hn
        refine hJ 207 _ _ _ (show mm_wp _ _ _ mo_M_tellsOf_207 _ _ _ from ?_)
        simp only [mo_M_tellsOf_207, mm_wp, mm_ldi, mm_lda, mm_ldl, mm_sti, mm_sta, mm_stl, mm_inc, mm_2i, mm_mm, mm_2l, mm_lcmp, mm_i2l, mm_l2i, mm_cast8, mm_if1, mm_if2, mm_cmp, mm_swi, mm_sw, mm_pop1, mm_dup, mm_dup2, mm_geti, mm_geta, mm_puti, mm_iald, mm_bald, mm_aald, mm_iast, mm_bast, mm_alen, mm_acpy, mm_call, mm_callv, mm_recv, mm_pop, mm_find, mm_push, mm_cats, mm_cat, mm_reti, mm_retz, mm_retl, mm_reta, mm_retv, mm_set1, mm_set2, mm_kill, List.getElem?_cons_zero, List.getElem?_cons_succ, Int.reduceToNat, ↓reduceIte, Nat.reduceEqDiff, Nat.reduceDiv, Nat.reduceAdd, Nat.reduceLeDiff, Nat.zero_le, true_and, and_true, true_or, or_true, mm_b0, mm_b1, mm_lc_lt, mm_lc_le, mm_lc_gt, mm_lc_ge, mm_lc_eq, Int.not_lt, Int.not_le, Decidable.not_not, Int.sub_neg, c_0, c_1, c_2, l_2, c_3, c_4, l_4, c_5, l_5, c_6, l_6, c_7, l_7, c_8, c_9, l_9, c_10, l_10, c_11, l_11, c_12, l_12, c_13, c_14, l_14, c_15, l_15, c_16, l_16, c_17, l_17, c_18, c_19, l_19, c_20, l_20, c_21, l_21, c_22, l_22, c_23, c_24, l_24, c_25, l_25, c_26, c_27, c_28, l_28, c_29, c_30, l_30, c_31, c_32, l_32, c_33, l_33, c_34, l_34, c_35, l_35, c_36, l_36, c_37, l_37, c_38, l_38, c_39, l_39, c_40, c_41, l_41, c_42, c_43, c_44, l_44, c_45, c_46, l_46, c_47, c_48, l_48, c_49, l_49, c_50, l_50, c_51, l_51, c_52, l_52, c_53, l_53, c_54, l_54, c_55, l_55, c_56, l_56, c_57, l_57, c_58, l_58, c_59, l_59, c_60, l_60, c_61, l_61, c_62, c_63, l_63, c_64, l_64, c_65, l_65, c_66, l_66, c_67, l_67, c_68, l_68, c_69, l_69, c_70, l_70, c_71, l_71, c_72, l_72, c_73, l_73, c_74, l_74, c_75, l_75, c_76, l_76]
        refine ⟨fun z => by omega, fun _ => ?_⟩
        repeat (refine And.intro (by omega) ?_)
        exact hn
    refine hJ 204 _ _ _ (show mm_wp _ _ _ mo_M_tellsOf_204 _ _ _ from ?_)
    simp only [mo_M_tellsOf_204, mm_wp, mm_ldi, mm_lda, mm_ldl, mm_sti, mm_sta, mm_stl, mm_inc, mm_2i, mm_mm, mm_2l, mm_lcmp, mm_i2l, mm_l2i, mm_cast8, mm_if1, mm_if2, mm_cmp, mm_swi, mm_sw, mm_pop1, mm_dup, mm_dup2, mm_geti, mm_geta, mm_puti, mm_iald, mm_bald, mm_aald, mm_iast, mm_bast, mm_alen, mm_acpy, mm_call, mm_callv, mm_recv, mm_pop, mm_find, mm_push, mm_cats, mm_cat, mm_reti, mm_retz, mm_retl, mm_reta, mm_retv, mm_set1, mm_set2, mm_kill, List.getElem?_cons_zero, List.getElem?_cons_succ, Int.reduceToNat, ↓reduceIte, Nat.reduceEqDiff, Nat.reduceDiv, Nat.reduceAdd, Nat.reduceLeDiff, Nat.zero_le, true_and, and_true, true_or, or_true, mm_b0, mm_b1, mm_lc_lt, mm_lc_le, mm_lc_gt, mm_lc_ge, mm_lc_eq, Int.not_lt, Int.not_le, Decidable.not_not, Int.sub_neg]
    exact hl 64 0 rfl
  refine hJ 0 _ _ _ (show mm_wp _ _ _ mo_M_tellsOf_0 _ _ _ from ?_)
  simp only [mo_M_tellsOf_0, mm_wp, mm_ldi, mm_lda, mm_ldl, mm_sti, mm_sta, mm_stl, mm_inc, mm_2i, mm_mm, mm_2l, mm_lcmp, mm_i2l, mm_l2i, mm_cast8, mm_if1, mm_if2, mm_cmp, mm_swi, mm_sw, mm_pop1, mm_dup, mm_dup2, mm_geti, mm_geta, mm_puti, mm_iald, mm_bald, mm_aald, mm_iast, mm_bast, mm_alen, mm_acpy, mm_call, mm_callv, mm_recv, mm_pop, mm_find, mm_push, mm_cats, mm_cat, mm_reti, mm_retz, mm_retl, mm_reta, mm_retv, mm_set1, mm_set2, mm_kill, List.getElem?_cons_zero, List.getElem?_cons_succ, Int.reduceToNat, ↓reduceIte, Nat.reduceEqDiff, Nat.reduceDiv, Nat.reduceAdd, Nat.reduceLeDiff, Nat.zero_le, true_and, and_true, true_or, or_true, mm_b0, mm_b1, mm_lc_lt, mm_lc_le, mm_lc_gt, mm_lc_ge, mm_lc_eq, Int.not_lt, Int.not_le, Decidable.not_not, Int.sub_neg]
  exact ⟨fun z => h44 z, fun _ => ⟨fun z => h76 z, fun _ => ⟨fun z => h112 z, fun _ => ⟨fun z => h123 z, fun _ => ⟨fun z => h129 z, fun _ => ⟨fun z => h171 z, fun _ => ⟨fun z => h198 z, fun _ => h204 (by omega)⟩⟩⟩⟩⟩⟩⟩
