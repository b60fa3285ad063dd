/-! ties: ask, drop, weight, set -/
theorem tie_ask {c : Int} {M : mmM} (h : tieR c M) (k f l t : Int) : tieZ t_P_ask t_M_ask [vr 0, vi k, vi f, vi l, vi t] [vr 62, vi k, vi f, vi l, vi t] c M := by
  have hr := h.1.1
  have hq := h.1.2.1
  have ha := h.1.2.2.2.2.1
  have h29 := tie_29 h
  have hm := tie_mR h
  obtain ⟨e2, e3, e5, e8, e10, e11, e12, e29, e34⟩ := h.2.1.1
  obtain ⟨a39, a40, a41, a42, a43, a44⟩ := h.2.1.2.1
  have eq := h.2.1.2.2.2.2.2.1
  have hq0 := hq.1
  have hq1 := hq.2.1
  have hr4 := hr.2.2.2.1
  refine ⟨rfl, hr, ha, hq0, hq1, fun hy => ?_, fun hn => ⟨_, rfl, rfl, hm.2.2.2.1, by omega, by omega, h29.1, h29.2, fun _ => ⟨rfl, tz_tie h⟩, fun w => absurd (by rw [e3, e5, e8] at w; exact w) hn⟩⟩
  generalize hT : (if t = -1 then M 13 5 else t) = T
  have hTb : 0 ≤ T ∧ T ≤ M 13 5 := by rw [← hT]; split <;> omega
  generalize hB : qAdd M 18 k f l T = B0
  have b47 : ∀ o, o < 18 ∨ 22 < o → B0 o = M o := fun o x => by rw [← hB, qAdd_o (by omega)]
  have haB : acI B0 := by unfold acI; rw [b47 47 (by omega)]; exact ha
  have ha3 := haB
  unfold acI at ha3
  generalize hM1 : aNote B0 1 0 0 0 0 = M1
  have f1 : ∀ o, (o < 47 ∨ 61 < o) → M1 o = B0 o := fun o x => by rw [← hM1, aNote_o ⟨ha3.2.2.1, ha3.2.2.2⟩ x]
  have f62 : M1 62 = M 62 := by rw [f1 62 (by omega), b47 62 (by omega)]
  refine ⟨_, rfl, rfl, by rw [f62]; exact hm.2.2.2.1, by rw [f62]; omega, by rw [f62]; omega, by rw [f62]; exact h29.1, by rw [f62]; exact h29.2, fun w => absurd (by rw [f62, e3, e5, e8]; exact hy) w, fun _ M' hk => ?_⟩
  rw [f62, e8]
  refine ⟨rfl, ?_⟩
  have m8 : M' 62 8 = M 18 4 := by rw [hk.2.1 8 (by decide), tz_i M1 (by decide), f62, e8]
  have m5 : M' 62 5 = M 13 5 := by rw [hk.2.1 5 (by decide), tz_i M1 (by decide), f62, e5]
  obtain ⟨n1, n2, n3, n4, n5, n6, n7⟩ := tie_note (M2 := asM M' k f l t) (B0 := B0) h (fun o x y => b47 o (by omega)) (fun o x y => by rw [← hM1]) hk (by rw [f62]) (by rw [f1 72 (by omega), b47 72 (by omega)]) (fun o x y => asM_o (by omega) (by omega)) (asM_62 (by decide)) (asM_o (by decide) (by decide))
  have gB : ∀ o, (o < 47 ∨ 61 < o) → o ≠ 62 → o ≠ 67 → o ≠ 72 → asM M' k f l t o = B0 o := fun o x w1 w2 w3 => by rw [asM_o w1 w2, hk.1 o w1 w3, tz_o M1 w1, f1 o x]
  have gj : ∀ j, j ≠ 0 → j ≠ 8 → j ≠ 29 → asM M' k f l t 62 j = M 62 j := fun j x y z => by rw [asM_62 y, hk.2.1 j z, tz_i M1 x, f62]
  have g8 : asM M' k f l t 62 8 = M 18 4 + 1 := by rw [asM_8, m8]
  have e67 : M' 67 = M 67 := by rw [hk.1 67 (by decide) (by decide), tz_o M1 (by decide), f1 67 (by omega), b47 67 (by omega)]
  have gq : ∀ q, q ≠ M 18 4 → mk (asM M' k f l t) q = mk M q ∧ mf (asM M' k f l t) q = mf M q ∧ ml (asM M' k f l t) q = ml M q ∧ mt (asM M' k f l t) q = mt M q := by
    intro q hq
    have := asM_v (M := M') (k := k) (f := f) (l := l) (t := t) (q := q) (by rw [m8]; exact hq)
    unfold mk mf ml mt at this ⊢
    rw [e67] at this
    exact this
  have gn : mk (asM M' k f l t) (M 18 4) = k ∧ mf (asM M' k f l t) (M 18 4) = f ∧ ml (asM M' k f l t) (M 18 4) = l ∧ mt (asM M' k f l t) (M 18 4) = T := by
    have := asM_n (M := M') (k := k) (f := f) (l := l) (t := t)
    rw [m8, m5, hT] at this
    exact this
  generalize asM M' k f l t = M2 at *
  have g184 : M2 18 4 = M 18 4 + 1 := by rw [gB 18 (by omega) (by decide) (by decide) (by decide), ← hB, qAdd_4]
  have gi : ∀ q, q ≠ M 18 4 → M2 19 q = M 19 q ∧ M2 20 q = M 20 q ∧ M2 21 q = M 21 q ∧ M2 22 q = M 22 q := by
    intro q hq
    rw [gB 19 (by omega) (by decide) (by decide) (by decide), gB 20 (by omega) (by decide) (by decide) (by decide), gB 21 (by omega) (by decide) (by decide) (by decide), gB 22 (by omega) (by decide) (by decide) (by decide), ← hB]
    exact qAdd_i hq
  have gm : M2 19 (M 18 4) = k ∧ M2 20 (M 18 4) = f ∧ M2 21 (M 18 4) = l ∧ M2 22 (M 18 4) = T := by
    rw [gB 19 (by omega) (by decide) (by decide) (by decide), gB 20 (by omega) (by decide) (by decide) (by decide), gB 21 (by omega) (by decide) (by decide) (by decide), gB 22 (by omega) (by decide) (by decide) (by decide), ← hB]
    exact qAdd_n
  have gg : ∀ o, (o < 18 ∨ 22 < o ∧ o < 47 ∨ 61 < o) → o ≠ 62 ∧ o ≠ 67 ∧ o ≠ 72 → M2 o = M o := fun o x y => by rw [gB o (by omega) y.1 y.2.1 y.2.2, b47 o (by omega)]
  have e0 := gg 0 (by omega) (by decide)
  have e1 := gg 1 (by omega) (by decide)
  have e13 := gg 13 (by omega) (by decide)
  have e14 := gg 14 (by omega) (by decide)
  have e15 := gg 15 (by omega) (by decide)
  have e16 := gg 16 (by omega) (by decide)
  have e45 := gg 45 (by omega) (by decide)
  have e64 := gg 64 (by omega) (by decide)
  have e65 := gg 65 (by omega) (by decide)
  have e66 := gg 66 (by omega) (by decide)
  refine tie_put h ?_ ?_ ?_ (wnB_s h.1.2.2.2.1 e45 (by rw [e13]) (by rw [e13]; omega)) n1 n2 n3 n4 n5 n6 (fun m hm => ?_) (by rw [e1]) (gj 2 (by decide) (by decide) (by decide)) (gg 2 (by omega) (by decide)) (gg 63 (by omega) (by decide)) ⟨?_, ?_, ?_, ?_, ?_, ?_, n7, ?_⟩ ⟨?_, ?_, ?_, ?_, ?_, ?_⟩ ?_ ?_ (fun q q0 q9 => ?_)
  · unfold rwI; rw [e13, e14, e15, e16]; exact hr
  · unfold quI; rw [g184, e13]
    refine ⟨by omega, by omega, fun q q0 q9 => ?_⟩
    by_cases cq : q = M 18 4
    · rw [cq, gm.1, gm.2.1, gm.2.2.1, gm.2.2.2]; omega
    · have := gi q cq
      rw [this.1, this.2.1, this.2.2.1, this.2.2.2]
      exact hq.2.2 q q0 (by omega)
  · unfold seI; rw [e0]; exact h.1.2.2.1
  · rw [e13, g184]
    simp only [okA]
    rw [n3]
    refine ⟨⟨by simp, by simp⟩, fun c => by simp at c, fun _ => ⟨by omega, ?_⟩, fun c => by simp at c, fun c => by simp at c, fun c => by simp at c, fun c => by simp at c⟩
    rw [show M 18 4 + 1 - 1 = M 18 4 by omega]
    exact okA_c _ _ 1 1 _ _ _ _ (Nat.le_refl _) (fun _ _ => rfl) (fun i i0 i1 => (gi i (by omega)).2.2.2) hm
  · rw [gj 3 (by decide) (by decide) (by decide), e13, e3]
  · rw [gj 5 (by decide) (by decide) (by decide), e13, e5]
  · rw [g8, g184]
  · rw [gj 10 (by decide) (by decide) (by decide), e0, e10]
  · rw [gj 11 (by decide) (by decide) (by decide), e0, e11]
  · rw [gj 12 (by decide) (by decide) (by decide), e0, e12]
  · rw [gj 34 (by decide) (by decide) (by decide), e34]
  · rw [gj 39 (by decide) (by decide) (by decide), e45, a39]
  · rw [gj 40 (by decide) (by decide) (by decide), e45, a40]
  · rw [gj 41 (by decide) (by decide) (by decide), e45, a41]
  · rw [gj 42 (by decide) (by decide) (by decide), e45, a42]
  · rw [gj 43 (by decide) (by decide) (by decide), e45, a43]
  · rw [gj 44 (by decide) (by decide) (by decide), e45, a44]
  · rw [e13, e14, e64]; exact h.2.1.2.2.2.1
  · rw [e13, e15, e16, e65, e66]; exact h.2.1.2.2.2.2.1
  · rw [g184] at q9
    by_cases cq : q = M 18 4
    · rw [cq, gm.1, gm.2.1, gm.2.2.1, gm.2.2.2]
      exact gn
    · have x1 := gi q cq
      have x2 := gq q cq
      rw [x1.1, x1.2.1, x1.2.2.1, x1.2.2.2, x2.1, x2.2.1, x2.2.2.1, x2.2.2.2]
      exact eq q q0 (by omega)
theorem tie_drop {c : Int} {M : mmM} (h : tieR c M) : tieZ t_P_drop t_M_drop [vr 0] [vr 62] c M := by
  have hr := h.1.1
  have hq := h.1.2.1
  have ha := h.1.2.2.2.2.1
  have h29 := tie_29 h
  obtain ⟨e2, e3, e5, e8, e10, e11, e12, e29, e34⟩ := h.2.1.1
  obtain ⟨a39, a40, a41, a42, a43, a44⟩ := h.2.1.2.1
  have eq := h.2.1.2.2.2.2.2.1
  have hq0 := hq.1
  have hq1 := hq.2.1
  refine ⟨rfl, ha, hq0, hq1, fun hy => ?_, fun hn => ⟨_, rfl, rfl, by omega, by omega, h29.1, h29.2, fun _ => ⟨rfl, tz_tie h⟩, fun w => by omega⟩⟩
  have ha3 := ha
  unfold acI at ha3
  generalize hM1 : mm_up (aNote M 2 (M 19 (M 18 4 - 1)) (M 20 (M 18 4 - 1)) (M 21 (M 18 4 - 1)) (M 22 (M 18 4 - 1))) 18 4 (M 18 4 - 1) = M1
  have f1 : ∀ o, (o < 47 ∨ 61 < o) → o ≠ 18 → M1 o = M o := fun o x y => by rw [← hM1, mm_up_o _ _ y, aNote_o ⟨ha3.2.2.1, ha3.2.2.2⟩ x]
  have f18 : M1 18 4 = M 18 4 - 1 := by rw [← hM1, mm_up_s]
  have f62 : M1 62 = M 62 := f1 62 (by omega) (by decide)
  have f67 : M1 67 = M 67 := f1 67 (by omega) (by decide)
  refine ⟨_, rfl, rfl, by rw [f62]; omega, by rw [f62]; omega, by rw [f62]; exact h29.1, by rw [f62]; exact h29.2, fun w => by rw [f62] at w; omega, fun _ M' hk => ?_⟩
  obtain ⟨q1, q2, q3, q4⟩ := eq (M 18 4 - 1) (by omega) (by omega)
  unfold mk at q1
  unfold mf at q2
  unfold ml at q3
  unfold mt at q4
  rw [f62, f67, e8, show 4 * M 18 4 - 4 = 4 * (M 18 4 - 1) by omega, q1, q2, q3, q4] at hk
  rw [f62, e8]
  refine ⟨rfl, ?_⟩
  obtain ⟨n1, n2, n3, n4, n5, n6, n7⟩ := tie_note (M2 := mm_up M' 62 8 (M 18 4 - 1)) (B0 := M) h (fun o x y => rfl) (fun o x y => by rw [← hM1, mm_up_o _ _ (by omega)]) hk (by rw [f62]) (f1 72 (by omega) (by decide)) (fun o x y => mm_up_o _ _ (by omega)) (mm_up_i _ (by decide)) (mm_up_o _ _ (by decide))
  have gg : ∀ o, (o < 47 ∨ 61 < o) → o ≠ 18 ∧ o ≠ 62 ∧ o ≠ 72 → mm_up M' 62 8 (M 18 4 - 1) o = M o := fun o x y => by rw [mm_up_o _ _ y.2.1, hk.1 o y.2.1 y.2.2, tz_o M1 y.2.1, f1 o x y.1]
  have gj : ∀ j, j ≠ 0 → j ≠ 8 → j ≠ 29 → mm_up M' 62 8 (M 18 4 - 1) 62 j = M 62 j := fun j x y z => by rw [mm_up_i _ y, hk.2.1 j z, tz_i M1 x, f62]
  have g8 : mm_up M' 62 8 (M 18 4 - 1) 62 8 = M 18 4 - 1 := mm_up_s _ _ _ _
  have g184 : mm_up M' 62 8 (M 18 4 - 1) 18 4 = M 18 4 - 1 := by rw [mm_up_o _ _ (by decide), hk.1 18 (by decide) (by decide), tz_o M1 (by decide), f18]
  generalize mm_up M' 62 8 (M 18 4 - 1) = M2 at *
  have e0 := gg 0 (by omega) (by decide)
  have e1 := gg 1 (by omega) (by decide)
  have e13 := gg 13 (by omega) (by decide)
  have e14 := gg 14 (by omega) (by decide)
  have e15 := gg 15 (by omega) (by decide)
  have e16 := gg 16 (by omega) (by decide)
  have e19 := gg 19 (by omega) (by decide)
  have e20 := gg 20 (by omega) (by decide)
  have e21 := gg 21 (by omega) (by decide)
  have e22 := gg 22 (by omega) (by decide)
  have e45 := gg 45 (by omega) (by decide)
  have e64 := gg 64 (by omega) (by decide)
  have e65 := gg 65 (by omega) (by decide)
  have e66 := gg 66 (by omega) (by decide)
  have e67 := gg 67 (by omega) (by decide)
  refine tie_put h ?_ ?_ ?_ (wnB_s h.1.2.2.2.1 e45 (by rw [e13]) (by rw [e13]; omega)) n1 n2 n3 n4 n5 n6 (fun m hm => ?_) (by rw [e1]) (gj 2 (by decide) (by decide) (by decide)) (gg 2 (by omega) (by decide)) (gg 63 (by omega) (by decide)) ⟨?_, ?_, ?_, ?_, ?_, ?_, n7, ?_⟩ ⟨?_, ?_, ?_, ?_, ?_, ?_⟩ ?_ ?_ ?_
  · unfold rwI; rw [e13, e14, e15, e16]; exact hr
  · unfold quI; rw [g184, e13, e19, e20, e21, e22]
    exact ⟨by omega, by omega, fun q q0 q9 => hq.2.2 q q0 (by omega)⟩
  · unfold seI; rw [e0]; exact h.1.2.2.1
  · rw [e13, g184, e22]
    simp only [okA]
    rw [n3]
    have hv := hq.2.2 (M 18 4 - 1) (by omega) (by omega)
    refine ⟨⟨by simp, by simp⟩, fun c => by simp at c, fun c => by simp at c, fun _ => ⟨by omega, ⟨hv.1, hv.2.1⟩, ⟨hv.2.2.1, hv.2.2.2.1, hv.2.2.2.2.1⟩, ⟨hv.2.2.2.2.2.1, hv.2.2.2.2.2.2⟩, ?_⟩, fun c => by simp at c, fun c => by simp at c, fun c => by simp at c⟩
    rw [show M 18 4 - 1 + 1 = M 18 4 by omega]
    refine okA_c _ _ 1 1 _ _ _ _ (Nat.le_refl _) (fun _ _ => rfl) (fun i i0 i1 => ?_) hm
    by_cases ci : i = M 18 4 - 1
    · simp only [if_pos ci]; rw [ci]
    · simp only [if_neg ci]
  · rw [gj 3 (by decide) (by decide) (by decide), e13, e3]
  · rw [gj 5 (by decide) (by decide) (by decide), e13, e5]
  · rw [g8, g184]
  · rw [gj 10 (by decide) (by decide) (by decide), e0, e10]
  · rw [gj 11 (by decide) (by decide) (by decide), e0, e11]
  · rw [gj 12 (by decide) (by decide) (by decide), e0, e12]
  · rw [gj 34 (by decide) (by decide) (by decide), e34]
  · rw [gj 39 (by decide) (by decide) (by decide), e45, a39]
  · rw [gj 40 (by decide) (by decide) (by decide), e45, a40]
  · rw [gj 41 (by decide) (by decide) (by decide), e45, a41]
  · rw [gj 42 (by decide) (by decide) (by decide), e45, a42]
  · rw [gj 43 (by decide) (by decide) (by decide), e45, a43]
  · rw [gj 44 (by decide) (by decide) (by decide), e45, a44]
  · rw [e13, e14, e64]; exact h.2.1.2.2.2.1
  · rw [e13, e15, e16, e65, e66]; exact h.2.1.2.2.2.2.1
  · intro q q0 q9
    rw [g184] at q9
    have := eq q q0 (by omega)
    unfold mk mf ml mt at *
    rw [e19, e20, e21, e22, e67]
    exact this
theorem tie_weight {c : Int} {M : mmM} (h : tieR c M) (w : Int) : tieZ t_P_weight t_M_weight [vr 0, vi w] [vr 62, vi w] c M := by
  have hs := h.1.2.2.1
  have ha := h.1.2.2.2.2.1
  have h29 := tie_29 h
  obtain ⟨e2, e3, e5, e8, e10, e11, e12, e29, e34⟩ := h.2.1.1
  obtain ⟨a39, a40, a41, a42, a43, a44⟩ := h.2.1.2.1
  refine ⟨rfl, ha, fun hy => ?_, fun hn => ⟨_, rfl, rfl, h29.1, h29.2, fun _ => ⟨rfl, tz_tie h⟩, fun w => absurd w hn⟩⟩
  have haB : acI (mm_up M 0 9 w) := by unfold acI; rw [mm_up_o _ _ (by decide)]; exact ha
  have ha3 := haB
  unfold acI at ha3
  generalize hM1 : aNote (mm_up M 0 9 w) 3 (M 0 9) 0 0 0 = M1
  have f1 : ∀ o, (o < 47 ∨ 61 < o) → o ≠ 0 → M1 o = M o := fun o x y => by rw [← hM1, aNote_o ⟨ha3.2.2.1, ha3.2.2.2⟩ x, mm_up_o _ _ y]
  have f0 : ∀ z, M1 0 z = if z = 9 then w else M 0 z := fun z => by rw [← hM1, aNote_o ⟨ha3.2.2.1, ha3.2.2.2⟩ (by omega), mm_up_if]
  have f62 : M1 62 = M 62 := f1 62 (by omega) (by decide)
  refine ⟨_, rfl, rfl, by rw [f62]; exact h29.1, by rw [f62]; exact h29.2, fun w => absurd hy w, fun _ M' hk => ?_⟩
  rw [f62, e10] at hk ⊢
  refine ⟨rfl, ?_⟩
  obtain ⟨n1, n2, n3, n4, n5, n6, n7⟩ := tie_note (M2 := mm_up M' 62 10 w) (B0 := mm_up M 0 9 w) h (fun o x y => mm_up_o _ _ (by omega)) (fun o x y => by rw [← hM1]) hk (by rw [f62]) (f1 72 (by omega) (by decide)) (fun o x y => mm_up_o _ _ (by omega)) (mm_up_i _ (by decide)) (mm_up_o _ _ (by decide))
  have gg : ∀ o, (o < 47 ∨ 61 < o) → o ≠ 0 ∧ o ≠ 62 ∧ o ≠ 72 → mm_up M' 62 10 w o = M o := fun o x y => by rw [mm_up_o _ _ y.2.1, hk.1 o y.2.1 y.2.2, tz_o M1 y.2.1, f1 o x y.1]
  have gj : ∀ j, j ≠ 0 → j ≠ 10 → j ≠ 29 → mm_up M' 62 10 w 62 j = M 62 j := fun j x y z => by rw [mm_up_i _ y, hk.2.1 j z, tz_i M1 x, f62]
  have g10 : mm_up M' 62 10 w 62 10 = w := mm_up_s _ _ _ _
  have g0 : ∀ z, mm_up M' 62 10 w 0 z = if z = 9 then w else M 0 z := fun z => by rw [mm_up_o _ _ (by decide), hk.1 0 (by decide) (by decide), tz_o M1 (by decide), f0]
  generalize mm_up M' 62 10 w = M2 at *
  have e1 := gg 1 (by omega) (by decide)
  have e13 := gg 13 (by omega) (by decide)
  have e14 := gg 14 (by omega) (by decide)
  have e15 := gg 15 (by omega) (by decide)
  have e16 := gg 16 (by omega) (by decide)
  have e18 := gg 18 (by omega) (by decide)
  have e19 := gg 19 (by omega) (by decide)
  have e20 := gg 20 (by omega) (by decide)
  have e21 := gg 21 (by omega) (by decide)
  have e22 := gg 22 (by omega) (by decide)
  have e45 := gg 45 (by omega) (by decide)
  have e64 := gg 64 (by omega) (by decide)
  have e65 := gg 65 (by omega) (by decide)
  have e66 := gg 66 (by omega) (by decide)
  have e67 := gg 67 (by omega) (by decide)
  have z9 : M2 0 9 = w := by rw [g0]; rfl
  have z10 : M2 0 10 = M 0 10 := by rw [g0]; rfl
  have z11 : M2 0 11 = M 0 11 := by rw [g0]; rfl
  unfold seI at hs
  refine tie_put h ?_ ?_ ?_ (wnB_s h.1.2.2.2.1 e45 (by rw [e13]) (by rw [e13]; omega)) n1 n2 n3 n4 n5 n6 (fun m hm => ?_) (by rw [e1]) (gj 2 (by decide) (by decide) (by decide)) (gg 2 (by omega) (by decide)) (gg 63 (by omega) (by decide)) ⟨?_, ?_, ?_, ?_, ?_, ?_, n7, ?_⟩ ⟨?_, ?_, ?_, ?_, ?_, ?_⟩ ?_ ?_ ?_
  · unfold rwI; rw [e13, e14, e15, e16]; exact h.1.1
  · unfold quI; rw [e18, e13, e19, e20, e21, e22]; exact h.1.2.1
  · unfold seI; rw [z9, z10, z11]; omega
  · rw [e13, e18, e22]
    simp only [okA]
    rw [n3]
    exact ⟨⟨by simp, by simp⟩, fun c => by simp at c, fun c => by simp at c, fun c => by simp at c, fun _ => ⟨⟨hs.1, hs.2.1⟩, hm⟩, fun c => by simp at c, fun c => by simp at c⟩
  · rw [gj 3 (by decide) (by decide) (by decide), e13, e3]
  · rw [gj 5 (by decide) (by decide) (by decide), e13, e5]
  · rw [gj 8 (by decide) (by decide) (by decide), e18, e8]
  · rw [g10, z9]
  · rw [gj 11 (by decide) (by decide) (by decide), z10, e11]
  · rw [gj 12 (by decide) (by decide) (by decide), z11, e12]
  · rw [gj 34 (by decide) (by decide) (by decide), e34]
  · rw [gj 39 (by decide) (by decide) (by decide), e45, a39]
  · rw [gj 40 (by decide) (by decide) (by decide), e45, a40]
  · rw [gj 41 (by decide) (by decide) (by decide), e45, a41]
  · rw [gj 42 (by decide) (by decide) (by decide), e45, a42]
  · rw [gj 43 (by decide) (by decide) (by decide), e45, a43]
  · rw [gj 44 (by decide) (by decide) (by decide), e45, a44]
  · rw [e13, e14, e64]; exact h.2.1.2.2.2.1
  · rw [e13, e15, e16, e65, e66]; exact h.2.1.2.2.2.2.1
  · unfold mk mf ml mt
    rw [e18, e19, e20, e21, e22, e67]; exact h.2.1.2.2.2.2.2.1
theorem tie_set {c : Int} {M : mmM} (h : tieR c M) (p b : Int) : tieZ t_P_set t_M_set [vr 0, vi p, vi b] [vr 62, vi p, vi b] c M := by
  have hs := h.1.2.2.1
  have hs' := tie_se h
  have ha := h.1.2.2.2.2.1
  have h29 := tie_29 h
  obtain ⟨e2, e3, e5, e8, e10, e11, e12, e29, e34⟩ := h.2.1.1
  obtain ⟨a39, a40, a41, a42, a43, a44⟩ := h.2.1.2.1
  refine ⟨rfl, ha, hs, fun hy => ?_, fun hn => ⟨_, rfl, rfl, h29.1, h29.2, hs'.2.2.1, hs'.2.2.2.1, hs'.2.2.2.2.1, hs'.2.2.2.2.2, fun _ => ⟨rfl, tz_tie h⟩, fun w => absurd w hn⟩⟩
  have ha3 := ha
  unfold acI at ha3
  generalize hM1 : mm_up (mm_up (aNote M 4 (M 0 10) (M 0 11) 0 0) 0 10 p) 0 11 b = M1
  have f1 : ∀ o, (o < 47 ∨ 61 < o) → o ≠ 0 → M1 o = M o := fun o x y => by rw [← hM1, mm_up_o _ _ y, mm_up_o _ _ y, aNote_o ⟨ha3.2.2.1, ha3.2.2.2⟩ x]
  have f0 : ∀ z, M1 0 z = if z = 11 then b else if z = 10 then p else M 0 z := fun z => by rw [← hM1, mm_up_if, mm_up_if, aNote_o ⟨ha3.2.2.1, ha3.2.2.2⟩ (by omega)]
  have f62 : M1 62 = M 62 := f1 62 (by omega) (by decide)
  refine ⟨_, rfl, rfl, by rw [f62]; exact h29.1, by rw [f62]; exact h29.2, by rw [f62]; exact hs'.2.2.1, by rw [f62]; exact hs'.2.2.2.1, by rw [f62]; exact hs'.2.2.2.2.1, by rw [f62]; exact hs'.2.2.2.2.2, fun w => absurd hy w, fun _ M' hk => ?_⟩
  rw [f62, e11, e12] at hk ⊢
  refine ⟨rfl, ?_⟩
  obtain ⟨n1, n2, n3, n4, n5, n6, n7⟩ := tie_note (M2 := mm_up (mm_up M' 62 11 p) 62 12 b) (B0 := M) h (fun o x y => rfl) (fun o x y => by rw [← hM1, mm_up_o _ _ (by omega), mm_up_o _ _ (by omega)]) hk (by rw [f62]) (f1 72 (by omega) (by decide)) (fun o x y => by rw [mm_up_o _ _ (by omega), mm_up_o _ _ (by omega)]) (by rw [mm_up_i _ (by decide), mm_up_i _ (by decide)]) (by rw [mm_up_o _ _ (by decide), mm_up_o _ _ (by decide)])
  have gg : ∀ o, (o < 47 ∨ 61 < o) → o ≠ 0 ∧ o ≠ 62 ∧ o ≠ 72 → mm_up (mm_up M' 62 11 p) 62 12 b o = M o := fun o x y => by rw [mm_up_o _ _ y.2.1, mm_up_o _ _ y.2.1, hk.1 o y.2.1 y.2.2, tz_o M1 y.2.1, f1 o x y.1]
  have gj : ∀ j, j ≠ 0 → j ≠ 11 → j ≠ 12 → j ≠ 29 → mm_up (mm_up M' 62 11 p) 62 12 b 62 j = M 62 j := fun j x y u z => by rw [mm_up_i _ u, mm_up_i _ y, hk.2.1 j z, tz_i M1 x, f62]
  have g11 : mm_up (mm_up M' 62 11 p) 62 12 b 62 11 = p := by rw [mm_up_i _ (by decide), mm_up_s]
  have g12 : mm_up (mm_up M' 62 11 p) 62 12 b 62 12 = b := mm_up_s _ _ _ _
  have g0 : ∀ z, mm_up (mm_up M' 62 11 p) 62 12 b 0 z = if z = 11 then b else if z = 10 then p else M 0 z := fun z => by rw [mm_up_o _ _ (by decide), mm_up_o _ _ (by decide), hk.1 0 (by decide) (by decide), tz_o M1 (by decide), f0]
  generalize mm_up (mm_up M' 62 11 p) 62 12 b = M2 at *
  have e1 := gg 1 (by omega) (by decide)
  have e13 := gg 13 (by omega) (by decide)
  have e14 := gg 14 (by omega) (by decide)
  have e15 := gg 15 (by omega) (by decide)
  have e16 := gg 16 (by omega) (by decide)
  have e18 := gg 18 (by omega) (by decide)
  have e19 := gg 19 (by omega) (by decide)
  have e20 := gg 20 (by omega) (by decide)
  have e21 := gg 21 (by omega) (by decide)
  have e22 := gg 22 (by omega) (by decide)
  have e45 := gg 45 (by omega) (by decide)
  have e64 := gg 64 (by omega) (by decide)
  have e65 := gg 65 (by omega) (by decide)
  have e66 := gg 66 (by omega) (by decide)
  have e67 := gg 67 (by omega) (by decide)
  have z9 : M2 0 9 = M 0 9 := by rw [g0]; rfl
  have z10 : M2 0 10 = p := by rw [g0]; rfl
  have z11 : M2 0 11 = b := by rw [g0]; rfl
  unfold seI at hs
  refine tie_put h ?_ ?_ ?_ (wnB_s h.1.2.2.2.1 e45 (by rw [e13]) (by rw [e13]; omega)) n1 n2 n3 n4 n5 n6 (fun m hm => ?_) (by rw [e1]) (gj 2 (by decide) (by decide) (by decide) (by decide)) (gg 2 (by omega) (by decide)) (gg 63 (by omega) (by decide)) ⟨?_, ?_, ?_, ?_, ?_, ?_, n7, ?_⟩ ⟨?_, ?_, ?_, ?_, ?_, ?_⟩ ?_ ?_ ?_
  · unfold rwI; rw [e13, e14, e15, e16]; exact h.1.1
  · unfold quI; rw [e18, e13, e19, e20, e21, e22]; exact h.1.2.1
  · unfold seI; rw [z9, z10, z11]; omega
  · rw [e13, e18, e22]
    simp only [okA]
    rw [n3]
    exact ⟨⟨by simp, by simp⟩, fun c => by simp at c, fun c => by simp at c, fun c => by simp at c, fun c => by simp at c, fun _ => ⟨⟨hs.2.2.1, hs.2.2.2.1, hs.2.2.2.2.1, hs.2.2.2.2.2⟩, hm⟩, fun c => by simp at c⟩
  · rw [gj 3 (by decide) (by decide) (by decide) (by decide), e13, e3]
  · rw [gj 5 (by decide) (by decide) (by decide) (by decide), e13, e5]
  · rw [gj 8 (by decide) (by decide) (by decide) (by decide), e18, e8]
  · rw [gj 10 (by decide) (by decide) (by decide) (by decide), z9, e10]
  · rw [g11, z10]
  · rw [g12, z11]
  · rw [gj 34 (by decide) (by decide) (by decide) (by decide), e34]
  · rw [gj 39 (by decide) (by decide) (by decide) (by decide), e45, a39]
  · rw [gj 40 (by decide) (by decide) (by decide) (by decide), e45, a40]
  · rw [gj 41 (by decide) (by decide) (by decide) (by decide), e45, a41]
  · rw [gj 42 (by decide) (by decide) (by decide) (by decide), e45, a42]
  · rw [gj 43 (by decide) (by decide) (by decide) (by decide), e45, a43]
  · rw [gj 44 (by decide) (by decide) (by decide) (by decide), e45, a44]
  · rw [e13, e14, e64]; exact h.2.1.2.2.2.1
  · rw [e13, e15, e16, e65, e66]; exact h.2.1.2.2.2.2.1
  · unfold mk mf ml mt
    rw [e18, e19, e20, e21, e22, e67]; exact h.2.1.2.2.2.2.2.1
