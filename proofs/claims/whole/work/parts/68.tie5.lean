/-! ties: what is told -/
theorem tie_note {c : Int} {M M1 M' M2 B0 : mmM} {k a b cc d : Int} (h : tieR c M) (hB : ∀ o, 47 ≤ o → o ≤ 61 → B0 o = M o) (h1 : ∀ o, 47 ≤ o → o ≤ 61 → M1 o = aNote B0 k a b cc d o) (hk : kpI (tz M1) M' k a b cc d) (m62 : M1 62 29 = M 62 29) (m72 : M1 72 = M 72) (h2 : ∀ o, 47 ≤ o → o ≤ 61 → M2 o = M' o) (g29 : M2 62 29 = M' 62 29) (g72 : M2 72 = M' 72) :
    M2 47 3 = (M 47 3 + 1) % 12 ∧ M2 47 2 = min (M 47 2 + 1) 12 ∧ aF M2 0 = (k, a, b, cc, d) ∧ (∀ j, j < 11 → aF M2 (j + 1) = aF M j) ∧ aG M2 0 = (k, a, b, cc, d) ∧ (∀ j : Nat, (j : Int) + 1 < M2 62 29 → aG M2 (j + 1) = aG M j) ∧ M2 62 29 = M2 47 2 := by
  have ha := h.1.2.2.2.2.1
  have e29 := h.2.1.1.2.2.2.2.2.2.2.1
  have ha2 := ha
  unfold acI at ha2
  have haB : acI B0 := by unfold acI; rw [hB 47 (by decide) (by decide)]; exact ha
  have hM : ∀ o, 47 ≤ o → o ≤ 61 → M2 o = aNote B0 k a b cc d o := fun o x y => by
    rw [h2 o x y, hk.1 o (by omega) (by omega), tz_o M1 (by omega), h1 o x y]
  have hz29 : tz M1 62 29 = M 62 29 := by rw [tz_i M1 (by decide), m62]
  have hz72 : tz M1 72 = M 72 := by rw [tz_o M1 (by decide), m72]
  have a47 := an_47 (k := k) (a := a) (b := b) (c := cc) (d := d) haB
  rw [hB 47 (by decide) (by decide)] at a47
  have r3 : M2 47 3 = (M 47 3 + 1) % 12 := by rw [hM 47 (by decide) (by decide)]; exact a47.1
  have r2 : M2 47 2 = min (M 47 2 + 1) 12 := by rw [hM 47 (by decide) (by decide)]; exact a47.2
  refine ⟨r3, r2, ?_, fun j hj => ?_, ?_, fun j hj => ?_, ?_⟩
  · rw [aF_c hM, an_F0 haB]
  · rw [aF_c hM, an_F haB j hj, aF_c hB]
  · rw [aG_c g29 g72, kp_G0 hk]
  · rw [aG_c g29 g72, kp_G hk (by rw [hz29]; omega) (by rw [hz29]; omega) j (by rw [← g29]; exact hj), aG_c hz29 hz72]
  · rw [g29, hk.2.2.1, hz29, r2, e29]
    omega
theorem tie_29 {c : Int} {M : mmM} (h : tieR c M) : 0 ≤ M 62 29 ∧ M 62 29 ≤ 12 := by
  have ha := h.1.2.2.2.2.1
  have e29 := h.2.1.1.2.2.2.2.2.2.2.1
  unfold acI at ha
  omega
theorem wnB_s {c : Int} {M M2 : mmM} (h : wnB c M) (e45 : M2 45 = M 45) (e134 : M2 13 4 = M 13 4) (e135 : M 13 5 ≤ M2 13 5) : wnB (c + 1) M2 := by
  unfold wnB at *
  rw [e45, e134]
  omega
theorem tie_cell {c : Int} {M : mmM} (h : tieR c M) (i v : Int) : tieZ t_P_cell t_M_cell [vr 0, vi i, vi v] [vr 62, vi i, vi v] c M := by
  have hr := h.1.1
  have ha := h.1.2.2.2.2.1
  have h29 := tie_29 h
  have hm := tie_mR h
  obtain ⟨e2, e3, e5, e8, e10, e11, e12, e29, e34⟩ := h.2.1.1
  obtain ⟨a39, a40, a41, a42, a43, a44⟩ := h.2.1.2.1
  have ec := h.2.1.2.2.2.1
  have hiff : ((0 ≤ i ∧ i < M 62 3) ∧ (0 ≤ v ∧ v < 64) ∧ ¬ M 64 i = v ∧ ¬ (M 62 39 ≤ i ∧ i ≤ M 62 40)) ↔ ((0 ≤ i ∧ i < M 13 4) ∧ (0 ≤ v ∧ v < 64) ∧ ¬ M 14 i = v ∧ ¬ (M 45 1 ≤ i ∧ i ≤ M 45 2)) := by
    rw [e3, a39, a40]
    constructor
    · rintro ⟨x1, x2⟩; rw [ec i x1.1 x1.2] at x2; exact ⟨x1, x2⟩
    · rintro ⟨x1, x2⟩; rw [← ec i x1.1 x1.2] at x2; exact ⟨x1, x2⟩
  refine ⟨rfl, hr, ha, fun hy => ?_, fun hn => ⟨_, rfl, rfl, hm.2.1, h29.1, h29.2, fun _ => ⟨rfl, tz_tie h⟩, fun w => absurd (hiff.mp w) hn⟩⟩
  have haB : acI (mm_up M 14 i v) := by unfold acI; rw [mm_up_o _ _ (by decide)]; exact ha
  have ha3 := haB
  unfold acI at ha3
  generalize hM1 : aNote (mm_up M 14 i v) 5 i (M 14 i) 0 0 = M1
  have f1 : ∀ o, (o < 47 ∨ 61 < o) → o ≠ 14 → M1 o = M o := fun o x y => by rw [← hM1, aNote_o ⟨ha3.2.2.1, ha3.2.2.2⟩ x, mm_up_o _ _ y]
  have f14 : ∀ z, M1 14 z = if z = i then v else M 14 z := fun z => by rw [← hM1, aNote_o ⟨ha3.2.2.1, ha3.2.2.2⟩ (by omega), mm_up_if]
  have f62 : M1 62 = M 62 := f1 62 (by omega) (by decide)
  have f64 : M1 64 = M 64 := f1 64 (by omega) (by decide)
  refine ⟨_, rfl, rfl, by rw [f62]; exact hm.2.1, by rw [f62]; exact h29.1, by rw [f62]; exact h29.2, fun w => absurd (by rw [f62, f64]; exact hiff.mpr hy) w, fun _ M' hk => ?_⟩
  rw [f64] at hk ⊢
  have ei : M 64 i = M 14 i := ec i hy.1.1 hy.1.2
  rw [ei] at hk ⊢
  refine ⟨rfl, ?_⟩
  have n := tie_note (M2 := mm_up M' 64 i v) (B0 := mm_up M 14 i v) h (fun o x y => mm_up_o _ _ (by omega)) (fun o x y => by rw [← hM1]) hk (by rw [f62]) (f1 72 (by omega) (by decide)) (fun o x y => mm_up_o _ _ (by omega)) (by rw [mm_up_o _ _ (by decide)]) (mm_up_o _ _ (by decide))
  obtain ⟨n1, n2, n3, n4, n5, n6, n7⟩ := n
  have g : ∀ o, (o < 47 ∨ 61 < o) → o ≠ 14 → o ≠ 62 → o ≠ 64 → o ≠ 72 → mm_up M' 64 i v o = M o := fun o x y z u w => by rw [mm_up_o _ _ u, hk.1 o z w, tz_o M1 z, f1 o x y]
  have gj : ∀ j, j ≠ 0 → j ≠ 29 → mm_up M' 64 i v 62 j = M 62 j := fun j x y => by rw [mm_up_o _ _ (by decide), hk.2.1 j y, tz_i M1 x, f62]
  have g14 : ∀ z, mm_up M' 64 i v 14 z = if z = i then v else M 14 z := fun z => by rw [mm_up_o _ _ (by decide), hk.1 14 (by decide) (by decide), tz_o M1 (by decide), f14]
  have g64 : ∀ z, mm_up M' 64 i v 64 z = if z = i then v else M 64 z := fun z => by rw [mm_up_if, hk.1 64 (by decide) (by decide), tz_o M1 (by decide), f64]
  generalize mm_up M' 64 i v = M2 at *
  have e13 := g 13 (by omega) (by decide) (by decide) (by decide) (by decide)
  have e0 := g 0 (by omega) (by decide) (by decide) (by decide) (by decide)
  have e1 := g 1 (by omega) (by decide) (by decide) (by decide) (by decide)
  have e15 := g 15 (by omega) (by decide) (by decide) (by decide) (by decide)
  have e16 := g 16 (by omega) (by decide) (by decide) (by decide) (by decide)
  have e18 := g 18 (by omega) (by decide) (by decide) (by decide) (by decide)
  have e19 := g 19 (by omega) (by decide) (by decide) (by decide) (by decide)
  have e20 := g 20 (by omega) (by decide) (by decide) (by decide) (by decide)
  have e21 := g 21 (by omega) (by decide) (by decide) (by decide) (by decide)
  have e22 := g 22 (by omega) (by decide) (by decide) (by decide) (by decide)
  have e45 := g 45 (by omega) (by decide) (by decide) (by decide) (by decide)
  have e65 := g 65 (by omega) (by decide) (by decide) (by decide) (by decide)
  have e66 := g 66 (by omega) (by decide) (by decide) (by decide) (by decide)
  have e67 := g 67 (by omega) (by decide) (by decide) (by decide) (by decide)
  refine tie_put h ?_ ?_ ?_ (wnB_s h.1.2.2.2.1 e45 (by rw [e13]) (by rw [e13]; omega)) n1 n2 n3 n4 n5 n6 (fun m hm => ?_) (by rw [e1]) (gj 2 (by decide) (by decide)) (g 2 (by omega) (by decide) (by decide) (by decide) (by decide)) (g 63 (by omega) (by decide) (by decide) (by decide) (by decide)) ⟨?_, ?_, ?_, ?_, ?_, ?_, n7, ?_⟩ ⟨?_, ?_, ?_, ?_, ?_, ?_⟩ (fun z z0 z1 => ?_) ?_ ?_
  · unfold rwI
    rw [e13, e15, e16]
    refine ⟨hr.1, hr.2.1, fun z z0 z1 => ?_, hr.2.2.2⟩
    rw [g14]
    split
    · exact hy.2.1
    · exact hr.2.2.1 z z0 z1
  · unfold quI; rw [e13, e18, e19, e20, e21, e22]; exact h.1.2.1
  · unfold seI; rw [e0]; exact h.1.2.2.1
  · rw [e13, e18, e22]
    simp only [okA]
    rw [n3]
    have hc := hr.2.2.1 i hy.1.1 hy.1.2
    exact ⟨⟨by simp, by simp⟩, fun c => by simp at c, fun c => by simp at c, fun c => by simp at c, fun c => by simp at c, fun c => by simp at c, fun _ => ⟨⟨hy.1.1, hy.1.2, hc.1, hc.2⟩, hm⟩⟩
  · rw [gj 3 (by decide) (by decide), e13, e3]
  · rw [gj 5 (by decide) (by decide), e13, e5]
  · rw [gj 8 (by decide) (by decide), e18, e8]
  · rw [gj 10 (by decide) (by decide), e0, e10]
  · rw [gj 11 (by decide) (by decide), e0, e11]
  · rw [gj 12 (by decide) (by decide), e0, e12]
  · rw [gj 34 (by decide) (by decide), e34]
  · rw [gj 39 (by decide) (by decide), e45, a39]
  · rw [gj 40 (by decide) (by decide), e45, a40]
  · rw [gj 41 (by decide) (by decide), e45, a41]
  · rw [gj 42 (by decide) (by decide), e45, a42]
  · rw [gj 43 (by decide) (by decide), e45, a43]
  · rw [gj 44 (by decide) (by decide), e45, a44]
  · rw [e13] at z1
    rw [g14, g64]
    split
    · rfl
    · exact ec z z0 z1
  · rw [e13, e15, e16, e65, e66]; exact h.2.1.2.2.2.2.1
  · unfold mk mf ml mt
    rw [e18, e19, e20, e21, e22, e67]; exact h.2.1.2.2.2.2.2.1
theorem tie_change {c : Int} {M : mmM} (h : tieR c M) (i v : Int) : tieZ t_P_change t_M_change [vr 0, vi i, vi v] [vr 62, vi i, vi v] c M := by
  have hr := h.1.1
  have ha := h.1.2.2.2.2.1
  have h29 := tie_29 h
  have hm := tie_mR h
  obtain ⟨e2, e3, e5, e8, e10, e11, e12, e29, e34⟩ := h.2.1.1
  obtain ⟨a39, a40, a41, a42, a43, a44⟩ := h.2.1.2.1
  have eh := h.2.1.2.2.2.2.1
  have hr4 := hr.2.2.2.1
  have hr5 := hr.2.2.2.2.1
  refine ⟨rfl, hr, ha, fun hy => ?_, fun hn => ⟨_, rfl, rfl, hm.2.1, hm.2.2.2.1, hm.2.2.2.2.1, h29.1, h29.2, fun _ => ⟨rfl, tz_tie h⟩, fun w => absurd (by rw [e3, e5] at w; exact w) hn⟩⟩
  generalize hB : mm_up (mm_up (mm_up M 15 (M 13 5) i) 16 (M 13 5) v) 13 5 (M 13 5 + 1) = B0
  have b47 : ∀ o, o ≠ 13 → o ≠ 15 → o ≠ 16 → B0 o = M o := fun o x y z => by rw [← hB, mm_up_o _ _ x, mm_up_o _ _ z, mm_up_o _ _ y]
  have haB : acI B0 := by unfold acI; rw [b47 47 (by decide) (by decide) (by decide)]; exact ha
  have ha3 := haB
  unfold acI at ha3
  generalize hM1 : aNote B0 0 0 0 0 0 = M1
  have f1 : ∀ o, (o < 47 ∨ 61 < o) → M1 o = B0 o := fun o x => by rw [← hM1, aNote_o ⟨ha3.2.2.1, ha3.2.2.2⟩ x]
  have f62 : M1 62 = M 62 := by rw [f1 62 (by omega), b47 62 (by decide) (by decide) (by decide)]
  refine ⟨_, rfl, rfl, by rw [f62]; exact hm.2.1, by rw [f62]; exact hm.2.2.2.1, by rw [f62]; exact hm.2.2.2.2.1, by rw [f62]; exact h29.1, by rw [f62]; exact h29.2, fun w => absurd (by rw [f62, e3, e5]; exact hy) w, fun _ M' hk => ?_⟩
  rw [f62, e5]
  refine ⟨rfl, ?_⟩
  generalize hM2 : mm_up (mm_up (mm_up M' 65 (M 13 5) i) 66 (M 13 5) v) 62 5 (M 13 5 + 1) = M2
  have k0 : ∀ o, o ≠ 62 → o ≠ 65 → o ≠ 66 → M2 o = M' o := fun o x y z => by rw [← hM2, mm_up_o _ _ x, mm_up_o _ _ z, mm_up_o _ _ y]
  have kj : ∀ j, j ≠ 5 → M2 62 j = M' 62 j := fun j x => by rw [← hM2, mm_up_i _ x, mm_up_o _ _ (by decide), mm_up_o _ _ (by decide)]
  have k5 : M2 62 5 = M 13 5 + 1 := by rw [← hM2, mm_up_s]
  obtain ⟨n1, n2, n3, n4, n5, n6, n7⟩ := tie_note (M2 := M2) (B0 := B0) h (fun o x y => b47 o (by omega) (by omega) (by omega)) (fun o x y => by rw [← hM1]) hk (by rw [f62]) (by rw [f1 72 (by omega), b47 72 (by decide) (by decide) (by decide)]) (fun o x y => k0 o (by omega) (by omega) (by omega)) (kj 29 (by decide)) (k0 72 (by decide) (by decide) (by decide))
  have g : ∀ o, (o < 47 ∨ 61 < o) → o ≠ 13 → o ≠ 15 → o ≠ 16 → o ≠ 62 → o ≠ 65 → o ≠ 66 → o ≠ 72 → M2 o = M o := fun o x y z u w1 w2 w3 w4 => by rw [k0 o w1 w2 w3, hk.1 o w1 w4, tz_o M1 w1, f1 o x, b47 o y z u]
  have gB : ∀ o, (o < 47 ∨ 61 < o) → o ≠ 62 → o ≠ 65 → o ≠ 66 → o ≠ 72 → M2 o = B0 o := fun o x w1 w2 w3 w4 => by rw [k0 o w1 w2 w3, hk.1 o w1 w4, tz_o M1 w1, f1 o x]
  have gj : ∀ j, j ≠ 0 → j ≠ 5 → j ≠ 29 → M2 62 j = M 62 j := fun j x y z => by rw [kj j y, hk.2.1 j z, tz_i M1 x, f62]
  have g134 : M2 13 4 = M 13 4 := by rw [gB 13 (by omega) (by decide) (by decide) (by decide) (by decide), ← hB, mm_up_i _ (by decide), mm_up_o _ _ (by decide), mm_up_o _ _ (by decide)]
  have g135 : M2 13 5 = M 13 5 + 1 := by rw [gB 13 (by omega) (by decide) (by decide) (by decide) (by decide), ← hB, mm_up_s]
  have g15 : ∀ z, M2 15 z = if z = M 13 5 then i else M 15 z := fun z => by rw [gB 15 (by omega) (by decide) (by decide) (by decide) (by decide), ← hB, mm_up_o _ _ (by decide), mm_up_o _ _ (by decide), mm_up_if]
  have g16 : ∀ z, M2 16 z = if z = M 13 5 then v else M 16 z := fun z => by rw [gB 16 (by omega) (by decide) (by decide) (by decide) (by decide), ← hB, mm_up_o _ _ (by decide), mm_up_if, mm_up_o _ _ (by decide)]
  have g65 : ∀ z, M2 65 z = if z = M 13 5 then i else M 65 z := fun z => by rw [← hM2, mm_up_o _ _ (by decide), mm_up_o _ _ (by decide), mm_up_if, hk.1 65 (by decide) (by decide), tz_o M1 (by decide), f1 65 (by omega), b47 65 (by decide) (by decide) (by decide)]
  have g66 : ∀ z, M2 66 z = if z = M 13 5 then v else M 66 z := fun z => by rw [← hM2, mm_up_o _ _ (by decide), mm_up_if, mm_up_o _ _ (by decide), hk.1 66 (by decide) (by decide), tz_o M1 (by decide), f1 66 (by omega), b47 66 (by decide) (by decide) (by decide)]
  have gg : ∀ o, (o < 47 ∨ 61 < o) → o ≠ 13 ∧ o ≠ 15 ∧ o ≠ 16 ∧ o ≠ 62 ∧ o ≠ 65 ∧ o ≠ 66 ∧ o ≠ 72 → M2 o = M o := fun o x y => g o x y.1 y.2.1 y.2.2.1 y.2.2.2.1 y.2.2.2.2.1 y.2.2.2.2.2.1 y.2.2.2.2.2.2
  have e0 := gg 0 (by omega) (by decide)
  have e1 := gg 1 (by omega) (by decide)
  have e14 := gg 14 (by omega) (by decide)
  have e18 := gg 18 (by omega) (by decide)
  have e19 := gg 19 (by omega) (by decide)
  have e20 := gg 20 (by omega) (by decide)
  have e21 := gg 21 (by omega) (by decide)
  have e22 := gg 22 (by omega) (by decide)
  have e45 := gg 45 (by omega) (by decide)
  have e64 := gg 64 (by omega) (by decide)
  have e67 := gg 67 (by omega) (by decide)
  have hq := h.1.2.1
  refine tie_put h ?_ ?_ ?_ (wnB_s h.1.2.2.2.1 e45 g134 (by rw [g135]; omega)) n1 n2 n3 n4 n5 n6 (fun m hm => ?_) (by rw [e1]) (gj 2 (by decide) (by decide) (by decide)) (gg 2 (by omega) (by decide)) (gg 63 (by omega) (by decide)) ⟨?_, ?_, ?_, ?_, ?_, ?_, n7, ?_⟩ ⟨?_, ?_, ?_, ?_, ?_, ?_⟩ ?_ (fun z z0 z1 => ?_) ?_
  · unfold rwI
    rw [g134, g135, e14]
    refine ⟨hr.1, hr.2.1, hr.2.2.1, by omega, by omega, fun z z0 z1 => ?_⟩
    rw [g15, g16]
    split
    · omega
    · exact hr.2.2.2.2.2 z z0 (by omega)
  · unfold quI; rw [g134, g135, e18, e19, e20, e21, e22]
    refine ⟨hq.1, hq.2.1, fun q q0 q1 => ?_⟩
    have := hq.2.2 q q0 q1
    omega
  · unfold seI; rw [e0]; exact h.1.2.2.1
  · rw [g134, g135, e18, e22]
    simp only [okA]
    rw [n3]
    refine ⟨⟨by decide, by decide⟩, fun _ => ⟨by omega, fun q q0 q1 => ?_, ?_⟩, fun c => by simp at c, fun c => by simp at c, fun c => by simp at c, fun c => by simp at c, fun c => by simp at c⟩
    · have := hq.2.2 q q0 q1
      omega
    · rw [show M 13 5 + 1 - 1 = M 13 5 by omega]
      exact hm
  · rw [gj 3 (by decide) (by decide) (by decide), g134, e3]
  · rw [k5, g135]
  · rw [gj 8 (by decide) (by decide) (by decide), e18, e8]
  · rw [gj 10 (by decide) (by decide) (by decide), e0, e10]
  · rw [gj 11 (by decide) (by decide) (by decide), e0, e11]
  · rw [gj 12 (by decide) (by decide) (by decide), e0, e12]
  · rw [gj 34 (by decide) (by decide) (by decide), e34]
  · rw [gj 39 (by decide) (by decide) (by decide), e45, a39]
  · rw [gj 40 (by decide) (by decide) (by decide), e45, a40]
  · rw [gj 41 (by decide) (by decide) (by decide), e45, a41]
  · rw [gj 42 (by decide) (by decide) (by decide), e45, a42]
  · rw [gj 43 (by decide) (by decide) (by decide), e45, a43]
  · rw [gj 44 (by decide) (by decide) (by decide), e45, a44]
  · rw [g134, e14, e64]; exact h.2.1.2.2.2.1
  · rw [g135] at z1
    rw [g15, g16, g65, g66]
    by_cases cz : z = M 13 5
    · rw [if_pos cz, if_pos cz, if_pos cz, if_pos cz]; exact ⟨rfl, rfl⟩
    · rw [if_neg cz, if_neg cz, if_neg cz, if_neg cz]; exact eh z z0 (by omega)
  · unfold mk mf ml mt
    rw [e18, e19, e20, e21, e22, e67]; exact h.2.1.2.2.2.2.2.1
