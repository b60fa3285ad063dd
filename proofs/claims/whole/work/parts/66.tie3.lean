/-! ties: the plan -/
theorem tie_fr {c : Int} {M M1 : mmM} (h : tieR c M) (f : ∀ o', o' < 26 ∨ 30 < o' → M1 o' = M o') : tieR c M1 := tie_ob h (obP_fr (fun o a b d e => f o (by omega))) (obM_fr (fun o a => f o (by omega))) (by omega)
theorem qE_fr {M N : mmM} (h : qE M M) (f : ∀ o', 61 < o' → N o' = M o') : qE M N := by
  have e67 := f 67 (by decide)
  unfold qE mk mf ml mt at *
  rw [f 62 (by decide), e67]
  exact h
theorem tie_G {c : Int} {M M2 : mmM} (h : tieR c M) (g : plG M M2) : tieR (c + 1) M2 := tie_ob h (obP_G g) (obM_G g) (by omega)
theorem tie_se {c : Int} {M : mmM} (h : tieR c M) : 0 ≤ M 62 10 ∧ M 62 10 ≤ 9 ∧ 0 ≤ M 62 11 ∧ M 62 11 ≤ 2 ∧ 1 ≤ M 62 12 ∧ M 62 12 ≤ 60 := by
  have hs := h.1.2.2.1
  obtain ⟨e2, e3, e5, e8, e10, e11, e12, e29, e34⟩ := h.2.1.1
  unfold seI at hs
  omega
theorem tie_planned {c : Int} {M : mmM} (h : tieR c M) (ord b i : Int) : tieZ t_P_planned t_M_planned [vr 0, vi ord, vi b, vi i] [vr 62, vi ord, vi b, vi i] c M := by
  refine ⟨rfl, tie_qB h, fun hn => ⟨_, rfl, rfl, tie_mB h, fun _ => ⟨rfl, tz_tie h⟩, fun w => absurd w.1 hn⟩, fun hy M1 P n f1 hP => ?_⟩
  have h1 := tie_fr h f1
  have hE := qE_fr (tie_qE h) (fun o a => f1 o (by omega))
  refine ⟨_, rfl, rfl, tie_mB h1, fun hn => ⟨vi_c ?_, tz_tie h1⟩, fun hw M2 P' n' g hP' => ⟨vi_c ?_, tie_G h1 g⟩⟩
  · have hi : i < -1 := by
      by_cases c : -1 ≤ i
      · exact absurd ⟨hy, c⟩ hn
      · omega
    rw [if_neg (by omega), if_neg (by omega)]
  · have e34 := h1.2.1.1.2.2.2.2.2.2.2.2
    rw [e34] at hP'
    obtain ⟨e1, e2⟩ := ord_pl hE hP hP'
    rw [← e1]
    by_cases c1 : i = -1
    · rw [if_pos c1, if_pos c1]
    · rw [if_neg c1, if_neg c1]
      by_cases c2 : 0 ≤ i ∧ i < n
      · rw [if_pos c2, if_pos c2, e2 i c2.1 c2.2]
      · rw [if_neg c2, if_neg c2]
theorem tie_moves {c : Int} {M : mmM} (h : tieR c M) (ord b w : Int) : tieZ t_P_moves t_M_moves [vr 0, vi ord, vi b, vi w] [vr 62, vi ord, vi b, vi w] c M := by
  have hm := tie_mR h
  have hs := tie_se h
  refine ⟨rfl, h.1.1, tie_qB h, h.1.2.2.1, fun hn => ⟨_, rfl, rfl, hm.1, hm.2.1, tie_mB h, hs.1, hs.2.1, fun _ => ⟨rfl, tz_tie h⟩, fun w => absurd w hn⟩, fun hy M1 P n f1 hP => ?_⟩
  have h1 := tie_fr h f1
  have hE := qE_fr (tie_qE h) (fun o a => f1 o (by omega))
  have hm1 := tie_mR h1
  have hs1 := tie_se h1
  have e34 := h1.2.1.1.2.2.2.2.2.2.2.2
  have key : ∀ (M2 : mmM) (P' : Int → Int) (n' : Int), isOrd (mS M1 (M1 62 34)) (mwt M1 ord b) P' n' → n = n' ∧ sam (M 20) (M 21) (M 22) P (mf M1) (ml M1) (mt M1) P' n := by
    intro M2 P' n' hP'
    rw [e34] at hP'
    obtain ⟨e1, e2⟩ := ord_pl hE hP hP'
    exact ⟨e1, qE_sam hE hP e2⟩
  have e10 : M1 62 10 = M 0 9 := by rw [f1 62 (by omega)]; exact h.2.1.1.2.2.2.2.1
  have e3 : M1 62 3 = M 13 4 := by rw [f1 62 (by omega)]; exact h.2.1.1.2.1
  refine ⟨fun hw => ?_, fun hw => ?_, fun hw => ?_, fun hw => ?_, fun hw => ?_, fun hw => ?_⟩
  · refine ⟨_, rfl, rfl, hm1.1, hm1.2.1, tie_mB h1, hs1.1, hs1.2.1, fun w => absurd hy w, fun _ M2 P' n' g hP' => ⟨fun _ => ⟨vi_c ?_, tie_G h1 g⟩, fun _ => by omega, fun _ => by omega, fun _ => by omega, fun _ => by omega, fun _ => by omega⟩⟩
    obtain ⟨e1, e2⟩ := key M2 P' n' hP'
    rw [← e1]
    exact (sam_E e2 (Int.le_refl _)).1.symm
  · refine ⟨_, rfl, rfl, hm1.1, hm1.2.1, tie_mB h1, hs1.1, hs1.2.1, fun w => absurd hy w, fun _ M2 P' n' g hP' => ⟨fun _ => by omega, fun _ => ⟨vi_c ?_, tie_G h1 g⟩, fun _ => by omega, fun _ => by omega, fun _ => by omega, fun _ => by omega⟩⟩
    obtain ⟨e1, e2⟩ := key M2 P' n' hP'
    rw [← e1]
    exact (sam_E e2 (Int.le_refl _)).2.1.symm
  · refine ⟨_, rfl, rfl, hm1.1, hm1.2.1, tie_mB h1, hs1.1, hs1.2.1, fun w => absurd hy w, fun _ M2 P' n' g hP' => ⟨fun _ => by omega, fun _ => by omega, fun _ => ⟨vi_c ?_, tie_G h1 g⟩, fun _ => by omega, fun _ => by omega, fun _ => by omega⟩⟩
    obtain ⟨e1, e2⟩ := key M2 P' n' hP'
    rw [← e1, e10]
    exact (sam_co e2 (Int.le_refl _)).symm
  · refine ⟨_, rfl, rfl, hm1.1, hm1.2.1, tie_mB h1, hs1.1, hs1.2.1, fun w => absurd hy w, fun _ M2 P' n' g hP' => ⟨fun _ => by omega, fun _ => by omega, fun _ => by omega, fun _ => ⟨vi_c ?_, tie_G h1 g⟩, fun _ => by omega, fun _ => by omega⟩⟩
    obtain ⟨e1, e2⟩ := key M2 P' n' hP'
    rw [← e1]
    exact (sam_E e2 (Int.le_refl _)).2.2.symm
  · refine ⟨_, rfl, rfl, hm1.1, hm1.2.1, tie_mB h1, hs1.1, hs1.2.1, fun w => absurd hy w, fun _ M2 P' n' g hP' => ⟨fun _ => by omega, fun _ => by omega, fun _ => by omega, fun _ => by omega, fun _ => ⟨vi_c ?_, tie_G h1 g⟩, fun _ => by omega⟩⟩
    obtain ⟨e1, e2⟩ := key M2 P' n' hP'
    rw [← e1, e3]
  · exact ⟨_, rfl, rfl, hm1.1, hm1.2.1, tie_mB h1, hs1.1, hs1.2.1, fun w => absurd hy w, fun _ M2 P' n' g hP' => ⟨fun _ => by omega, fun _ => by omega, fun _ => by omega, fun _ => by omega, fun _ => by omega, fun _ => ⟨rfl, tie_G h1 g⟩⟩⟩
theorem bsF_c {f g : Int → Int} (h : ∀ b, f b = g b) : ∀ n : Nat, bsF f n = bsF g n := by
  have : f = g := funext h
  rw [this]
  exact fun _ => rfl
theorem tie_best {c : Int} {M : mmM} (h : tieR c M) (ord w : Int) : tieZ t_P_best t_M_best [vr 0, vi ord, vi w] [vr 62, vi ord, vi w] c M := by
  have hm := tie_mR h
  have hs := tie_se h
  refine ⟨rfl, h.1.1, tie_qB h, h.1.2.2.1, fun hn => ⟨_, rfl, rfl, hm.1, hm.2.1, tie_mB h, hs.1, hs.2.1, fun _ => ⟨rfl, tz_tie h⟩, fun w => absurd w hn⟩, fun hy M1 f1 => ?_⟩
  have h1 := tie_fr h f1
  have hE := qE_fr (tie_qE h) (fun o a => f1 o (by omega))
  have hm1 := tie_mR h1
  have hs1 := tie_se h1
  have e34 := h1.2.1.1.2.2.2.2.2.2.2.2
  have e10 : M1 62 10 = M 0 9 := by rw [f1 62 (by omega)]; exact h.2.1.1.2.2.2.2.1
  have e3 : M1 62 3 = M 13 4 := by rw [f1 62 (by omega)]; exact h.2.1.1.2.1
  refine ⟨_, rfl, rfl, hm1.1, hm1.2.1, tie_mB h1, hs1.1, hs1.2.1, fun w => absurd hy w, fun _ M2 g => ⟨vi_c ?_, tie_G h1 g⟩⟩
  rw [e34, e3, bsF_c (f := fun b => cstR M1 ord b (-1)) (g := fun b => cstM M ord b (-1)) (fun b => (cst_eq hE e10 ord b (-1)).symm)]
theorem tie_saves {c : Int} {M : mmM} (h : tieR c M) (q : Int) : tieZ t_P_saves t_M_saves [vr 0, vi q] [vr 62, vi q] c M := by
  have hs := tie_se h
  have e34 := h.2.1.1.2.2.2.2.2.2.2.2
  have e8 := h.2.1.1.2.2.2.1
  refine ⟨rfl, tie_qB h, h.1.2.2.1, fun hn => ⟨_, rfl, rfl, tie_mB h, hs.1, hs.2.1, hs.2.2.1, hs.2.2.2.1, hs.2.2.2.2.1, hs.2.2.2.2.2, e34, fun _ => ⟨rfl, tz_tie h⟩, fun w => absurd (by rw [e8] at w; exact w) hn⟩, fun hy M1 f1 => ?_⟩
  have h1 := tie_fr h f1
  have hE := qE_fr (tie_qE h) (fun o a => f1 o (by omega))
  have hs1 := tie_se h1
  have e341 := h1.2.1.1.2.2.2.2.2.2.2.2
  have f62 : M1 62 = M 62 := f1 62 (by omega)
  have e10 : M1 62 10 = M 0 9 := by rw [f62]; exact h.2.1.1.2.2.2.2.1
  have e11 : M1 62 11 = M 0 10 := by rw [f62]; exact h.2.1.1.2.2.2.2.2.1
  have e12 : M1 62 12 = M 0 11 := by rw [f62]; exact h.2.1.1.2.2.2.2.2.2.1
  refine ⟨_, rfl, rfl, tie_mB h1, hs1.1, hs1.2.1, hs1.2.2.1, hs1.2.2.2.1, hs1.2.2.2.2.1, hs1.2.2.2.2.2, e341, fun w => absurd hy (by rw [f62, e8] at w; exact w), fun _ M2 g => ⟨vi_c ?_, tie_G h1 g⟩⟩
  rw [e11, e12, cst_eq hE e10, cst_eq hE e10]
theorem tie_would {c : Int} {M : mmM} (h : tieR c M) (k f l t : Int) : tieZ t_P_would t_M_would [vr 0, vi k, vi f, vi l, vi t] [vr 62, vi k, vi f, vi l, vi t] c M := by
  have hs := tie_se h
  have e34 := h.2.1.1.2.2.2.2.2.2.2.2
  obtain ⟨e2, e3, e5, e8, e10, e11, e12, e29, -⟩ := h.2.1.1
  have hq := h.1.2.1
  have hr := h.1.1
  have hq0 := hq.1
  have hq1 := hq.2.1
  have hr2 := hr.2.1
  have hr4 := hr.2.2.2.1
  have hr5 := hr.2.2.2.2.1
  refine ⟨rfl, hr, hq, h.1.2.2.1, fun hn => ⟨_, rfl, rfl, tie_mB h, by omega, by omega, by omega, by omega, hs.1, hs.2.1, hs.2.2.1, hs.2.2.2.1, hs.2.2.2.2.1, hs.2.2.2.2.2, e34, fun _ => ⟨rfl, tz_tie h⟩, fun w => absurd (by rw [e3, e5] at w; exact w) hn⟩, fun hy M1 f1 g1 g2 => ?_⟩
  have h1 : tieR c M1 := tie_ob h ⟨⟨by rw [f1 0 (by omega)], by rw [f1 0 (by omega)], by rw [f1 0 (by omega)], by rw [f1 1 (by omega)], f1 2 (by omega), by rw [f1 13 (by omega)], by rw [f1 13 (by omega)], f1 14 (by omega), f1 15 (by omega), f1 16 (by omega), g1⟩, g2, ⟨by rw [f1 45 (by omega)], by rw [f1 45 (by omega)], by rw [f1 45 (by omega)], by rw [f1 45 (by omega)], by rw [f1 45 (by omega)], by rw [f1 45 (by omega)]⟩, by rw [f1 47 (by omega)], by rw [f1 47 (by omega)], f1 48 (by omega), fun o a b => f1 o (by omega)⟩ (obM_fr (fun o a => f1 o (by omega))) (by omega)
  have hs1 := tie_se h1
  have e341 := h1.2.1.1.2.2.2.2.2.2.2.2
  have f62 : M1 62 = M 62 := f1 62 (by omega)
  have f67 : M1 67 = M 67 := f1 67 (by omega)
  have k10 : M1 62 10 = M 0 9 := by rw [f62]; exact e10
  have k11 : M1 62 11 = M 0 10 := by rw [f62]; exact e11
  have k12 : M1 62 12 = M 0 11 := by rw [f62]; exact e12
  have k8 : M1 62 8 = M 18 4 := by rw [f62]; exact e8
  have k5 : M1 62 5 = M 13 5 := by rw [f62]; exact e5
  have hE := qE_fr (tie_qE h) (N := M1) (fun o a => f1 o (by omega))
  have hE2 : qE (qAdd M 18 k f l (if t = -1 then M 13 5 else t)) (asM M1 k f l t) := by
    refine ⟨?_, ?_, fun q q0 q1 => ?_⟩
    · rw [asM_8, qAdd_4, k8]
    · rw [qAdd_4]; omega
    · rw [qAdd_4] at q1
      by_cases cq : q = M 18 4
      · have a1 := asM_n (M := M1) (k := k) (f := f) (l := l) (t := t)
        have a2 := qAdd_n (M1 := M) (k := k) (f := f) (l := l) (t := if t = -1 then M 13 5 else t)
        rw [k8, k5] at a1
        rw [cq, a1.1, a1.2.1, a1.2.2.1, a1.2.2.2, a2.1, a2.2.1, a2.2.2.1, a2.2.2.2]
        exact ⟨rfl, rfl, rfl, rfl⟩
      · have a1 := asM_v (M := M1) (k := k) (f := f) (l := l) (t := t) (q := q) (by rw [k8]; exact cq)
        have a2 := qAdd_i (M1 := M) (k := k) (f := f) (l := l) (t := if t = -1 then M 13 5 else t) (i := q) cq
        rw [a1.1, a1.2.1, a1.2.2.1, a1.2.2.2, a2.1, a2.2.1, a2.2.2.1, a2.2.2.2]
        exact hE.2.2 q q0 (by omega)
  have hw2 : asM M1 k f l t 62 10 = qAdd M 18 k f l (if t = -1 then M 13 5 else t) 0 9 := by
    rw [asM_62 (by decide), k10, qAdd_o (by omega)]
  refine ⟨_, rfl, rfl, tie_mB h1, by omega, by rw [f62]; omega, by omega, by omega, hs1.1, hs1.2.1, hs1.2.2.1, hs1.2.2.2.1, hs1.2.2.2.2.1, hs1.2.2.2.2.2, e341, fun w => absurd hy (by rw [f62, e3, e5] at w; exact w), fun _ M2 y1 y2 y3 => ⟨vi_c ?_, tie_ob h1 (obP_lt (fun o a => y1 o (by omega) (by omega) (by omega))) ?_ (by omega)⟩⟩
  · rw [k11, k12, cst_eq hE2 hw2, cst_eq hE k10]
  · have oj : ∀ j, (j = 2 ∨ j = 3 ∨ j = 5 ∨ j = 8 ∨ j = 10 ∨ j = 11 ∨ j = 12 ∨ j = 29 ∨ j = 34 ∨ (39 ≤ j ∧ j ≤ 44)) → M2 62 j = M1 62 j := fun j c => y2 j (by omega) (by omega) (by omega) (by omega) (by omega)
    exact ⟨⟨oj 2 (by omega), oj 3 (by omega), oj 5 (by omega), oj 8 (by omega), oj 10 (by omega), oj 11 (by omega), oj 12 (by omega), oj 29 (by omega), oj 34 (by omega)⟩, ⟨oj 39 (by omega), oj 40 (by omega), oj 41 (by omega), oj 42 (by omega), oj 43 (by omega), oj 44 (by omega)⟩, y1 63 (by decide) (by decide) (by decide), y1 64 (by decide) (by decide) (by decide), y1 65 (by decide) (by decide) (by decide), y1 66 (by decide) (by decide) (by decide), y3, y1 72 (by decide) (by decide) (by decide)⟩
theorem tie_split {c : Int} {M : mmM} (h : tieR c M) (k w : Int) : tieZ t_P_split t_M_split [vr 0, vi k, vi w] [vr 62, vi k, vi w] c M := by
  have hs := tie_se h
  have e8 := h.2.1.1.2.2.2.1
  have hq1 := h.1.2.1.2.1
  refine ⟨rfl, h.1.1, h.1.2.1, h.1.2.2.1, fun hn => ⟨_, rfl, rfl, tie_mB h, by omega, hs.1, hs.2.1, hs.2.2.1, hs.2.2.2.1, hs.2.2.2.2.1, hs.2.2.2.2.2, fun _ => ⟨rfl, tz_tie h⟩, fun w => absurd w hn⟩, fun hy M1 P n f1 hP hn => ?_⟩
  have h1 : tieR c M1 := tie_ob h (obP_fr (fun o a b d e => f1 o (by omega))) (obM_fr (fun o a => f1 o (by omega))) (by omega)
  have hs1 := tie_se h1
  have e341 := h1.2.1.1.2.2.2.2.2.2.2.2
  have f62 : M1 62 = M 62 := f1 62 (by omega)
  have e10 : M1 62 10 = M 0 9 := by rw [f62]; exact h.2.1.1.2.2.2.2.1
  have e11 : M1 62 11 = M 0 10 := by rw [f62]; exact h.2.1.1.2.2.2.2.2.1
  have e12 : M1 62 12 = M 0 11 := by rw [f62]; exact h.2.1.1.2.2.2.2.2.2.1
  have hE := qE_fr (tie_qE h) (N := M1) (fun o a => f1 o (by omega))
  refine ⟨_, rfl, rfl, tie_mB h1, by rw [f62]; omega, hs1.1, hs1.2.1, hs1.2.2.1, hs1.2.2.2.1, hs1.2.2.2.2.1, hs1.2.2.2.2.2, fun w => absurd hy w, fun _ M2 P' n' y1 y2 hP' hn' hb => ⟨vi_c ?_, tie_ob h1 (obP_lt (fun o a => y1 o (by omega) (by omega) (by omega))) (obM_of (fun o a => y1 o (by omega) (by omega) (by omega)) (fun j a => y2 j (by omega) (by omega) (by omega) (by omega) (by omega))) (by omega)⟩⟩
  rw [e341, e11, e12] at hP'
  obtain ⟨g1, g2⟩ := ord_pl hE hP hP'
  have hsam := qE_sam hE hP g2
  rw [← g1, e10, ← sam_cr hsam] at hb ⊢
  exact sp_I hb hP.1 hy.1
theorem tie_move {c : Int} {M : mmM} (h : tieR c M) (m w : Int) : tieZ t_P_move t_M_move [vr 0, vi m, vi w] [vr 62, vi m, vi w] c M := by
  have hs := tie_se h
  refine ⟨rfl, h.1.1, h.1.2.1, h.1.2.2.1, fun hn => ⟨_, rfl, rfl, tie_mB h, hs.2.2.1, hs.2.2.2.1, hs.2.2.2.2.1, hs.2.2.2.2.2, fun _ => ⟨rfl, tz_tie h⟩, fun w => absurd w hn⟩, fun hy M1 P n f1 hP => ?_⟩
  have h1 := tie_fr h f1
  have hs1 := tie_se h1
  have e341 := h1.2.1.1.2.2.2.2.2.2.2.2
  have f62 : M1 62 = M 62 := f1 62 (by omega)
  have e11 : M1 62 11 = M 0 10 := by rw [f62]; exact h.2.1.1.2.2.2.2.2.1
  have e12 : M1 62 12 = M 0 11 := by rw [f62]; exact h.2.1.1.2.2.2.2.2.2.1
  have hE := qE_fr (tie_qE h) (N := M1) (fun o a => f1 o (by omega))
  have key : t_M_move [vr 62, vi m, vi w] M1 (fun r' M2 => r' = some (vi (mvV (fun i => M 20 (P i)) (fun i => M 21 (P i)) (fun i => M 22 (P i)) P w (gaF (fun i => M 20 (P i)) (fun i => M 21 (P i)) (fun i => M 22 (P i)) n.toNat 0 0 (-1) 0 m))) ∧ tieR (c + 1) M2) := by
    refine ⟨rfl, tie_mB h1, hs1.2.2.1, hs1.2.2.2.1, hs1.2.2.2.2.1, hs1.2.2.2.2.2, fun w => absurd hy w, fun _ M2 P' n' y1 y2 hP' => ⟨vi_c ?_, tie_ob h1 (obP_lt (fun o a => y1 o (by omega) (by omega))) (obM_of (fun o a => y1 o (by omega) (by omega)) (fun j a => y2 j (by omega) (by omega) (by omega))) (by omega)⟩⟩
    rw [e341, e11, e12] at hP'
    obtain ⟨g1, g2⟩ := ord_pl hE hP hP'
    have hsam := qE_sam hE hP g2
    rw [← g1]
    refine (mvV_c _ _ _ _ _ _ (fun i a b => ?_)).symm
    have := hsam i (by omega) (by have := hP.1; omega)
    exact this
  refine ⟨fun hg => ⟨_, rfl, ?_⟩, fun i l r t rem hg => ⟨_, rfl, ?_⟩⟩
  · rw [hg] at key
    exact key
  · rw [hg] at key
    exact key
theorem tie_undone {c : Int} {M : mmM} (h : tieR c M) (b i : Int) : tieZ t_P_undone t_M_undone [vr 0, vi b, vi i] [vr 62, vi b, vi i] c M := by
  refine ⟨rfl, tie_qB h, fun hn => ⟨_, rfl, rfl, tie_mB h, fun _ => ⟨rfl, tz_tie h⟩, fun w => absurd w.1 hn⟩, fun hy M1 P n f1 hP => ?_⟩
  have h1 : tieR c M1 := tie_ob h (obP_fr (fun o a b d e => f1 o (by omega) (by omega))) (obM_fr (fun o a => f1 o (by omega) (by omega))) (by omega)
  have hE := qE_fr (tie_qE h) (N := M1) (fun o a => f1 o (by omega) (by omega))
  refine ⟨_, rfl, rfl, tie_mB h1, fun hn => ⟨vi_c ?_, tz_tie h1⟩, fun hw M2 P' n' g hP' => ⟨vi_c ?_, tie_G h1 g⟩⟩
  · have hi : i < -1 := by
      by_cases c : -1 ≤ i
      · exact absurd ⟨hy, c⟩ hn
      · omega
    rw [if_neg (by omega), if_neg (by omega)]
  · obtain ⟨e1, e2⟩ := ord_un hE hP hP'
    rw [← e1]
    by_cases c1 : i = -1
    · rw [if_pos c1, if_pos c1]
    · rw [if_neg c1, if_neg c1]
      by_cases c2 : 0 ≤ i ∧ i < n
      · rw [if_pos c2, if_pos c2, e2 i c2.1 c2.2]
      · rw [if_neg c2, if_neg c2]
theorem tie_adds {c : Int} {M : mmM} (h : tieR c M) (b w : Int) : tieZ t_P_adds t_M_adds [vr 0, vi b, vi w] [vr 62, vi b, vi w] c M := by
  refine ⟨rfl, h.1.1, h.1.2.1, fun hn => ⟨_, rfl, rfl, tie_mR h, tie_mQ h, tie_mB h, fun _ => ⟨rfl, tz_tie h⟩, fun w => absurd w.1 hn⟩, fun hy M1 P n f1 hP s hs => ?_⟩
  have h1 : tieR c M1 := tie_ob h (obP_fr (fun o a b d e => f1 o (by omega) (by omega) (by omega))) (obM_fr (fun o a => f1 o (by omega) (by omega) (by omega))) (by omega)
  have hE := qE_fr (tie_qE h) (N := M1) (fun o a => f1 o (by omega) (by omega) (by omega))
  have e3 : M1 62 3 = M 13 4 := by rw [f1 62 (by decide) (by decide) (by decide)]; exact h.2.1.1.2.1
  have key : ∀ (P' : Int → Int) (n' : Int), isOrd (mU M1) (uwt M1 b) P' n' → unS M1 b P' n'.toNat = s := by
    intro P' n' hP'
    obtain ⟨e1, e2⟩ := ord_un hE hP hP'
    have hsam := qE_samU hE hP e2
    rw [hs, ← e1]
    unfold unS
    rw [e3]
    refine unF_c _ (fun k hk => ?_)
    have := hsam k (by omega) (by have := hP.1; omega)
    show mf M1 (P' k) = M 20 (P k) ∧ ml M1 (P' k) = M 21 (P k) ∧ mt M1 (P' k) * 64 + mf M1 (P' k) / b = M 22 (P k) * 64 + M 20 (P k) / b
    rw [this.2.1, this.2.2.1, this.2.2.2]
    exact ⟨rfl, rfl, rfl⟩
  refine ⟨fun hw => ?_, fun hw => ?_, fun hw => ?_, fun hw => ?_⟩
  · refine ⟨_, rfl, rfl, tie_mR h1, tie_mQ h1, tie_mB h1, fun v => absurd ⟨hy, by omega, by omega⟩ v, fun _ M2 P' n' g hP' => ⟨fun _ => ⟨vi_c ?_, tie_G h1 g⟩, fun _ => by omega, fun _ => by omega⟩⟩
    rw [key P' n' hP']
  · refine ⟨_, rfl, rfl, tie_mR h1, tie_mQ h1, tie_mB h1, fun v => absurd ⟨hy, by omega, by omega⟩ v, fun _ M2 P' n' g hP' => ⟨fun _ => by omega, fun _ => ⟨vi_c ?_, tie_G h1 g⟩, fun _ => by omega⟩⟩
    rw [key P' n' hP']
  · refine ⟨_, rfl, rfl, tie_mR h1, tie_mQ h1, tie_mB h1, fun v => absurd ⟨hy, by omega, by omega⟩ v, fun _ M2 P' n' g hP' => ⟨fun _ => by omega, fun _ => by omega, fun _ => ⟨vi_c ?_, tie_G h1 g⟩⟩⟩
    rw [key P' n' hP']
  · exact ⟨_, rfl, rfl, tie_mR h1, tie_mQ h1, tie_mB h1, fun _ => ⟨rfl, tz_tie h1⟩, fun v => by omega⟩
theorem tie_window {c : Int} {M : mmM} (h : tieR c M) (hc : c ≤ 2000) (w : Int) : tieZ t_P_window t_M_window [vr 0, vi w] [vr 62, vi w] c M := by
  have hs := tie_se h
  obtain ⟨a39, a40, a41, a42, a43, a44⟩ := h.2.1.2.1
  have e34 := h.2.1.1.2.2.2.2.2.2.2.2
  have e11 := h.2.1.1.2.2.2.2.2.1
  have e12 := h.2.1.1.2.2.2.2.2.2.1
  have hE := tie_qE h
  -- the reference's call, from a memory N that shows the same
  have key : ∀ (N : mmM) (z : Int), tieR c N → qE M N → (N 62 = M 62) → (∀ (P' : Int → Int) (n' : Int), isOrd (mS N (N 62 34)) (mwt N (N 62 11) (N 62 12)) P' n' → (w = 0 → N 62 39 = z) ∧ (w = 1 → N 62 40 = z) ∧ (w = 2 → N 62 41 = z) ∧ (w = 3 → min (N 62 42) n' = z) ∧ (w = 4 → (if 0 ≤ N 62 42 ∧ N 62 42 < n' then P' (N 62 42) else -1) = z) ∧ (w = 5 → N 62 43 = z) ∧ (w = 6 → N 62 44 = z) ∧ (w = 7 → anF (N 64) (N 65) (N 66) (N 62 39) (N 62 40) (N 62 41) 1 = z) ∧ ((w < 0 ∨ 7 < w) → -1 = z)) → t_M_window [vr 62, vi w] N (fun r' M2 => r' = some (vi z) ∧ tieR (c + 1) M2) := by
    intro N z hN hEN e62 hz
    have hsN := tie_se hN
    refine ⟨rfl, tie_mR hN, tie_mB hN, tie_mW hN hc, hsN.2.2.1, hsN.2.2.2.1, hsN.2.2.2.2.1, hsN.2.2.2.2.2, fun M2 P' n' y1 y2 hP' => ?_⟩
    have ht : tieR (c + 1) M2 := tie_ob hN (obP_lt (fun o a => y1 o (by omega) (by omega) (by omega) (by omega))) (obM_of (fun o a => y1 o (by omega) (by omega) (by omega) (by omega)) (fun j a => y2 j (by omega) (by omega))) (by omega)
    obtain ⟨z0, z1, z2, z3, z4, z5, z6, z7, z8⟩ := hz P' n' hP'
    exact ⟨fun hw => ⟨vi_c (z0 hw), ht⟩, fun hw => ⟨vi_c (z1 hw), ht⟩, fun hw => ⟨vi_c (z2 hw), ht⟩, fun hw => ⟨vi_c (z3 hw), ht⟩, fun hw => ⟨vi_c (z4 hw), ht⟩, fun hw => ⟨vi_c (z5 hw), ht⟩, fun hw => ⟨vi_c (z6 hw), ht⟩, fun hw => ⟨vi_c (z7 hw), ht⟩, fun hw => ⟨vi_c (z8 hw), ht⟩⟩
  refine ⟨rfl, h.1.1, tie_qB h, h.1.2.2.1, tie_w h hc, fun hw => ?_, fun hw => ?_, fun hw => ?_, fun hw M1 P n f1 hP => ?_, fun hw M1 P n f1 hP => ?_, fun hw => ?_, fun hw => ?_, fun hw M1 f1 => ?_, fun hw => ?_⟩
  · exact ⟨_, rfl, key M _ h hE rfl (fun _ _ _ => ⟨fun _ => a39, fun _ => by omega, fun _ => by omega, fun _ => by omega, fun _ => by omega, fun _ => by omega, fun _ => by omega, fun _ => by omega, fun _ => by omega⟩)⟩
  · exact ⟨_, rfl, key M _ h hE rfl (fun _ _ _ => ⟨fun _ => by omega, fun _ => a40, fun _ => by omega, fun _ => by omega, fun _ => by omega, fun _ => by omega, fun _ => by omega, fun _ => by omega, fun _ => by omega⟩)⟩
  · exact ⟨_, rfl, key M _ h hE rfl (fun _ _ _ => ⟨fun _ => by omega, fun _ => by omega, fun _ => a41, fun _ => by omega, fun _ => by omega, fun _ => by omega, fun _ => by omega, fun _ => by omega, fun _ => by omega⟩)⟩
  · have f62 : M1 62 = M 62 := f1 62 (by omega)
    have hEN := qE_fr hE (N := M1) (fun o a => f1 o (by omega))
    refine ⟨_, rfl, key M1 _ (tie_fr h f1) hEN f62 (fun P' n' hP' => ⟨fun _ => by omega, fun _ => by omega, fun _ => by omega, fun _ => ?_, fun _ => by omega, fun _ => by omega, fun _ => by omega, fun _ => by omega, fun _ => by omega⟩)⟩
    rw [f62, e34, e11, e12] at hP'
    rw [f62, a42, (ord_pl hEN hP hP').1]
  · have f62 : M1 62 = M 62 := f1 62 (by omega)
    have hEN := qE_fr hE (N := M1) (fun o a => f1 o (by omega))
    refine ⟨_, rfl, key M1 _ (tie_fr h f1) hEN f62 (fun P' n' hP' => ⟨fun _ => by omega, fun _ => by omega, fun _ => by omega, fun _ => by omega, fun _ => ?_, fun _ => by omega, fun _ => by omega, fun _ => by omega, fun _ => by omega⟩)⟩
    rw [f62, e34, e11, e12] at hP'
    obtain ⟨g1, g2⟩ := ord_pl hEN hP hP'
    rw [f62, a42, ← g1]
    by_cases c2 : 0 ≤ M 45 6 ∧ M 45 6 < n
    · rw [if_pos c2, if_pos c2, g2 _ c2.1 c2.2]
    · rw [if_neg c2, if_neg c2]
  · exact ⟨_, rfl, key M _ h hE rfl (fun _ _ _ => ⟨fun _ => by omega, fun _ => by omega, fun _ => by omega, fun _ => by omega, fun _ => by omega, fun _ => a43, fun _ => by omega, fun _ => by omega, fun _ => by omega⟩)⟩
  · exact ⟨_, rfl, key M _ h hE rfl (fun _ _ _ => ⟨fun _ => by omega, fun _ => by omega, fun _ => by omega, fun _ => by omega, fun _ => by omega, fun _ => by omega, fun _ => a44, fun _ => by omega, fun _ => by omega⟩)⟩
  · have f62 : M1 62 = M 62 := f1 62 (by decide) (by decide) (by decide)
    have hEN := qE_fr hE (N := M1) (fun o a => f1 o (by omega) (by omega) (by omega))
    have h1 : tieR c M1 := tie_ob h (obP_fr (fun o a b d e => f1 o b (by omega) (by omega))) (obM_fr (fun o a => f1 o (by omega) (by omega) (by omega))) (by omega)
    refine ⟨_, rfl, key M1 _ h1 hEN f62 (fun P' n' hP' => ⟨fun _ => by omega, fun _ => by omega, fun _ => by omega, fun _ => by omega, fun _ => by omega, fun _ => by omega, fun _ => by omega, fun _ => ?_, fun _ => by omega⟩)⟩
    rw [tie_aw h1 hc, f1 14 (by decide) (by decide) (by decide), f1 15 (by decide) (by decide) (by decide), f1 16 (by decide) (by decide) (by decide), f1 45 (by decide) (by decide) (by decide)]
  · exact ⟨_, rfl, key M _ h hE rfl (fun _ _ _ => ⟨fun _ => by omega, fun _ => by omega, fun _ => by omega, fun _ => by omega, fun _ => by omega, fun _ => by omega, fun _ => by omega, fun _ => by omega, fun _ => rfl⟩)⟩
