/-! ties: back, feed -/
theorem tie_bk {c : Int} {M M2 : mmM} (h : tieR c M) (hpos : 0 < M 47 2) (hr : rwI M2) (hq : quI M2 24) (hs : seI M2) (hw : wnB (c + 1) M2) (a3 : M2 47 3 = bkA M) (a2 : M2 47 2 = M 47 2 - 1) (hF : ∀ o, o = 48 ∨ (50 ≤ o ∧ o ≤ 61) → M2 o = M o) (g29 : M2 62 29 = M 62 29 - 1) (g72 : M2 72 = M 72)
    (hk : okA (aF M) (M2 13 4) ((M 47 2).toNat - 1) 1 (M2 13 5) (M2 18 4) (M2 22)) (e13 : M2 1 3 = M 1 3) (e2 : M2 62 2 = M 62 2) (t2 : M2 2 = M 2) (t63 : M2 63 = M 63)
    (hE : M2 62 3 = M2 13 4 ∧ M2 62 5 = M2 13 5 ∧ M2 62 8 = M2 18 4 ∧ M2 62 10 = M2 0 9 ∧ M2 62 11 = M2 0 10 ∧ M2 62 12 = M2 0 11 ∧ M2 62 34 = -1) (hW : M2 62 39 = M2 45 1 ∧ M2 62 40 = M2 45 2 ∧ M2 62 41 = M2 45 3 ∧ M2 62 42 = M2 45 6 ∧ M2 62 43 = M2 45 4 ∧ M2 62 44 = M2 45 5)
    (ec : ∀ i, 0 ≤ i → i < M2 13 4 → M2 64 i = M2 14 i) (eh : ∀ k, 0 ≤ k → k < M2 13 5 → M2 65 k = M2 15 k ∧ M2 66 k = M2 16 k) (eq : ∀ q, 0 ≤ q → q < M2 18 4 → mk M2 q = M2 19 q ∧ mf M2 q = M2 20 q ∧ ml M2 q = M2 21 q ∧ mt M2 q = M2 22 q) : tieR (c + 1) M2 := by
  obtain ⟨⟨-, -, -, -, ha, u0, u1, hok⟩, ⟨⟨f2, -, -, -, -, -, -, e29, -⟩, -, htp, -, -, -, eA⟩, c0⟩ := h
  have ha2 := ha
  unfold acI at ha2
  have hA : ∀ j : Nat, aF M2 j = aF M (j + 1) := by
    intro j
    unfold aF
    unfold bkA at a3
    rw [a3, show ((M 47 3 + 11) % 12 + 11 - (j : Int)) % 12 = (M 47 3 + 11 - ((j + 1 : Nat) : Int)) % 12 by omega, hF 48 (by omega), hF _ (by omega)]
  have hG : ∀ j : Nat, aG M2 j = aG M (j + 1) := by
    intro j
    unfold aG
    rw [g29, g72, show M 62 29 - 1 - 1 - (j : Int) = M 62 29 - 1 - ((j + 1 : Nat) : Int) by omega]
  refine ⟨⟨hr, hq, hs, hw, ?_, by rw [e13]; exact u0, by rw [e13]; exact u1, ?_⟩, ⟨⟨by rw [e2, e13, f2], hE.1, hE.2.1, hE.2.2.1, hE.2.2.2.1, hE.2.2.2.2.1, hE.2.2.2.2.2.1, by rw [g29, a2, e29], hE.2.2.2.2.2.2⟩, hW, ?_, ec, eh, eq, ?_⟩, by omega⟩
  · unfold acI; rw [a2, a3]; unfold bkA; omega
  · rw [a2]
    refine okA_c _ _ 1 0 _ _ _ _ (by omega) (fun i hi => ?_) (fun _ _ _ => rfl) hk
    rw [Nat.zero_add, Nat.add_comm 1 i]
    exact hA i
  · intro i i0 i1
    rw [t63, t2]
    exact htp i i0 i1
  · intro j hj
    rw [hA j, hG j, eA (j + 1) (by omega)]
theorem tie_back {c : Int} {M : mmM} (h : tieR c M) (hc : c ≤ 2000) : tieZ t_P_back t_M_back [vr 0] [vr 62] c M := by
  have hw := tie_w h hc
  have hr := h.1.1
  have hq := h.1.2.1
  have hs := h.1.2.2.1
  have ha := h.1.2.2.2.2.1
  have hwb := h.1.2.2.2.1
  have h29 := tie_29 h
  have hok := h.1.2.2.2.2.2.2.2
  obtain ⟨e2, e3, e5, e8, e10, e11, e12, e29, e34⟩ := h.2.1.1
  obtain ⟨a39, a40, a41, a42, a43, a44⟩ := h.2.1.2.1
  have ec := h.2.1.2.2.2.1
  have eh := h.2.1.2.2.2.2.1
  have eq := h.2.1.2.2.2.2.2.1
  have eA := h.2.1.2.2.2.2.2.2
  have hq0 := hq.1
  have hq1 := hq.2.1
  have hr2 := hr.2.1
  have hr4 := hr.2.2.2.1
  have hr5 := hr.2.2.2.2.1
  have hs2 := hs
  unfold seI at hs2
  have hwb2 := hwb
  unfold wnB at hwb2
  have ha2 := ha
  unfold acI at ha2
  have mb : ∀ N : mmM, N 62 = M 62 → (0 ≤ N 62 29 ∧ N 62 29 ≤ 12 ∧ 0 ≤ N 62 5 ∧ N 62 5 ≤ 32 ∧ 0 ≤ N 62 41 ∧ N 62 41 ≤ 32 ∧ 0 ≤ N 62 44 ∧ N 62 44 ≤ 10000000 ∧ 0 ≤ N 62 8 ∧ N 62 8 ≤ 24) := by
    intro N hN
    rw [hN]
    omega
  refine ⟨rfl, ha, hw, hr2, hr5, hq0, fun hz => ?_, fun hz => ?_⟩
  · have m := mb M rfl
    exact ⟨_, rfl, rfl, m.1, m.2.1, m.2.2.1, m.2.2.2.1, m.2.2.2.2.1, m.2.2.2.2.2.1, m.2.2.2.2.2.2.1, m.2.2.2.2.2.2.2.1, m.2.2.2.2.2.2.2.2.1, m.2.2.2.2.2.2.2.2.2, fun _ => ⟨rfl, tz_tie h⟩, fun w => by omega⟩
  · have hE0 := eA 0 (by omega)
    have hn1 : (M 47 2).toNat = ((M 47 2).toNat - 1) + 1 := by omega
    rw [hn1] at hok
    simp only [okA] at hok
    have ha0 : aF M 0 = (M 48 (bkA M), M (50 + (bkA M).toNat) 0, M (50 + (bkA M).toNat) 1, M (50 + (bkA M).toNat) 2, M (50 + (bkA M).toNat) 3) := by
      unfold aF bkA
      rw [show M 47 3 + 11 - ((0 : Nat) : Int) = M 47 3 + 11 by omega]
    have hg0 : aG M 0 = (M 72 (5 * (M 62 29 - 1)), M 72 (5 * (M 62 29 - 1) + 1), M 72 (5 * (M 62 29 - 1) + 2), M 72 (5 * (M 62 29 - 1) + 3), M 72 (5 * (M 62 29 - 1) + 4)) := by
      unfold aG
      rw [show M 62 29 - 1 - ((0 : Nat) : Int) = M 62 29 - 1 by omega]
    rw [ha0, hg0] at hE0
    rw [ha0] at hok
    generalize hP : bkA M = p at *
    injection hE0 with x0 hE0
    injection hE0 with x1 hE0
    injection hE0 with x2 hE0
    injection hE0 with x3 x4
    obtain ⟨hk, h0, h1, h2, h3, h4, h5⟩ := hok
    simp only at hk h0 h1 h2 h3 h4 h5
    generalize hK : M 48 p = K at *
    generalize hA0 : M (50 + p.toNat) 0 = A0 at *
    generalize hA1 : M (50 + p.toNat) 1 = A1 at *
    generalize hA2 : M (50 + p.toNat) 2 = A2 at *
    generalize hA3 : M (50 + p.toNat) 3 = A3 at *
    -- what holds of both ends' ring and row of acts
    have bo : ∀ o, o ≠ 47 → bkM M o = M o := fun o x => bkM_o x
    have b2 : bkM M 47 2 = M 47 2 - 1 := by unfold bkM; rw [mm_up_i _ (by decide), mm_up_s]
    have b3 : bkM M 47 3 = p := by unfold bkM; rw [mm_up_s, hP]
    refine ⟨hk, fun kk => ?_, fun kk => ?_, fun kk => ?_, fun kk => ?_, fun kk => ?_, fun kk => ?_⟩
    · -- a change
      obtain ⟨y1, y2, y3⟩ := h0 kk
      refine ⟨y1, ?_⟩
      generalize hM1 : mm_up (if M 45 3 < M 13 5 then bkM M else mm_up (mm_up (bkM M) 45 3 (M 45 3 - 1)) 45 5 (M 45 5 + 1)) 13 5 (M 13 5 - 1) = M1
      have f1 : ∀ o, o ≠ 13 → o ≠ 45 → o ≠ 47 → M1 o = M o := fun o x y z => by
        rw [← hM1, mm_up_o _ _ x]
        split
        · exact bo o z
        · rw [mm_up_o _ _ y, mm_up_o _ _ y, bo o z]
      have f47 : M1 47 = bkM M 47 := by
        rw [← hM1, mm_up_o _ _ (by decide)]
        split
        · rfl
        · rw [mm_up_o _ _ (by decide), mm_up_o _ _ (by decide)]
      have f134 : M1 13 4 = M 13 4 := by
        rw [← hM1, mm_up_i _ (by decide)]
        split
        · rw [bo 13 (by decide)]
        · rw [mm_up_o _ _ (by decide), mm_up_o _ _ (by decide), bo 13 (by decide)]
      have f135 : M1 13 5 = M 13 5 - 1 := by rw [← hM1, mm_up_s]
      have f45 : M1 45 1 = M 45 1 ∧ M1 45 2 = M 45 2 ∧ M1 45 4 = M 45 4 ∧ M1 45 6 = M 45 6 ∧ M1 45 3 = (if M 45 3 < M 13 5 then M 45 3 else M 45 3 - 1) ∧ M1 45 5 = (if M 45 3 < M 13 5 then M 45 5 else M 45 5 + 1) := by
        rw [← hM1]
        by_cases cc : M 45 3 < M 13 5
        · rw [if_pos cc, if_pos cc, if_pos cc]
          refine ⟨?_, ?_, ?_, ?_, ?_, ?_⟩ <;> rw [mm_up_o _ _ (by decide), bo 45 (by decide)]
        · rw [if_neg cc, if_neg cc, if_neg cc]
          refine ⟨?_, ?_, ?_, ?_, ?_, ?_⟩ <;> rw [mm_up_o _ _ (by decide)]
          · rw [mm_up_i _ (by decide), mm_up_i _ (by decide), bo 45 (by decide)]
          · rw [mm_up_i _ (by decide), mm_up_i _ (by decide), bo 45 (by decide)]
          · rw [mm_up_i _ (by decide), mm_up_i _ (by decide), bo 45 (by decide)]
          · rw [mm_up_i _ (by decide), mm_up_i _ (by decide), bo 45 (by decide)]
          · rw [mm_up_i _ (by decide), mm_up_s]
          · rw [mm_up_s]
      have f62 : M1 62 = M 62 := f1 62 (by decide) (by decide) (by decide)
      have f72 : M1 72 = M 72 := f1 72 (by decide) (by decide) (by decide)
      have m := mb M1 f62
      refine ⟨_, rfl, rfl, m.1, m.2.1, m.2.2.1, m.2.2.2.1, m.2.2.2.2.1, m.2.2.2.2.2.1, m.2.2.2.2.2.2.1, m.2.2.2.2.2.2.2.1, m.2.2.2.2.2.2.2.2.1, m.2.2.2.2.2.2.2.2.2, fun w => by rw [f62] at w; omega, fun _ => ?_⟩
      rw [f62, f72, ← x0]
      refine ⟨fun _ => ⟨rfl, ?_⟩, fun w => by omega, fun w => by omega, fun w => by omega, fun w => by omega, fun w => by omega⟩
      generalize hM2 : mm_up (if M 62 41 = M 62 5 then mm_up (mm_up (bkT M1) 62 41 (M 62 41 - 1)) 62 44 (M 62 44 + 1) else bkT M1) 62 5 (M 62 5 - 1) = M2
      have to : ∀ o, o ≠ 62 → bkT M1 o = M1 o := fun o x => by unfold bkT; rw [mm_up_o _ _ x, tz_o M1 x]
      have tj : ∀ j, j ≠ 0 → j ≠ 29 → bkT M1 62 j = M 62 j := fun j x y => by unfold bkT; rw [mm_up_i _ y, tz_i M1 x, f62]
      have t29 : bkT M1 62 29 = M 62 29 - 1 := by unfold bkT; rw [mm_up_s, f62]
      have g0 : ∀ o, o ≠ 62 → M2 o = M1 o := fun o x => by
        rw [← hM2, mm_up_o _ _ x]
        split
        · rw [mm_up_o _ _ x, mm_up_o _ _ x, to o x]
        · exact to o x
      have gj : ∀ j, j ≠ 0 → j ≠ 29 → j ≠ 5 → j ≠ 41 → j ≠ 44 → M2 62 j = M 62 j := fun j x y z u v => by
        rw [← hM2, mm_up_i _ z]
        split
        · rw [mm_up_i _ v, mm_up_i _ u, tj j x y]
        · exact tj j x y
      have g29 : M2 62 29 = M 62 29 - 1 := by
        rw [← hM2, mm_up_i _ (by decide)]
        split
        · rw [mm_up_i _ (by decide), mm_up_i _ (by decide), t29]
        · exact t29
      have g5 : M2 62 5 = M 62 5 - 1 := by rw [← hM2, mm_up_s]
      have g41 : M2 62 41 = (if M 45 3 < M 13 5 then M 45 3 else M 45 3 - 1) ∧ M2 62 44 = (if M 45 3 < M 13 5 then M 45 5 else M 45 5 + 1) := by
        rw [← hM2, mm_up_i _ (by decide), mm_up_i _ (by decide), a41, a44, e5]
        by_cases cc : M 45 3 = M 13 5
        · rw [if_pos cc, if_neg (by omega), if_neg (by omega), mm_up_i _ (by decide), mm_up_s, mm_up_s]
          exact ⟨rfl, rfl⟩
        · rw [if_neg cc, if_pos (by omega), if_pos (by omega), tj 41 (by decide) (by decide), tj 44 (by decide) (by decide), a41, a44]
          exact ⟨rfl, rfl⟩
      have gg : ∀ o, o ≠ 13 ∧ o ≠ 45 ∧ o ≠ 47 ∧ o ≠ 62 → M2 o = M o := fun o x => by rw [g0 o x.2.2.2, f1 o x.1 x.2.1 x.2.2.1]
      have g13 := g0 13 (by decide)
      have g45 := g0 45 (by decide)
      have g47 := g0 47 (by decide)
      refine tie_bk h hz ?_ ?_ ?_ ?_ (by rw [g47, f47, b3, hP]) (by rw [g47, f47, b2]) (fun o x => gg o (by omega)) g29 (gg 72 (by decide)) ?_ (by rw [gg 1 (by decide)]) (gj 2 (by decide) (by decide) (by decide) (by decide) (by decide)) (gg 2 (by decide)) (gg 63 (by decide)) ⟨?_, ?_, ?_, ?_, ?_, ?_, ?_⟩ ⟨?_, ?_, ?_, ?_, ?_, ?_⟩ ?_ ?_ ?_
      · unfold rwI; rw [g13, f134, f135, gg 14 (by decide), gg 15 (by decide), gg 16 (by decide)]
        exact ⟨hr.1, hr.2.1, hr.2.2.1, by omega, by omega, fun k k0 k1 => hr.2.2.2.2.2 k k0 (by omega)⟩
      · unfold quI; rw [g13, f134, f135, gg 18 (by decide), gg 19 (by decide), gg 20 (by decide), gg 21 (by decide), gg 22 (by decide)]
        refine ⟨hq0, hq1, fun q q0 q9 => ?_⟩
        have v1 := hq.2.2 q q0 q9
        have v2 := y2 q q0 q9
        omega
      · unfold seI; rw [gg 0 (by decide)]; exact hs
      · unfold wnB; rw [g45, g13, f134, f135, f45.1, f45.2.1, f45.2.2.1, f45.2.2.2.1, f45.2.2.2.2.1, f45.2.2.2.2.2]
        by_cases cc : M 45 3 < M 13 5
        · rw [if_pos cc, if_pos cc]; omega
        · rw [if_neg cc, if_neg cc]; omega
      · rw [g13, f134, f135, gg 18 (by decide), gg 22 (by decide)]; exact y3
      · rw [gj 3 (by decide) (by decide) (by decide) (by decide) (by decide), g13, f134, e3]
      · rw [g5, g13, f135, e5]
      · rw [gj 8 (by decide) (by decide) (by decide) (by decide) (by decide), gg 18 (by decide), e8]
      · rw [gj 10 (by decide) (by decide) (by decide) (by decide) (by decide), gg 0 (by decide), e10]
      · rw [gj 11 (by decide) (by decide) (by decide) (by decide) (by decide), gg 0 (by decide), e11]
      · rw [gj 12 (by decide) (by decide) (by decide) (by decide) (by decide), gg 0 (by decide), e12]
      · rw [gj 34 (by decide) (by decide) (by decide) (by decide) (by decide), e34]
      · rw [gj 39 (by decide) (by decide) (by decide) (by decide) (by decide), g45, f45.1, a39]
      · rw [gj 40 (by decide) (by decide) (by decide) (by decide) (by decide), g45, f45.2.1, a40]
      · rw [g41.1, g45, f45.2.2.2.2.1]
      · rw [gj 42 (by decide) (by decide) (by decide) (by decide) (by decide), g45, f45.2.2.2.1, a42]
      · rw [gj 43 (by decide) (by decide) (by decide) (by decide) (by decide), g45, f45.2.2.1, a43]
      · rw [g41.2, g45, f45.2.2.2.2.2]
      · rw [g13, f134, gg 64 (by decide), gg 14 (by decide)]; exact ec
      · rw [g13, f135, gg 65 (by decide), gg 66 (by decide), gg 15 (by decide), gg 16 (by decide)]
        exact fun k k0 k1 => eh k k0 (by omega)
      · unfold mk mf ml mt at *
        rw [gg 18 (by decide), gg 19 (by decide), gg 20 (by decide), gg 21 (by decide), gg 22 (by decide), gg 67 (by decide)]; exact eq
    · -- an ask
      obtain ⟨y1, y2⟩ := h1 kk
      refine ⟨y1, ?_⟩
      generalize hM1 : mm_up (bkM M) 18 4 (M 18 4 - 1) = M1
      have f1 : ∀ o, o ≠ 18 → o ≠ 47 → M1 o = M o := fun o x z => by rw [← hM1, mm_up_o _ _ x, bo o z]
      have f47 : M1 47 = bkM M 47 := by rw [← hM1, mm_up_o _ _ (by decide)]
      have f18 : M1 18 4 = M 18 4 - 1 := by rw [← hM1, mm_up_s]
      have f62 : M1 62 = M 62 := f1 62 (by decide) (by decide)
      have f72 : M1 72 = M 72 := f1 72 (by decide) (by decide)
      have m := mb M1 f62
      refine ⟨_, rfl, rfl, m.1, m.2.1, m.2.2.1, m.2.2.2.1, m.2.2.2.2.1, m.2.2.2.2.2.1, m.2.2.2.2.2.2.1, m.2.2.2.2.2.2.2.1, m.2.2.2.2.2.2.2.2.1, m.2.2.2.2.2.2.2.2.2, fun w => by rw [f62] at w; omega, fun _ => ?_⟩
      rw [f62, f72, ← x0]
      refine ⟨fun w => by omega, fun _ => ⟨rfl, ?_⟩, fun w => by omega, fun w => by omega, fun w => by omega, fun w => by omega⟩
      generalize hM2 : mm_up (bkT M1) 62 8 (M 62 8 - 1) = M2
      have gg : ∀ o, o ≠ 18 ∧ o ≠ 47 ∧ o ≠ 62 → M2 o = M o := fun o x => by rw [← hM2, mm_up_o _ _ x.2.2]; unfold bkT; rw [mm_up_o _ _ x.2.2, tz_o M1 x.2.2, f1 o x.1 x.2.1]
      have g0 : ∀ o, o ≠ 62 → M2 o = M1 o := fun o x => by rw [← hM2, mm_up_o _ _ x]; unfold bkT; rw [mm_up_o _ _ x, tz_o M1 x]
      have gj : ∀ j, j ≠ 0 ∧ j ≠ 29 ∧ j ≠ 8 → M2 62 j = M 62 j := fun j x => by rw [← hM2, mm_up_i _ x.2.2]; unfold bkT; rw [mm_up_i _ x.2.1, tz_i M1 x.1, f62]
      have g8 : M2 62 8 = M 62 8 - 1 := by rw [← hM2, mm_up_s]
      have g29 : M2 62 29 = M 62 29 - 1 := by rw [← hM2, mm_up_i _ (by decide)]; unfold bkT; rw [mm_up_s, f62]
      have g18 := g0 18 (by decide)
      have g47 := g0 47 (by decide)
      refine tie_bk h hz ?_ ?_ ?_ ?_ (by rw [g47, f47, b3, hP]) (by rw [g47, f47, b2]) (fun o x => gg o (by omega)) g29 (gg 72 (by decide)) ?_ (by rw [gg 1 (by decide)]) (gj 2 (by decide)) (gg 2 (by decide)) (gg 63 (by decide)) ⟨?_, ?_, ?_, ?_, ?_, ?_, ?_⟩ ⟨?_, ?_, ?_, ?_, ?_, ?_⟩ ?_ ?_ ?_
      · unfold rwI; rw [gg 13 (by decide), gg 14 (by decide), gg 15 (by decide), gg 16 (by decide)]; exact hr
      · unfold quI; rw [gg 13 (by decide), g18, f18, gg 19 (by decide), gg 20 (by decide), gg 21 (by decide), gg 22 (by decide)]
        exact ⟨by omega, by omega, fun q q0 q9 => hq.2.2 q q0 (by omega)⟩
      · unfold seI; rw [gg 0 (by decide)]; exact hs
      · exact wnB_s hwb (gg 45 (by decide)) (by rw [gg 13 (by decide)]) (by rw [gg 13 (by decide)]; omega)
      · rw [gg 13 (by decide), g18, f18, gg 22 (by decide)]; exact y2
      · rw [gj 3 (by decide), gg 13 (by decide), e3]
      · rw [gj 5 (by decide), gg 13 (by decide), e5]
      · rw [g8, g18, f18, e8]
      · rw [gj 10 (by decide), gg 0 (by decide), e10]
      · rw [gj 11 (by decide), gg 0 (by decide), e11]
      · rw [gj 12 (by decide), gg 0 (by decide), e12]
      · rw [gj 34 (by decide), e34]
      · rw [gj 39 (by decide), gg 45 (by decide), a39]
      · rw [gj 40 (by decide), gg 45 (by decide), a40]
      · rw [gj 41 (by decide), gg 45 (by decide), a41]
      · rw [gj 42 (by decide), gg 45 (by decide), a42]
      · rw [gj 43 (by decide), gg 45 (by decide), a43]
      · rw [gj 44 (by decide), gg 45 (by decide), a44]
      · rw [gg 13 (by decide), gg 64 (by decide), gg 14 (by decide)]; exact ec
      · rw [gg 13 (by decide), gg 65 (by decide), gg 66 (by decide), gg 15 (by decide), gg 16 (by decide)]; exact eh
      · unfold mk mf ml mt at *
        rw [g18, f18, gg 19 (by decide), gg 20 (by decide), gg 21 (by decide), gg 22 (by decide), gg 67 (by decide)]
        exact fun q q0 q9 => eq q q0 (by omega)
    · -- a drop
      obtain ⟨y0, y1, y2, y3, y4⟩ := h2 kk
      refine ⟨by omega, ?_⟩
      generalize hM1 : qAdd (bkM M) 18 A0 A1 A2 A3 = M1
      have f1 : ∀ o, (o < 18 ∨ 22 < o) → o ≠ 47 → M1 o = M o := fun o x z => by rw [← hM1, qAdd_o (by omega), bo o z]
      have f47 : M1 47 = bkM M 47 := by rw [← hM1, qAdd_o (by omega)]
      have f18 : M1 18 4 = M 18 4 + 1 := by rw [← hM1, qAdd_4, bo 18 (by decide)]
      have fi : ∀ q, q ≠ M 18 4 → M1 19 q = M 19 q ∧ M1 20 q = M 20 q ∧ M1 21 q = M 21 q ∧ M1 22 q = M 22 q := by
        intro q hq
        have := qAdd_i (M1 := bkM M) (k := A0) (f := A1) (l := A2) (t := A3) (i := q) (by rw [bo 18 (by decide)]; exact hq)
        rw [hM1, bo 19 (by decide), bo 20 (by decide), bo 21 (by decide), bo 22 (by decide)] at this
        exact this
      have fn : M1 19 (M 18 4) = A0 ∧ M1 20 (M 18 4) = A1 ∧ M1 21 (M 18 4) = A2 ∧ M1 22 (M 18 4) = A3 := by
        have := qAdd_n (M1 := bkM M) (k := A0) (f := A1) (l := A2) (t := A3)
        rw [hM1, bo 18 (by decide)] at this
        exact this
      have f62 : M1 62 = M 62 := f1 62 (by omega) (by decide)
      have f72 : M1 72 = M 72 := f1 72 (by omega) (by decide)
      have f67 : M1 67 = M 67 := f1 67 (by omega) (by decide)
      have m := mb M1 f62
      refine ⟨_, rfl, rfl, m.1, m.2.1, m.2.2.1, m.2.2.2.1, m.2.2.2.2.1, m.2.2.2.2.2.1, m.2.2.2.2.2.2.1, m.2.2.2.2.2.2.2.1, m.2.2.2.2.2.2.2.2.1, m.2.2.2.2.2.2.2.2.2, fun w => by rw [f62] at w; omega, fun _ => ?_⟩
      rw [f62, f72, ← x0, ← x1, ← x2, ← x3, ← x4]
      refine ⟨fun w => by omega, fun w => by omega, fun _ => ⟨rfl, ?_⟩, fun w => by omega, fun w => by omega, fun w => by omega⟩
      have t62 : ∀ j, j ≠ 0 → j ≠ 29 → bkT M1 62 j = M 62 j := fun j x y => by unfold bkT; rw [mm_up_i _ y, tz_i M1 x, f62]
      have to : ∀ o, o ≠ 62 → bkT M1 o = M1 o := fun o x => by unfold bkT; rw [mm_up_o _ _ x, tz_o M1 x]
      generalize hM2 : asM (bkT M1) A0 A1 A2 A3 = M2
      have g0 : ∀ o, o ≠ 62 ∧ o ≠ 67 → M2 o = M1 o := fun o x => by rw [← hM2, asM_o x.1 x.2, to o x.1]
      have gg : ∀ o, (o < 18 ∨ 22 < o) ∧ o ≠ 47 ∧ o ≠ 62 ∧ o ≠ 67 → M2 o = M o := fun o x => by rw [g0 o x.2.2, f1 o x.1 x.2.1]
      have gj : ∀ j, j ≠ 0 ∧ j ≠ 29 ∧ j ≠ 8 → M2 62 j = M 62 j := fun j x => by rw [← hM2, asM_62 x.2.2, t62 j x.1 x.2.1]
      have g8 : M2 62 8 = M 18 4 + 1 := by rw [← hM2, asM_8, t62 8 (by decide) (by decide), e8]
      have g29 : M2 62 29 = M 62 29 - 1 := by rw [← hM2, asM_62 (by decide)]; unfold bkT; rw [mm_up_s, f62]
      have gq : ∀ q, q ≠ M 18 4 → mk M2 q = mk M q ∧ mf M2 q = mf M q ∧ ml M2 q = ml M q ∧ mt M2 q = mt M q := by
        intro q hq
        have := asM_v (M := bkT M1) (k := A0) (f := A1) (l := A2) (t := A3) (q := q) (by rw [t62 8 (by decide) (by decide), e8]; exact hq)
        rw [hM2] at this
        unfold mk mf ml mt at this ⊢
        rw [to 67 (by decide), f67] at this
        exact this
      have gn : mk M2 (M 18 4) = A0 ∧ mf M2 (M 18 4) = A1 ∧ ml M2 (M 18 4) = A2 ∧ mt M2 (M 18 4) = A3 := by
        have := asM_n (M := bkT M1) (k := A0) (f := A1) (l := A2) (t := A3)
        rw [hM2, t62 8 (by decide) (by decide), e8, if_neg (by omega)] at this
        exact this
      have g18 := g0 18 (by decide)
      have g19 := g0 19 (by decide)
      have g20 := g0 20 (by decide)
      have g21 := g0 21 (by decide)
      have g22 := g0 22 (by decide)
      have g47 := g0 47 (by decide)
      refine tie_bk h hz ?_ ?_ ?_ ?_ (by rw [g47, f47, b3, hP]) (by rw [g47, f47, b2]) (fun o x => gg o (by omega)) g29 (gg 72 (by decide)) ?_ (by rw [gg 1 (by decide)]) (gj 2 (by decide)) (gg 2 (by decide)) (gg 63 (by decide)) ⟨?_, ?_, ?_, ?_, ?_, ?_, ?_⟩ ⟨?_, ?_, ?_, ?_, ?_, ?_⟩ ?_ ?_ (fun q q0 q9 => ?_)
      · unfold rwI; rw [gg 13 (by decide), gg 14 (by decide), gg 15 (by decide), gg 16 (by decide)]; exact hr
      · unfold quI; rw [gg 13 (by decide), g18, f18, g19, g20, g21, g22]
        refine ⟨by omega, by omega, fun q q0 q9 => ?_⟩
        by_cases cq : q = M 18 4
        · rw [cq, fn.1, fn.2.1, fn.2.2.1, fn.2.2.2]; omega
        · have := fi q cq
          rw [this.1, this.2.1, this.2.2.1, this.2.2.2]
          exact hq.2.2 q q0 (by omega)
      · unfold seI; rw [gg 0 (by decide)]; exact hs
      · exact wnB_s hwb (gg 45 (by decide)) (by rw [gg 13 (by decide)]) (by rw [gg 13 (by decide)]; omega)
      · rw [gg 13 (by decide), g18, f18, g22]
        refine okA_c _ _ 1 1 _ _ _ _ (Nat.le_refl _) (fun _ _ => rfl) (fun i i0 i1 => ?_) y4
        by_cases ci : i = M 18 4
        · simp only [if_pos ci]; rw [ci, fn.2.2.2]
        · simp only [if_neg ci]; exact (fi i ci).2.2.2
      · rw [gj 3 (by decide), gg 13 (by decide), e3]
      · rw [gj 5 (by decide), gg 13 (by decide), e5]
      · rw [g8, g18, f18]
      · rw [gj 10 (by decide), gg 0 (by decide), e10]
      · rw [gj 11 (by decide), gg 0 (by decide), e11]
      · rw [gj 12 (by decide), gg 0 (by decide), e12]
      · rw [gj 34 (by decide), e34]
      · rw [gj 39 (by decide), gg 45 (by decide), a39]
      · rw [gj 40 (by decide), gg 45 (by decide), a40]
      · rw [gj 41 (by decide), gg 45 (by decide), a41]
      · rw [gj 42 (by decide), gg 45 (by decide), a42]
      · rw [gj 43 (by decide), gg 45 (by decide), a43]
      · rw [gj 44 (by decide), gg 45 (by decide), a44]
      · rw [gg 13 (by decide), gg 64 (by decide), gg 14 (by decide)]; exact ec
      · rw [gg 13 (by decide), gg 65 (by decide), gg 66 (by decide), gg 15 (by decide), gg 16 (by decide)]; exact eh
      · rw [g18, f18] at q9
        rw [g19, g20, g21, g22]
        by_cases cq : q = M 18 4
        · rw [cq, fn.1, fn.2.1, fn.2.2.1, fn.2.2.2]; exact gn
        · have v1 := fi q cq
          have v2 := gq q cq
          rw [v1.1, v1.2.1, v1.2.2.1, v1.2.2.2, v2.1, v2.2.1, v2.2.2.1, v2.2.2.2]
          exact eq q q0 (by omega)
    · -- a weight
      obtain ⟨y1, y2⟩ := h3 kk
      generalize hM1 : mm_up (bkM M) 0 9 A0 = M1
      have f1 : ∀ o, o ≠ 0 → o ≠ 47 → M1 o = M o := fun o x z => by rw [← hM1, mm_up_o _ _ x, bo o z]
      have f47 : M1 47 = bkM M 47 := by rw [← hM1, mm_up_o _ _ (by decide)]
      have f0 : M1 0 9 = A0 ∧ M1 0 10 = M 0 10 ∧ M1 0 11 = M 0 11 := by rw [← hM1, mm_up_s, mm_up_i _ (by decide), mm_up_i _ (by decide), bo 0 (by decide)]; exact ⟨rfl, rfl, rfl⟩
      have f62 : M1 62 = M 62 := f1 62 (by decide) (by decide)
      have f72 : M1 72 = M 72 := f1 72 (by decide) (by decide)
      have m := mb M1 f62
      refine ⟨_, rfl, rfl, m.1, m.2.1, m.2.2.1, m.2.2.2.1, m.2.2.2.2.1, m.2.2.2.2.2.1, m.2.2.2.2.2.2.1, m.2.2.2.2.2.2.2.1, m.2.2.2.2.2.2.2.2.1, m.2.2.2.2.2.2.2.2.2, fun w => by rw [f62] at w; omega, fun _ => ?_⟩
      rw [f62, f72, ← x0, ← x1]
      refine ⟨fun w => by omega, fun w => by omega, fun w => by omega, fun _ => ⟨rfl, ?_⟩, fun w => by omega, fun w => by omega⟩
      generalize hM2 : mm_up (bkT M1) 62 10 A0 = M2
      have g0 : ∀ o, o ≠ 62 → M2 o = M1 o := fun o x => by rw [← hM2, mm_up_o _ _ x]; unfold bkT; rw [mm_up_o _ _ x, tz_o M1 x]
      have gg : ∀ o, o ≠ 0 ∧ o ≠ 47 ∧ o ≠ 62 → M2 o = M o := fun o x => by rw [g0 o x.2.2, f1 o x.1 x.2.1]
      have gj : ∀ j, j ≠ 0 ∧ j ≠ 29 ∧ j ≠ 10 → M2 62 j = M 62 j := fun j x => by rw [← hM2, mm_up_i _ x.2.2]; unfold bkT; rw [mm_up_i _ x.2.1, tz_i M1 x.1, f62]
      have g10 : M2 62 10 = A0 := by rw [← hM2, mm_up_s]
      have g29 : M2 62 29 = M 62 29 - 1 := by rw [← hM2, mm_up_i _ (by decide)]; unfold bkT; rw [mm_up_s, f62]
      have z0 := g0 0 (by decide)
      have g47 := g0 47 (by decide)
      refine tie_bk h hz ?_ ?_ ?_ ?_ (by rw [g47, f47, b3, hP]) (by rw [g47, f47, b2]) (fun o x => gg o (by omega)) g29 (gg 72 (by decide)) ?_ (by rw [gg 1 (by decide)]) (gj 2 (by decide)) (gg 2 (by decide)) (gg 63 (by decide)) ⟨?_, ?_, ?_, ?_, ?_, ?_, ?_⟩ ⟨?_, ?_, ?_, ?_, ?_, ?_⟩ ?_ ?_ ?_
      · unfold rwI; rw [gg 13 (by decide), gg 14 (by decide), gg 15 (by decide), gg 16 (by decide)]; exact hr
      · unfold quI; rw [gg 13 (by decide), gg 18 (by decide), gg 19 (by decide), gg 20 (by decide), gg 21 (by decide), gg 22 (by decide)]; exact hq
      · unfold seI; rw [z0, f0.1, f0.2.1, f0.2.2]; omega
      · exact wnB_s hwb (gg 45 (by decide)) (by rw [gg 13 (by decide)]) (by rw [gg 13 (by decide)]; omega)
      · rw [gg 13 (by decide), gg 18 (by decide), gg 22 (by decide)]; exact y2
      · rw [gj 3 (by decide), gg 13 (by decide), e3]
      · rw [gj 5 (by decide), gg 13 (by decide), e5]
      · rw [gj 8 (by decide), gg 18 (by decide), e8]
      · rw [g10, z0, f0.1]
      · rw [gj 11 (by decide), z0, f0.2.1, e11]
      · rw [gj 12 (by decide), z0, f0.2.2, e12]
      · rw [gj 34 (by decide), e34]
      · rw [gj 39 (by decide), gg 45 (by decide), a39]
      · rw [gj 40 (by decide), gg 45 (by decide), a40]
      · rw [gj 41 (by decide), gg 45 (by decide), a41]
      · rw [gj 42 (by decide), gg 45 (by decide), a42]
      · rw [gj 43 (by decide), gg 45 (by decide), a43]
      · rw [gj 44 (by decide), gg 45 (by decide), a44]
      · rw [gg 13 (by decide), gg 64 (by decide), gg 14 (by decide)]; exact ec
      · rw [gg 13 (by decide), gg 65 (by decide), gg 66 (by decide), gg 15 (by decide), gg 16 (by decide)]; exact eh
      · unfold mk mf ml mt at *
        rw [gg 18 (by decide), gg 19 (by decide), gg 20 (by decide), gg 21 (by decide), gg 22 (by decide), gg 67 (by decide)]; exact eq
    · -- a set
      obtain ⟨y1, y2⟩ := h4 kk
      generalize hM1 : mm_up (mm_up (bkM M) 0 10 A0) 0 11 A1 = M1
      have f1 : ∀ o, o ≠ 0 → o ≠ 47 → M1 o = M o := fun o x z => by rw [← hM1, mm_up_o _ _ x, mm_up_o _ _ x, bo o z]
      have f47 : M1 47 = bkM M 47 := by rw [← hM1, mm_up_o _ _ (by decide), mm_up_o _ _ (by decide)]
      have f0 : M1 0 9 = M 0 9 ∧ M1 0 10 = A0 ∧ M1 0 11 = A1 := by
        rw [← hM1]
        refine ⟨by rw [mm_up_i _ (by decide), mm_up_i _ (by decide), bo 0 (by decide)], by rw [mm_up_i _ (by decide), mm_up_s], by rw [mm_up_s]⟩
      have f62 : M1 62 = M 62 := f1 62 (by decide) (by decide)
      have f72 : M1 72 = M 72 := f1 72 (by decide) (by decide)
      have m := mb M1 f62
      refine ⟨_, rfl, rfl, m.1, m.2.1, m.2.2.1, m.2.2.2.1, m.2.2.2.2.1, m.2.2.2.2.2.1, m.2.2.2.2.2.2.1, m.2.2.2.2.2.2.2.1, m.2.2.2.2.2.2.2.2.1, m.2.2.2.2.2.2.2.2.2, fun w => by rw [f62] at w; omega, fun _ => ?_⟩
      rw [f62, f72, ← x0, ← x1, ← x2]
      refine ⟨fun w => by omega, fun w => by omega, fun w => by omega, fun w => by omega, fun _ => ⟨rfl, ?_⟩, fun w => by omega⟩
      generalize hM2 : mm_up (mm_up (bkT M1) 62 11 A0) 62 12 A1 = M2
      have g0 : ∀ o, o ≠ 62 → M2 o = M1 o := fun o x => by rw [← hM2, mm_up_o _ _ x, mm_up_o _ _ x]; unfold bkT; rw [mm_up_o _ _ x, tz_o M1 x]
      have gg : ∀ o, o ≠ 0 ∧ o ≠ 47 ∧ o ≠ 62 → M2 o = M o := fun o x => by rw [g0 o x.2.2, f1 o x.1 x.2.1]
      have gj : ∀ j, j ≠ 0 ∧ j ≠ 29 ∧ j ≠ 11 ∧ j ≠ 12 → M2 62 j = M 62 j := fun j x => by rw [← hM2, mm_up_i _ x.2.2.2, mm_up_i _ x.2.2.1]; unfold bkT; rw [mm_up_i _ x.2.1, tz_i M1 x.1, f62]
      have g11 : M2 62 11 = A0 := by rw [← hM2, mm_up_i _ (by decide), mm_up_s]
      have g12 : M2 62 12 = A1 := by rw [← hM2, mm_up_s]
      have g29 : M2 62 29 = M 62 29 - 1 := by rw [← hM2, mm_up_i _ (by decide), mm_up_i _ (by decide)]; unfold bkT; rw [mm_up_s, f62]
      have z0 := g0 0 (by decide)
      have g47 := g0 47 (by decide)
      refine tie_bk h hz ?_ ?_ ?_ ?_ (by rw [g47, f47, b3, hP]) (by rw [g47, f47, b2]) (fun o x => gg o (by omega)) g29 (gg 72 (by decide)) ?_ (by rw [gg 1 (by decide)]) (gj 2 (by decide)) (gg 2 (by decide)) (gg 63 (by decide)) ⟨?_, ?_, ?_, ?_, ?_, ?_, ?_⟩ ⟨?_, ?_, ?_, ?_, ?_, ?_⟩ ?_ ?_ ?_
      · unfold rwI; rw [gg 13 (by decide), gg 14 (by decide), gg 15 (by decide), gg 16 (by decide)]; exact hr
      · unfold quI; rw [gg 13 (by decide), gg 18 (by decide), gg 19 (by decide), gg 20 (by decide), gg 21 (by decide), gg 22 (by decide)]; exact hq
      · unfold seI; rw [z0, f0.1, f0.2.1, f0.2.2]; omega
      · exact wnB_s hwb (gg 45 (by decide)) (by rw [gg 13 (by decide)]) (by rw [gg 13 (by decide)]; omega)
      · rw [gg 13 (by decide), gg 18 (by decide), gg 22 (by decide)]; exact y2
      · rw [gj 3 (by decide), gg 13 (by decide), e3]
      · rw [gj 5 (by decide), gg 13 (by decide), e5]
      · rw [gj 8 (by decide), gg 18 (by decide), e8]
      · rw [gj 10 (by decide), z0, f0.1, e10]
      · rw [g11, z0, f0.2.1]
      · rw [g12, z0, f0.2.2]
      · rw [gj 34 (by decide), e34]
      · rw [gj 39 (by decide), gg 45 (by decide), a39]
      · rw [gj 40 (by decide), gg 45 (by decide), a40]
      · rw [gj 41 (by decide), gg 45 (by decide), a41]
      · rw [gj 42 (by decide), gg 45 (by decide), a42]
      · rw [gj 43 (by decide), gg 45 (by decide), a43]
      · rw [gj 44 (by decide), gg 45 (by decide), a44]
      · rw [gg 13 (by decide), gg 64 (by decide), gg 14 (by decide)]; exact ec
      · rw [gg 13 (by decide), gg 65 (by decide), gg 66 (by decide), gg 15 (by decide), gg 16 (by decide)]; exact eh
      · unfold mk mf ml mt at *
        rw [gg 18 (by decide), gg 19 (by decide), gg 20 (by decide), gg 21 (by decide), gg 22 (by decide), gg 67 (by decide)]; exact eq
    · -- a cell
      obtain ⟨⟨y1, y2, y3, y4⟩, y5⟩ := h5 kk
      refine ⟨⟨y1, y2⟩, ?_⟩
      generalize hM1 : mm_up (bkM M) 14 A0 A1 = M1
      have f1 : ∀ o, o ≠ 14 → o ≠ 47 → M1 o = M o := fun o x z => by rw [← hM1, mm_up_o _ _ x, bo o z]
      have f47 : M1 47 = bkM M 47 := by rw [← hM1, mm_up_o _ _ (by decide)]
      have f14 : ∀ z, M1 14 z = if z = A0 then A1 else M 14 z := fun z => by rw [← hM1, mm_up_if, bo 14 (by decide)]
      have f62 : M1 62 = M 62 := f1 62 (by decide) (by decide)
      have f72 : M1 72 = M 72 := f1 72 (by decide) (by decide)
      have m := mb M1 f62
      refine ⟨_, rfl, rfl, m.1, m.2.1, m.2.2.1, m.2.2.2.1, m.2.2.2.2.1, m.2.2.2.2.2.1, m.2.2.2.2.2.2.1, m.2.2.2.2.2.2.2.1, m.2.2.2.2.2.2.2.2.1, m.2.2.2.2.2.2.2.2.2, fun w => by rw [f62] at w; omega, fun _ => ?_⟩
      rw [f62, f72, ← x0, ← x1, ← x2]
      refine ⟨fun w => by omega, fun w => by omega, fun w => by omega, fun w => by omega, fun w => by omega, fun _ => ⟨y1, by omega, rfl, ?_⟩⟩
      generalize hM2 : mm_up (bkT M1) 64 A0 A1 = M2
      have t0 : ∀ o, o ≠ 62 → bkT M1 o = M1 o := fun o x => by unfold bkT; rw [mm_up_o _ _ x, tz_o M1 x]
      have g0 : ∀ o, o ≠ 62 → o ≠ 64 → M2 o = M1 o := fun o x y => by rw [← hM2, mm_up_o _ _ y, t0 o x]
      have gg : ∀ o, o ≠ 14 ∧ o ≠ 47 ∧ o ≠ 62 ∧ o ≠ 64 → M2 o = M o := fun o x => by rw [g0 o x.2.2.1 x.2.2.2, f1 o x.1 x.2.1]
      have gj : ∀ j, j ≠ 0 ∧ j ≠ 29 → M2 62 j = M 62 j := fun j x => by rw [← hM2, mm_up_o _ _ (by decide)]; unfold bkT; rw [mm_up_i _ x.2, tz_i M1 x.1, f62]
      have g29 : M2 62 29 = M 62 29 - 1 := by rw [← hM2, mm_up_o _ _ (by decide)]; unfold bkT; rw [mm_up_s, f62]
      have g64 : ∀ z, M2 64 z = if z = A0 then A1 else M 64 z := fun z => by rw [← hM2, mm_up_if, t0 64 (by decide), f1 64 (by decide) (by decide)]
      have g14 : ∀ z, M2 14 z = if z = A0 then A1 else M 14 z := fun z => by rw [g0 14 (by decide) (by decide), f14]
      have g47 := g0 47 (by decide) (by decide)
      refine tie_bk h hz ?_ ?_ ?_ ?_ (by rw [g47, f47, b3, hP]) (by rw [g47, f47, b2]) (fun o x => gg o (by omega)) g29 (gg 72 (by decide)) ?_ (by rw [gg 1 (by decide)]) (gj 2 (by decide)) (gg 2 (by decide)) (gg 63 (by decide)) ⟨?_, ?_, ?_, ?_, ?_, ?_, ?_⟩ ⟨?_, ?_, ?_, ?_, ?_, ?_⟩ ?_ ?_ ?_
      · unfold rwI; rw [gg 13 (by decide), gg 15 (by decide), gg 16 (by decide)]
        refine ⟨hr.1, hr.2.1, fun z z0 z1 => ?_, hr.2.2.2⟩
        rw [g14]
        split
        · exact ⟨y3, y4⟩
        · exact hr.2.2.1 z z0 z1
      · unfold quI; rw [gg 13 (by decide), gg 18 (by decide), gg 19 (by decide), gg 20 (by decide), gg 21 (by decide), gg 22 (by decide)]; exact hq
      · unfold seI; rw [gg 0 (by decide)]; exact hs
      · exact wnB_s hwb (gg 45 (by decide)) (by rw [gg 13 (by decide)]) (by rw [gg 13 (by decide)]; omega)
      · rw [gg 13 (by decide), gg 18 (by decide), gg 22 (by decide)]; exact y5
      · rw [gj 3 (by decide), gg 13 (by decide), e3]
      · rw [gj 5 (by decide), gg 13 (by decide), e5]
      · rw [gj 8 (by decide), gg 18 (by decide), e8]
      · rw [gj 10 (by decide), gg 0 (by decide), e10]
      · rw [gj 11 (by decide), gg 0 (by decide), e11]
      · rw [gj 12 (by decide), gg 0 (by decide), e12]
      · rw [gj 34 (by decide), e34]
      · rw [gj 39 (by decide), gg 45 (by decide), a39]
      · rw [gj 40 (by decide), gg 45 (by decide), a40]
      · rw [gj 41 (by decide), gg 45 (by decide), a41]
      · rw [gj 42 (by decide), gg 45 (by decide), a42]
      · rw [gj 43 (by decide), gg 45 (by decide), a43]
      · rw [gj 44 (by decide), gg 45 (by decide), a44]
      · rw [gg 13 (by decide)]
        intro z z0 z1
        rw [g64, g14]
        split
        · rfl
        · exact ec z z0 z1
      · rw [gg 13 (by decide), gg 65 (by decide), gg 66 (by decide), gg 15 (by decide), gg 16 (by decide)]; exact eh
      · unfold mk mf ml mt at *
        rw [gg 18 (by decide), gg 19 (by decide), gg 20 (by decide), gg 21 (by decide), gg 22 (by decide), gg 67 (by decide)]; exact eq
