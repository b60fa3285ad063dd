/-! what the reader reads: how far, and that it is right -/
theorem nx_mono {N : mmM} (h : rdI N) : N 1 7 ≤ nxM N 1 6 ∧ nxM N 1 6 ≤ nxM N 1 7 := by
  have := tk_b h
  rw [nx_6, nx_7]
  omega
theorem clF_m {N : mmM} (hd : rdM N) (h : (clF N).1 = 1) : N 1 7 ≤ (clF N).2 1 6 := by
  unfold clF at *
  by_cases c1 : whP N 0 63
  · rw [if_pos c1] at h ⊢
    by_cases c2 : N 3 4 < 60
    · rw [if_pos c2] at h ⊢
      have := (nx_mono (clA_rd hd).1).1
      have e : clA N 1 7 = N 1 7 := by unfold clA; rw [mm_up_o _ _ (by decide), mm_up_o _ _ (by decide)]
      rw [e] at this
      exact this
    · rw [if_neg c2] at h
      simp at h
  · rw [if_neg c1] at h
    simp at h
theorem rlF_m : ∀ (k : Nat) (x : Int × mmM), rdM x.2 → rdS x.2 → (rlF k x).1 = 1 → x.1 = 1 ∧ x.2 1 6 ≤ (rlF k x).2 1 6
  | 0, x, _, _, h => ⟨h, by simp only [rlF]; omega⟩
  | k + 1, x, hd, hs, h => by
    simp only [rlF] at h ⊢
    by_cases c : x.1 = 1 ∧ x.2 1 5 = 4
    · rw [if_pos c] at h ⊢
      have hd1 := nx_rd hd.1
      have hs1 := rdS_nx hs
      have hf := clF_f hd1 hs1
      obtain ⟨e1, e2⟩ := rlF_m k _ hf.1 hf.2.1 h
      have m1 := clF_m hd1 e1
      have m2 := nx_mono hd.1
      have m3 := hd.2.2
      refine ⟨c.1, by omega⟩
    · rw [if_neg c] at h ⊢
      exact ⟨h, by omega⟩
theorem rowF_m {N : mmM} (hd : rdM N) (hs : rdS N) (h : (rowF N).1 = 1) : N 1 7 ≤ (rowF N).2 1 6 := by
  unfold rowF at *
  by_cases c : 0 < N 3 4
  · rw [if_pos c] at h
    simp at h
  · rw [if_neg c] at h ⊢
    unfold rowE at *
    generalize hx : rlF 60 (clF (nxM N)) = x at *
    by_cases c2 : x.1 = 1 ∧ x.2 3 4 < 2 ∧ (x.2 1 5 = 3 ∨ x.2 1 5 = 0)
    · rw [if_pos c2] at h
      simp at h
    · rw [if_neg c2] at h ⊢
      have hd1 := nx_rd hd.1
      have hs1 := rdS_nx hs
      have hf := clF_f hd1 hs1
      obtain ⟨e1, e2⟩ := rlF_m 60 _ hf.1 hf.2.1 (by rw [hx]; exact h)
      rw [hx] at e2
      have m1 := clF_m hd1 e1
      have m2 := nx_mono hd.1
      omega
theorem setF_m {N : mmM} (hd : rdM N) (h : (setF N).1 = 1) : N 1 7 ≤ (setF N).2 1 6 := by
  unfold setF at *
  by_cases c1 : N 3 4 = 0
  · rw [if_pos c1] at h
    simp at h
  · rw [if_neg c1] at h ⊢
    by_cases c2 : 32 ≤ N 3 5
    · rw [if_pos c2] at h
      simp at h
    · rw [if_neg c2] at h ⊢
      by_cases c3 : whP (nxM N) 0 (N 3 4 - 1)
      · rw [if_pos c3] at h ⊢
        by_cases c4 : whP (nxM (nxM N)) 0 63
        · rw [if_pos c4] at h ⊢
          have d1 := nx_rd hd.1
          have d2 := nx_rd d1.1
          have m1 := nx_mono hd.1
          have m2 := nx_mono d1.1
          have m3 := nx_mono (chA_rd (i := nxM N 1 8) (v := nxM (nxM N) 1 8) d2).1
          have e : chA (nxM (nxM N)) (nxM N 1 8) (nxM (nxM N) 1 8) 1 7 = nxM (nxM N) 1 7 := by unfold chA; rw [mm_up_o _ _ (by decide), mm_up_o _ _ (by decide), mm_up_o _ _ (by decide)]
          rw [e] at m3
          show N 1 7 ≤ nxM (chA (nxM (nxM N)) (nxM N 1 8) (nxM (nxM N) 1 8)) 1 6
          omega
        · rw [if_neg c4] at h
          simp at h
      · rw [if_neg c3] at h
        simp at h
theorem askF_m {N : mmM} (hd : rdM N) (h : (askF N).1 = 1) : N 1 7 ≤ (askF N).2 1 6 := by
  unfold askF at *
  by_cases c1 : N 3 4 = 0
  · rw [if_pos c1] at h
    simp at h
  · rw [if_neg c1] at h ⊢
    by_cases c2 : 24 ≤ N 8 4
    · rw [if_pos c2] at h
      simp at h
    · rw [if_neg c2] at h ⊢
      by_cases c3 : kdF (nxM N) = -1
      · rw [if_pos c3] at h
        simp at h
      · rw [if_neg c3] at h ⊢
        by_cases c4 : whP (nxM (nxM N)) 0 (N 3 4 - 1)
        · rw [if_pos c4] at h ⊢
          by_cases c5 : whP (nxM (nxM (nxM N))) (nxM (nxM N) 1 8) (N 3 4 - 1)
          · rw [if_pos c5] at h ⊢
            have d1 := nx_rd hd.1
            have d2 := nx_rd d1.1
            have d3 := nx_rd d2.1
            have d4 := nx_rd d3.1
            have d5 := nx_rd d4.1
            have m1 := nx_mono hd.1
            have m2 := nx_mono d1.1
            have m3 := nx_mono d2.1
            have m4 := nx_mono d3.1
            have m5 := nx_mono d4.1
            have m6 := nx_mono d5.1
            unfold tmF at *
            by_cases c6 : wdB (nxM (nxM (nxM (nxM N)))) 3 = true
            · rw [if_pos c6] at h ⊢
              by_cases c7 : whP (nxM (nxM (nxM (nxM (nxM N))))) 0 (nxM (nxM (nxM (nxM N))) 3 5)
              · rw [if_pos c7]
                dsimp only
                rw [qA_o (by omega)]
                omega
              · rw [if_neg c7] at h
                simp at h
            · rw [if_neg c6]
              dsimp only
              rw [qA_o (by omega)]
              omega
          · rw [if_neg c5] at h
            simp at h
        · rw [if_neg c4] at h
          simp at h
theorem wdB_1 {N : mmM} {j : Nat} (h : wdB N j = true) : N 1 5 = 1 := by
  unfold wdB at h
  simp only [Bool.and_eq_true, decide_eq_true_eq] at h
  exact h.1.1
theorem lineF_m {N : mmM} (hd : rdM N) (hs : rdS N) (h : (lineF N).1 = 1) : N 1 7 ≤ (lineF N).2 1 6 ∧ N 1 5 = 1 := by
  unfold lineF at *
  by_cases c0 : wdB N 0 = true
  · rw [if_pos c0] at h ⊢
    exact ⟨rowF_m hd hs h, wdB_1 c0⟩
  · rw [if_neg c0] at h ⊢
    by_cases c1 : wdB N 1 = true
    · rw [if_pos c1] at h ⊢
      exact ⟨setF_m hd h, wdB_1 c1⟩
    · rw [if_neg c1] at h ⊢
      by_cases c2 : wdB N 2 = true
      · rw [if_pos c2] at h ⊢
        exact ⟨askF_m hd h, wdB_1 c2⟩
      · rw [if_neg c2] at h
        simp at h
/-! what was read is right -/
def rdV (A : mmM) : Prop := (∀ i, 0 ≤ i → i < A 3 4 → 0 ≤ A 4 i ∧ A 4 i < 64) ∧ (∀ k, 0 ≤ k → k < A 3 5 → 0 ≤ A 5 k ∧ A 5 k < A 3 4 ∧ 0 ≤ A 6 k ∧ A 6 k < 64) ∧ (∀ q, 0 ≤ q → q < A 8 4 → 0 ≤ A 9 q ∧ A 9 q ≤ 7 ∧ 0 ≤ A 10 q ∧ A 10 q ≤ A 11 q ∧ A 11 q < A 3 4 ∧ 0 ≤ A 12 q ∧ A 12 q ≤ A 3 5) ∧ (A 3 4 = 0 → A 3 5 = 0 ∧ A 8 4 = 0)
theorem rdV_c {A B : mmM} (h : ∀ o, 3 ≤ o → o ≤ 12 → B o = A o) (hv : rdV A) : rdV B := by
  unfold rdV at *
  rw [h 3 (by decide) (by decide), h 4 (by decide) (by decide), h 5 (by decide) (by decide), h 6 (by decide) (by decide), h 8 (by decide) (by decide), h 9 (by decide) (by decide), h 10 (by decide) (by decide), h 11 (by decide) (by decide), h 12 (by decide) (by decide)]
  exact hv
theorem rdV_nx {A : mmM} (hv : rdV A) : rdV (nxM A) := rdV_c (fun o a b => nx_o _ (by omega)) hv
theorem clF_v {N : mmM} (hd : rdM N) (hs : rdS N) (hv : rdV N) (h35 : N 3 5 = 0) (h84 : N 8 4 = 0) (h : (clF N).1 = 1) : rdV (clF N).2 ∧ (clF N).2 3 5 = 0 ∧ (clF N).2 8 4 = 0 := by
  unfold clF at *
  by_cases c1 : whP N 0 63
  · rw [if_pos c1] at h ⊢
    by_cases c2 : N 3 4 < 60
    · rw [if_pos c2]
      have hs2 := hs
      unfold rdS at hs2
      have k34 : nxM (clA N) 3 4 = N 3 4 + 1 := by rw [nx_o _ (by decide)]; unfold clA; rw [mm_up_s]
      have k35 : nxM (clA N) 3 5 = 0 := by rw [nx_o _ (by decide)]; unfold clA; rw [mm_up_i _ (by decide), mm_up_o _ _ (by decide), h35]
      have k84 : nxM (clA N) 8 4 = 0 := by rw [nx_o _ (by decide)]; unfold clA; rw [mm_up_o _ _ (by decide), mm_up_o _ _ (by decide), h84]
      have k4 : ∀ i, nxM (clA N) 4 i = if i = N 3 4 then N 1 8 else N 4 i := fun i => by rw [nx_o _ (by decide)]; unfold clA; rw [mm_up_o _ _ (by decide), mm_up_if]
      show rdV (nxM (clA N)) ∧ nxM (clA N) 3 5 = 0 ∧ nxM (clA N) 8 4 = 0
      refine ⟨⟨fun i i0 i1 => ?_, fun k k0 k1 => ?_, fun q q0 q1 => ?_, fun c => ?_⟩, k35, k84⟩
      · rw [k34] at i1
        rw [k4]
        split
        · have := c1.2; omega
        · exact hv.1 i i0 (by omega)
      · rw [k35] at k1; omega
      · rw [k84] at q1; omega
      · rw [k34] at c; omega
    · rw [if_neg c2] at h
      simp at h
  · rw [if_neg c1] at h
    simp at h
theorem rlF_v : ∀ (k : Nat) (x : Int × mmM), rdM x.2 → rdS x.2 → (x.1 = 1 → rdV x.2 ∧ x.2 3 5 = 0 ∧ x.2 8 4 = 0) → (rlF k x).1 = 1 → rdV (rlF k x).2 ∧ (rlF k x).2 3 5 = 0 ∧ (rlF k x).2 8 4 = 0
  | 0, x, _, _, hv, h => hv h
  | k + 1, x, hd, hs, hv, h => by
    simp only [rlF] at h ⊢
    by_cases c : x.1 = 1 ∧ x.2 1 5 = 4
    · rw [if_pos c] at h ⊢
      have hd1 := nx_rd hd.1
      have hs1 := rdS_nx hs
      have hf := clF_f hd1 hs1
      obtain ⟨v1, v2, v3⟩ := hv c.1
      exact rlF_v k _ hf.1 hf.2.1 (fun c => clF_v hd1 hs1 (rdV_nx v1) (by rw [nx_o _ (by decide), v2]) (by rw [nx_o _ (by decide), v3]) c) h
    · rw [if_neg c] at h ⊢
      exact hv h
theorem rowF_v {N : mmM} (hd : rdM N) (hs : rdS N) (hv : rdV N) (h : (rowF N).1 = 1) : rdV (rowF N).2 ∧ ((rowF N).2 1 5 = 0 ∨ (rowF N).2 1 5 = 3 → 2 ≤ (rowF N).2 3 4) := by
  unfold rowF at *
  by_cases c : 0 < N 3 4
  · rw [if_pos c] at h
    simp at h
  · rw [if_neg c] at h ⊢
    unfold rowE at *
    have hs2 := hs
    unfold rdS at hs2
    have h0 := hv.2.2.2 (by omega)
    have hd1 := nx_rd hd.1
    have hs1 := rdS_nx hs
    have hf := clF_f hd1 hs1
    have hr := rlF_v 60 (clF (nxM N)) hf.1 hf.2.1 (fun c => clF_v hd1 hs1 (rdV_nx hv) (by rw [nx_o _ (by decide), h0.1]) (by rw [nx_o _ (by decide), h0.2]) c)
    generalize hx : rlF 60 (clF (nxM N)) = x at *
    by_cases c2 : x.1 = 1 ∧ x.2 3 4 < 2 ∧ (x.2 1 5 = 3 ∨ x.2 1 5 = 0)
    · rw [if_pos c2] at h
      simp at h
    · rw [if_neg c2] at h ⊢
      refine ⟨(hr h).1, fun c3 => ?_⟩
      by_cases c4 : x.2 3 4 < 2
      · exact absurd ⟨h, c4, c3.symm⟩ c2
      · omega
theorem setF_v {N : mmM} (hs : rdS N) (hv : rdV N) (h2 : 2 ≤ N 3 4 ∨ N 3 4 = 0) (h : (setF N).1 = 1) : rdV (setF N).2 ∧ 2 ≤ (setF N).2 3 4 := by
  unfold setF at *
  by_cases c1 : N 3 4 = 0
  · rw [if_pos c1] at h
    simp at h
  · rw [if_neg c1] at h ⊢
    by_cases c2 : 32 ≤ N 3 5
    · rw [if_pos c2] at h
      simp at h
    · rw [if_neg c2] at h ⊢
      by_cases c3 : whP (nxM N) 0 (N 3 4 - 1)
      · rw [if_pos c3] at h ⊢
        by_cases c4 : whP (nxM (nxM N)) 0 63
        · rw [if_pos c4]
          have w1 := c3.2
          have w2 := c4.2
          clear h
          generalize nxM N 1 8 = ci at w1 ⊢
          generalize nxM (nxM N) 1 8 = cj at w2 ⊢
          have b3 : nxM (nxM N) 3 = N 3 := by rw [nx_o _ (by decide), nx_o _ (by decide)]
          have bo : ∀ o, o ≠ 1 → nxM (nxM N) o = N o := fun o c => by rw [nx_o _ c, nx_o _ c]
          have k3 : ∀ o, o ≠ 1 → o ≠ 3 → o ≠ 5 → o ≠ 6 → nxM (chA (nxM (nxM N)) ci cj) o = N o := fun o a b c d => by rw [nx_o _ a]; unfold chA; rw [mm_up_o _ _ b, mm_up_o _ _ d, mm_up_o _ _ c, bo o a]
          have k35 : nxM (chA (nxM (nxM N)) ci cj) 3 5 = N 3 5 + 1 := by rw [nx_o _ (by decide)]; unfold chA; rw [mm_up_s, b3]
          have k34 : nxM (chA (nxM (nxM N)) ci cj) 3 4 = N 3 4 := by rw [nx_o _ (by decide)]; unfold chA; rw [mm_up_i _ (by decide), mm_up_o _ _ (by decide), mm_up_o _ _ (by decide), b3]
          have k5 : ∀ i, nxM (chA (nxM (nxM N)) ci cj) 5 i = if i = N 3 5 then ci else N 5 i := fun i => by rw [nx_o _ (by decide)]; unfold chA; rw [mm_up_o _ _ (by decide), mm_up_o _ _ (by decide), mm_up_if, b3, bo 5 (by decide)]
          have k6 : ∀ i, nxM (chA (nxM (nxM N)) ci cj) 6 i = if i = N 3 5 then cj else N 6 i := fun i => by rw [nx_o _ (by decide)]; unfold chA; rw [mm_up_o _ _ (by decide), mm_up_if, b3, mm_up_o _ _ (by decide), bo 6 (by decide)]
          show rdV (nxM (chA (nxM (nxM N)) ci cj)) ∧ 2 ≤ nxM (chA (nxM (nxM N)) ci cj) 3 4
          unfold rdV
          rw [k34, k35, k3 4 (by decide) (by decide) (by decide) (by decide), k3 8 (by decide) (by decide) (by decide) (by decide), k3 9 (by decide) (by decide) (by decide) (by decide), k3 10 (by decide) (by decide) (by decide) (by decide), k3 11 (by decide) (by decide) (by decide) (by decide), k3 12 (by decide) (by decide) (by decide) (by decide)]
          refine ⟨⟨hv.1, fun k k0 k1 => ?_, fun q q0 q1 => ?_, fun c => absurd c c1⟩, by omega⟩
          · rw [k5, k6]
            split
            · omega
            · exact hv.2.1 k k0 (by omega)
          · have := hv.2.2.1 q q0 q1
            omega
        · rw [if_neg c4] at h
          simp at h
      · rw [if_neg c3] at h
        simp at h
theorem qAdd_v {N9 N : mmM} {K F L tt : Int} (n9 : ∀ o, o ≠ 1 → N9 o = N o) (hv : rdV N) (hK : 0 ≤ K ∧ K ≤ 7) (hF : 0 ≤ F ∧ F ≤ L ∧ L < N 3 4) (hT : 0 ≤ tt ∧ tt ≤ N 3 5) : rdV (qAdd N9 8 K F L tt) ∧ qAdd N9 8 K F L tt 3 4 = N 3 4 := by
  have k3 : ∀ o, o ≠ 1 → o < 8 → qAdd N9 8 K F L tt o = N o := fun o a b => by rw [qA_o (by omega), n9 o a]
  have k8 : qAdd N9 8 K F L tt 8 4 = N 8 4 + 1 := by rw [qA_n, n9 8 (by decide)]
  have k9 : ∀ i, qAdd N9 8 K F L tt 9 i = (if i = N 8 4 then K else N 9 i) ∧ qAdd N9 8 K F L tt 10 i = (if i = N 8 4 then F else N 10 i) ∧ qAdd N9 8 K F L tt 11 i = (if i = N 8 4 then L else N 11 i) ∧ qAdd N9 8 K F L tt 12 i = (if i = N 8 4 then tt else N 12 i) := by
    intro i
    unfold qAdd
    rw [n9 8 (by decide)]
    refine ⟨?_, ?_, ?_, ?_⟩
    · rw [mm_up_o _ _ (by decide), mm_up_o _ _ (by decide), mm_up_o _ _ (by decide), mm_up_o _ _ (by decide), mm_up_if, n9 9 (by decide)]
    · rw [mm_up_o _ _ (by decide), mm_up_o _ _ (by decide), mm_up_o _ _ (by decide), mm_up_if, mm_up_o _ _ (by decide), n9 10 (by decide)]
    · rw [mm_up_o _ _ (by decide), mm_up_o _ _ (by decide), mm_up_if, mm_up_o _ _ (by decide), mm_up_o _ _ (by decide), n9 11 (by decide)]
    · rw [mm_up_o _ _ (by decide), mm_up_if, mm_up_o _ _ (by decide), mm_up_o _ _ (by decide), mm_up_o _ _ (by decide), n9 12 (by decide)]
  unfold rdV
  rw [k8, k3 3 (by decide) (by decide), k3 4 (by decide) (by decide), k3 5 (by decide) (by decide), k3 6 (by decide) (by decide)]
  refine ⟨⟨hv.1, hv.2.1, fun q q0 q1 => ?_, fun c => by omega⟩, rfl⟩
  obtain ⟨y1, y2, y3, y4⟩ := k9 q
  rw [y1, y2, y3, y4]
  by_cases c : q = N 8 4
  · rw [if_pos c, if_pos c, if_pos c, if_pos c]
    omega
  · rw [if_neg c, if_neg c, if_neg c, if_neg c]
    exact hv.2.2.1 q q0 (by omega)
theorem askF_v {N : mmM} (hs : rdS N) (hv : rdV N) (h2 : 2 ≤ N 3 4 ∨ N 3 4 = 0) (h : (askF N).1 = 1) : rdV (askF N).2 ∧ 2 ≤ (askF N).2 3 4 := by
  have hs2 := hs
  unfold rdS at hs2
  unfold askF at *
  by_cases c1 : N 3 4 = 0
  · rw [if_pos c1] at h
    simp at h
  · rw [if_neg c1] at h ⊢
    by_cases c2 : 24 ≤ N 8 4
    · rw [if_pos c2] at h
      simp at h
    · rw [if_neg c2] at h ⊢
      by_cases c3 : kdF (nxM N) = -1
      · rw [if_pos c3] at h
        simp at h
      · rw [if_neg c3] at h ⊢
        have hk := kd_b (nxM N)
        by_cases c4 : whP (nxM (nxM N)) 0 (N 3 4 - 1)
        · rw [if_pos c4] at h ⊢
          by_cases c5 : whP (nxM (nxM (nxM N))) (nxM (nxM N) 1 8) (N 3 4 - 1)
          · rw [if_pos c5] at h ⊢
            have w4 := c4.2
            have w5 := c5.2
            have n4 : ∀ o, o ≠ 1 → nxM (nxM (nxM (nxM N))) o = N o := fun o c => by rw [nx_o _ c, nx_o _ c, nx_o _ c, nx_o _ c]
            have n6 : ∀ o, o ≠ 1 → nxM (nxM (nxM (nxM (nxM (nxM N))))) o = N o := fun o c => by rw [nx_o _ c, nx_o _ c, n4 o c]
            unfold tmF at *
            rw [n4 3 (by decide)] at h ⊢
            by_cases c6 : wdB (nxM (nxM (nxM (nxM N)))) 3 = true
            · rw [if_pos c6] at h ⊢
              by_cases c7 : whP (nxM (nxM (nxM (nxM (nxM N))))) 0 (N 3 5)
              · rw [if_pos c7]
                have w7 := c7.2
                have := qAdd_v (K := kdF (nxM N)) (F := nxM (nxM N) 1 8) (L := nxM (nxM (nxM N)) 1 8) (tt := nxM (nxM (nxM (nxM (nxM N)))) 1 8) n6 hv (by omega) (by omega) (by omega)
                exact ⟨this.1, by dsimp only; rw [this.2]; omega⟩
              · rw [if_neg c7] at h
                simp at h
            · rw [if_neg c6]
              have := qAdd_v (K := kdF (nxM N)) (F := nxM (nxM N) 1 8) (L := nxM (nxM (nxM N)) 1 8) (tt := N 3 5) n4 hv (by omega) (by omega) (by omega)
              exact ⟨this.1, by dsimp only; rw [this.2]; omega⟩
          · rw [if_neg c5] at h
            simp at h
        · rw [if_neg c4] at h
          simp at h
theorem lineF_v {N : mmM} (hd : rdM N) (hs : rdS N) (hv : rdV N) (h2 : 2 ≤ N 3 4 ∨ N 3 4 = 0) (h : (lineF N).1 = 1) : rdV (lineF N).2 ∧ ((lineF N).2 1 5 = 0 ∨ (lineF N).2 1 5 = 3 → 2 ≤ (lineF N).2 3 4) := by
  unfold lineF at *
  by_cases c0 : wdB N 0 = true
  · rw [if_pos c0] at h ⊢
    exact rowF_v hd hs hv h
  · rw [if_neg c0] at h ⊢
    by_cases c1 : wdB N 1 = true
    · rw [if_pos c1] at h ⊢
      have := setF_v hs hv h2 h
      exact ⟨this.1, fun _ => this.2⟩
    · rw [if_neg c1] at h ⊢
      by_cases c2 : wdB N 2 = true
      · rw [if_pos c2] at h ⊢
        have := askF_v hs hv h2 h
        exact ⟨this.1, fun _ => this.2⟩
      · rw [if_neg c2] at h
        simp at h
