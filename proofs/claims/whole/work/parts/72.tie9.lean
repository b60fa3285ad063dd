/-! ties: feed, text -/
theorem i2bF : ∀ f : Fin 256, -128 ≤ ((⟨⟨⟨f⟩⟩⟩ : Int8).toInt32).toInt ∧ ((⟨⟨⟨f⟩⟩⟩ : Int8).toInt32).toInt ≤ 127 := by decide +kernel
theorem i2b_b (x : Int) : -128 ≤ mm_i2b x ∧ mm_i2b x ≤ 127 := by
  unfold mm_i2b
  generalize (Int32.ofInt x).toInt8 = y
  match y with
  | ⟨⟨⟨f⟩⟩⟩ => exact i2bF f
/-- the two tapes, in two memories -/
def tpR (A B : mmM) : Prop := B 62 2 = A 1 3 ∧ ∀ i, 0 ≤ i → i < 600 → B 63 i = A 2 i ∧ -128 ≤ A 2 i ∧ A 2 i ≤ 127
theorem pt_fr (A : mmM) (v : Int) : ∀ k : Nat, (∀ o, o ≠ 1 → o ≠ 2 → ptM A v k o = A o) ∧ (∀ j, j ≠ 3 → ptM A v k 1 j = A 1 j) ∧ ptM A v k 1 3 = A 1 3 + k
  | 0 => ⟨fun _ _ _ => rfl, fun _ _ => rfl, by simp [ptM]⟩
  | k + 1 => by
    obtain ⟨h1, h2, h3⟩ := pt_fr A v k
    refine ⟨fun o a b => ?_, fun j a => ?_, ?_⟩
    · simp only [ptM]; rw [mm_up_o _ _ a, mm_up_o _ _ b, h1 o a b]
    · simp only [ptM]; rw [mm_up_i _ a, mm_up_o _ _ (by decide), h2 j a]
    · simp only [ptM]; rw [mm_up_s]; omega
theorem pm_fr (B : mmM) (v : Int) : ∀ k : Nat, (∀ o, o ≠ 62 → o ≠ 63 → pmM B v k o = B o) ∧ (∀ j, j ≠ 2 → pmM B v k 62 j = B 62 j) ∧ pmM B v k 62 2 = B 62 2 + k
  | 0 => ⟨fun _ _ _ => rfl, fun _ _ => rfl, by simp [pmM]⟩
  | k + 1 => by
    obtain ⟨h1, h2, h3⟩ := pm_fr B v k
    refine ⟨fun o a b => ?_, fun j a => ?_, ?_⟩
    · simp only [pmM]; rw [mm_up_o _ _ a, mm_up_o _ _ b, h1 o a b]
    · simp only [pmM]; rw [mm_up_i _ a, mm_up_o _ _ (by decide), h2 j a]
    · simp only [pmM]; rw [mm_up_s]; omega
theorem tp_step {A B : mmM} (v : Int) (h : tpR A B) : ∀ k : Nat, tpR (ptM A v k) (pmM B v k)
  | 0 => h
  | k + 1 => by
    have ih := tp_step v h k
    have hA := pt_fr A v (k + 1)
    have hB := pm_fr B v (k + 1)
    refine ⟨by rw [hB.2.2, hA.2.2, h.1], fun i i0 i1 => ?_⟩
    have ihi := ih.2 i i0 i1
    simp only [ptM, pmM]
    rw [mm_up_o _ _ (show (63 : Nat) ≠ 62 by decide), mm_up_o _ _ (show (2 : Nat) ≠ 1 by decide), mm_up_if, mm_up_if, h.1]
    have hb := i2b_b (mm_i2b (mm_shr v (24 - 8 * k)))
    by_cases c : i = A 1 3 + k
    · rw [if_pos c, if_pos c]
      exact ⟨rfl, hb⟩
    · rw [if_neg c, if_neg c]
      exact ihi
/-- the same but for the tape -/
theorem tie_tp {c : Int} {M M2 : mmM} (h : tieR c M) (f : ∀ o, (o = 0 ∨ o = 13 ∨ o = 14 ∨ o = 15 ∨ o = 16 ∨ (18 ≤ o ∧ o ≤ 22) ∨ o = 45 ∨ (47 ≤ o ∧ o ≤ 61)) → M2 o = M o) (g : ∀ o, o = 64 ∨ o = 65 ∨ o = 66 ∨ o = 67 ∨ o = 72 → M2 o = M o) (gj : ∀ j, (j = 3 ∨ j = 5 ∨ j = 8 ∨ j = 10 ∨ j = 11 ∨ j = 12 ∨ j = 29 ∨ j = 34 ∨ (39 ≤ j ∧ j ≤ 44)) → M2 62 j = M 62 j) (hs : M2 62 2 = M2 1 3) (h0 : 0 ≤ M2 1 3) (h6 : M2 1 3 ≤ 600) (htp : tpE M2 M2) : tieR (c + 1) M2 := by
  obtain ⟨⟨hr, hq, hse, hw, ha, -, -, hok⟩, ⟨⟨-, e3, e5, e8, e10, e11, e12, e29, e34⟩, ⟨a39, a40, a41, a42, a43, a44⟩, -, ec, eh, eq, eA⟩, c0⟩ := h
  have f0 := f 0 (by omega)
  have f13 := f 13 (by omega)
  have f14 := f 14 (by omega)
  have f15 := f 15 (by omega)
  have f16 := f 16 (by omega)
  have f18 := f 18 (by omega)
  have f19 := f 19 (by omega)
  have f20 := f 20 (by omega)
  have f21 := f 21 (by omega)
  have f22 := f 22 (by omega)
  have f45 := f 45 (by omega)
  have f47 := f 47 (by omega)
  have hA := aF_c (A := M) (B := M2) (fun o x y => f o (by omega))
  have hG := aG_c (A := M) (B := M2) (gj 29 (by omega)) (g 72 (by omega))
  refine ⟨⟨?_, ?_, ?_, wnB_s hw f45 (by rw [f13]) (by rw [f13]; omega), ?_, h0, h6, ?_⟩, ⟨⟨hs, ?_, ?_, ?_, ?_, ?_, ?_, ?_, ?_⟩, ⟨?_, ?_, ?_, ?_, ?_, ?_⟩, htp, ?_, ?_, ?_, ?_⟩, by omega⟩
  · unfold rwI; rw [f13, f14, f15, f16]; exact hr
  · unfold quI; rw [f13, f18, f19, f20, f21, f22]; exact hq
  · unfold seI; rw [f0]; exact hse
  · unfold acI; rw [f47]; exact ha
  · rw [f13, f47, f18, f22]
    exact okA_c _ _ 0 0 _ _ _ _ (Nat.le_refl _) (fun i _ => by rw [Nat.zero_add]; exact hA i) (fun _ _ _ => rfl) hok
  · rw [gj 3 (by omega), f13, e3]
  · rw [gj 5 (by omega), f13, e5]
  · rw [gj 8 (by omega), f18, e8]
  · rw [gj 10 (by omega), f0, e10]
  · rw [gj 11 (by omega), f0, e11]
  · rw [gj 12 (by omega), f0, e12]
  · rw [gj 29 (by omega), f47, e29]
  · rw [gj 34 (by omega), e34]
  · rw [gj 39 (by omega), f45, a39]
  · rw [gj 40 (by omega), f45, a40]
  · rw [gj 41 (by omega), f45, a41]
  · rw [gj 42 (by omega), f45, a42]
  · rw [gj 43 (by omega), f45, a43]
  · rw [gj 44 (by omega), f45, a44]
  · rw [f13, f14, g 64 (by omega)]; exact ec
  · rw [f13, f15, f16, g 65 (by omega), g 66 (by omega)]; exact eh
  · unfold mk mf ml mt
    rw [f18, f19, f20, f21, f22, g 67 (by omega)]; exact eq
  · rw [f47]
    intro j hj
    rw [hA, hG, eA j hj]
theorem tie_feed {c : Int} {M : mmM} (h : tieR c M) (v1 v2 v3 v4 v5 : Int) : tieZ t_P_feed t_M_feed [vr 0, vi v1, vi v2, vi v3, vi v4, vi v5] [vr 62, vi v1, vi v2, vi v3, vi v4, vi v5] c M := by
  have t0 := h.1.2.2.2.2.2.1
  have t1 := h.1.2.2.2.2.2.2.1
  have e2 := h.2.1.1.1
  refine ⟨rfl, t0, t1, fun hn => ⟨_, rfl, rfl, by omega, by omega, fun _ => ⟨rfl, tz_tie h⟩, fun w => by omega⟩, fun hy => ?_⟩
  generalize hM1 : ptM (ptM (ptM (ptM (ptM M v1 4) v2 4) v3 4) v4 4) v5 4 = M1
  have f1 : ∀ o, o ≠ 1 → o ≠ 2 → M1 o = M o := fun o a b => by
    rw [← hM1, (pt_fr _ v5 4).1 o a b, (pt_fr _ v4 4).1 o a b, (pt_fr _ v3 4).1 o a b, (pt_fr _ v2 4).1 o a b, (pt_fr _ v1 4).1 o a b]
  have f13 : M1 1 3 = M 1 3 + 20 := by
    rw [← hM1, (pt_fr _ v5 4).2.2, (pt_fr _ v4 4).2.2, (pt_fr _ v3 4).2.2, (pt_fr _ v2 4).2.2, (pt_fr _ v1 4).2.2]
    omega
  have f62 : M1 62 = M 62 := f1 62 (by decide) (by decide)
  refine ⟨_, rfl, rfl, by rw [f62]; omega, by rw [f62]; omega, fun w => by rw [f62] at w; omega, fun _ => ?_⟩
  rw [f62, e2]
  refine ⟨rfl, ?_⟩
  generalize hM2 : pmM (pmM (pmM (pmM (pmM (tz M1) v1 4) v2 4) v3 4) v4 4) v5 4 = M2
  have hR : tpR M1 M2 := by
    have r0 : tpR M (tz M1) := by
      refine ⟨by rw [tz_i M1 (by decide), f62, e2], fun i i0 i1 => ?_⟩
      rw [tz_o M1 (by decide), f1 63 (by decide) (by decide)]
      exact h.2.1.2.2.1 i i0 i1
    rw [← hM1, ← hM2]
    exact tp_step v5 (tp_step v4 (tp_step v3 (tp_step v2 (tp_step v1 r0 4) 4) 4) 4) 4
  have g0 : ∀ o, o ≠ 62 → o ≠ 63 → M2 o = M1 o := fun o a b => by
    rw [← hM2, (pm_fr _ v5 4).1 o a b, (pm_fr _ v4 4).1 o a b, (pm_fr _ v3 4).1 o a b, (pm_fr _ v2 4).1 o a b, (pm_fr _ v1 4).1 o a b, tz_o M1 a]
  have gj : ∀ j, j ≠ 0 → j ≠ 2 → M2 62 j = M 62 j := fun j a b => by
    rw [← hM2, (pm_fr _ v5 4).2.1 j b, (pm_fr _ v4 4).2.1 j b, (pm_fr _ v3 4).2.1 j b, (pm_fr _ v2 4).2.1 j b, (pm_fr _ v1 4).2.1 j b, tz_i M1 a, f62]
  have g1 := g0 1 (by decide) (by decide)
  have g2 := g0 2 (by decide) (by decide)
  refine tie_tp h (fun o a => by rw [g0 o (by omega) (by omega), f1 o (by omega) (by omega)]) (fun o a => by rw [g0 o (by omega) (by omega), f1 o (by omega) (by omega)]) (fun j a => gj j (by omega) (by omega)) (by rw [hR.1, g1]) (by rw [g1]; omega) (by rw [g1]; omega) (fun i i0 i1 => ?_)
  rw [g2]
  exact hR.2 i i0 i1
/-! what reading leaves alone -/
def rdK (A B : mmM) : Prop := ∀ o, (o = 0 ∨ o = 2 ∨ 12 < o) → B o = A o
theorem rdK_rf (A : mmM) : rdK A A := fun _ _ => rfl
theorem rdK_tr {A B C : mmM} (h1 : rdK A B) (h2 : rdK B C) : rdK A C := fun o x => by rw [h2 o x, h1 o x]
theorem rdK_nx (A : mmM) : rdK A (nxM A) := fun o x => nx_o _ (by omega)
theorem rdK_rf' (A : mmM) (k : Int) : rdK A (rfM A k) := fun o x => rf_o _ _ (by omega)
theorem rdK_cl (A : mmM) : rdK A (clA A) := fun o x => by unfold clA; rw [mm_up_o _ _ (by omega), mm_up_o _ _ (by omega)]
theorem rdK_ch (A : mmM) (i v : Int) : rdK A (chA A i v) := fun o x => by unfold chA; rw [mm_up_o _ _ (by omega), mm_up_o _ _ (by omega), mm_up_o _ _ (by omega)]
theorem rdK_qa (A : mmM) (k f l t : Int) : rdK A (qAdd A 8 k f l t) := fun o x => qA_o (by omega)
theorem clF_k (A : mmM) : rdK A (clF A).2 := by
  unfold clF
  split
  · split
    · exact rdK_tr (rdK_cl A) (rdK_nx _)
    · exact rdK_rf' A _
  · exact rdK_rf' A _
theorem rlF_k : ∀ (k : Nat) (x : Int × mmM), rdK x.2 (rlF k x).2
  | 0, x => rdK_rf _
  | k + 1, x => by
    simp only [rlF]
    split
    · exact rdK_tr (rdK_nx _) (rdK_tr (clF_k _) (rlF_k k _))
    · exact rdK_rf _
theorem rowF_k (A : mmM) : rdK A (rowF A).2 := by
  unfold rowF
  split
  · exact rdK_rf' A _
  · unfold rowE
    have h := rdK_tr (rdK_nx A) (rdK_tr (clF_k _) (rlF_k 60 (clF (nxM A))))
    split
    · exact rdK_tr h (rdK_rf' _ _)
    · exact h
theorem setF_k (A : mmM) : rdK A (setF A).2 := by
  unfold setF
  split
  · exact rdK_rf' A _
  · split
    · exact rdK_rf' A _
    · split
      · split
        · exact rdK_tr (rdK_nx _) (rdK_tr (rdK_nx _) (rdK_tr (rdK_ch _ _ _) (rdK_nx _)))
        · exact rdK_tr (rdK_nx _) (rdK_tr (rdK_nx _) (rdK_rf' _ _))
      · exact rdK_tr (rdK_nx _) (rdK_rf' _ _)
theorem askF_k (A : mmM) : rdK A (askF A).2 := by
  unfold askF
  split
  · exact rdK_rf' A _
  · split
    · exact rdK_rf' A _
    · split
      · exact rdK_tr (rdK_nx _) (rdK_rf' _ _)
      · split
        · split
          · have h4 := rdK_tr (rdK_nx A) (rdK_tr (rdK_nx _) (rdK_tr (rdK_nx _) (rdK_nx _)))
            refine rdK_tr h4 ?_
            unfold tmF
            split
            · split
              · exact rdK_tr (rdK_nx _) (rdK_tr (rdK_nx _) (rdK_qa _ _ _ _ _))
              · exact rdK_tr (rdK_nx _) (rdK_rf' _ _)
            · exact rdK_qa _ _ _ _ _
          · exact rdK_tr (rdK_nx _) (rdK_tr (rdK_nx _) (rdK_tr (rdK_nx _) (rdK_rf' _ _)))
        · exact rdK_tr (rdK_nx _) (rdK_tr (rdK_nx _) (rdK_rf' _ _))
theorem lineF_k (A : mmM) : rdK A (lineF A).2 := by
  unfold lineF
  split
  · exact rowF_k A
  · split
    · exact setF_k A
    · split
      · exact askF_k A
      · exact rdK_rf' A _
theorem rdF_k : ∀ (k : Nat) (L : Int) (A : mmM), rdK A (rdF k L A).2
  | 0, _, A => rdK_rf A
  | k + 1, L, A => by
    simp only [rdF]
    split
    · exact lineF_k A
    · split
      · exact lineF_k A
      · split
        · exact rdK_tr (lineF_k A) (rdK_tr (rdK_nx _) (rdF_k k _ _))
        · exact rdK_tr (lineF_k A) (rdK_rf' _ _)
theorem txF_k (M : mmM) (n : Int) : rdK M (txF M n).2 := by
  unfold txF
  refine rdK_tr ?_ (rdK_tr (rdK_nx _) (rdF_k 600 1 _))
  intro o x
  unfold rdZ
  rw [mm_up_o _ _ (by omega), mm_up_o _ _ (by omega), mm_up_o _ _ (by omega), mm_up_o _ _ (by omega), mm_up_o _ _ (by omega)]
theorem tie_text {c : Int} {M : mmM} (h : tieR c M) (n : Int) : tieZ t_P_text t_M_text [vr 0, vi n] [vr 62, vi n] c M := by
  have t0 := h.1.2.2.2.2.2.1
  have t1 := h.1.2.2.2.2.2.2.1
  have e2 := h.2.1.1.1
  have htp := h.2.1.2.2.1
  refine ⟨rfl, t0, t1, fun hn => ⟨_, rfl, rfl, by omega, by omega, fun _ => ⟨rfl, tz_tie h⟩, fun w => by omega⟩, fun hy => ?_⟩
  have hK := txF_k M n
  refine ⟨fun hneg => ?_, fun hpos M1 hX => ?_⟩
  · generalize hM1 : mm_up (txF M n).2 1 3 0 = M1
    have f1 : ∀ o, (o = 0 ∨ o = 2 ∨ 12 < o) → M1 o = M o := fun o x => by rw [← hM1, mm_up_o _ _ (by omega), hK o x]
    have f13 : M1 1 3 = 0 := by rw [← hM1, mm_up_s]
    have f62 : M1 62 = M 62 := f1 62 (by omega)
    have htp1 : tpE M M1 := fun i i0 i1 => by rw [f1 63 (by omega)]; exact htp i i0 i1
    refine ⟨_, rfl, rfl, by rw [f62]; omega, by rw [f62]; omega, fun w => by rw [f62] at w; omega, fun _ => ⟨M, htp1, fun _ M2 hA => ⟨rfl, ?_⟩, fun w => by omega⟩⟩
    obtain ⟨g0, gj, g2⟩ := hA
    refine tie_tp h (fun o a => by rw [g0 o (by omega) (by omega) (by omega) (by omega) (by omega), f1 o (by omega)]) (fun o a => by rw [g0 o (by omega) (by omega) (by omega) (by omega) (by omega), f1 o (by omega)]) (fun j a => by rw [gj j (by omega) (by omega) (by omega), f62]) (by rw [g2, g0 1 (by decide) (by decide) (by decide) (by decide) (by decide), f13]) (by rw [g0 1 (by decide) (by decide) (by decide) (by decide) (by decide), f13]; omega) (by rw [g0 1 (by decide) (by decide) (by decide) (by decide) (by decide), f13]; omega) (fun i i0 i1 => ?_)
    rw [g0 63 (by decide) (by decide) (by decide) (by decide) (by decide), g0 2 (by decide) (by decide) (by decide) (by decide) (by decide), f1 63 (by omega), f1 2 (by omega)]
    exact htp i i0 i1
  · obtain ⟨hV, h2, hS⟩ := txF_v (N := M) hy.1 (by omega) hpos
    obtain ⟨p0, p134, p135, pc, ph, p184, pq, p451, p452, p453, p454, p455, p456, p472, p473, p09, p010, p011⟩ := hX
    generalize hA : (txF M n).2 = A at *
    have up : ∀ o, o ≠ 1 → mm_up A 1 3 0 o = A o := fun o x => mm_up_o _ _ x
    have f1 : ∀ o, 61 < o → M1 o = M o := fun o x => by rw [p0 o (by omega), up o (by omega), hK o (by omega)]
    have f62 : M1 62 = M 62 := f1 62 (by omega)
    have f13 : M1 1 3 = 0 := by rw [p0 1 (by omega), mm_up_s]
    have f2 : M1 2 = M 2 := by rw [p0 2 (by omega), up 2 (by decide), hK 2 (by omega)]
    have htp1 : tpE M M1 := fun i i0 i1 => by rw [f1 63 (by omega)]; exact htp i i0 i1
    refine ⟨_, rfl, rfl, by rw [f62]; omega, by rw [f62]; omega, fun w => by rw [f62] at w; omega, fun _ => ⟨M, htp1, fun w => by omega, fun _ M2 hB => ⟨rfl, ?_⟩⟩⟩
    rw [hA] at hB
    obtain ⟨g0, g34, g2, g3, g5, g8, gc, gh, gq, g10, g11, g12, g39, g40, g41, g42, g43, g44, g29⟩ := hB
    rw [up 3 (by decide)] at p134 p135
    rw [up 4 (by decide)] at pc
    rw [up 5 (by decide), up 6 (by decide)] at ph
    rw [up 8 (by decide)] at p184 pq
    rw [up 9 (by decide), up 10 (by decide), up 11 (by decide), up 12 (by decide)] at pq
    have q : ∀ o, o < 62 → M2 o = M1 o := fun o x => g0 o (by omega)
    have hS2 := hS
    unfold rdS at hS2
    have ha := h.1.2.2.2.2.1
    unfold acI at ha
    have e473 : M1 47 3 = M 47 3 := by rw [p473, up 47 (by decide), hK 47 (by omega)]
    refine ⟨⟨?_, ?_, ?_, ?_, ?_, by rw [q 1 (by decide), f13]; omega, by rw [q 1 (by decide), f13]; omega, ?_⟩, ⟨⟨?_, ?_, ?_, ?_, ?_, ?_, ?_, ?_, ?_⟩, ⟨?_, ?_, ?_, ?_, ?_, ?_⟩, ?_, ?_, ?_, ?_, ?_⟩, by have := h.2.2; omega⟩
    · unfold rwI; rw [q 13 (by decide), q 14 (by decide), q 15 (by decide), q 16 (by decide), p134, p135]
      refine ⟨h2, by omega, fun i i0 i1 => by rw [pc i i0 (by omega)]; exact hV.1 i i0 i1, by omega, by omega, fun k k0 k1 => ?_⟩
      have := ph k k0 (by omega)
      rw [this.1, this.2]
      exact hV.2.1 k k0 k1
    · unfold quI; rw [q 13 (by decide), q 18 (by decide), q 19 (by decide), q 20 (by decide), q 21 (by decide), q 22 (by decide), p134, p135, p184]
      refine ⟨by omega, by omega, fun z z0 z1 => ?_⟩
      have := pq z z0 z1
      rw [this.1, this.2.1, this.2.2.1, this.2.2.2]
      exact hV.2.2.1 z z0 z1
    · unfold seI; rw [q 0 (by decide), p09, p010, p011]; omega
    · unfold wnB; rw [q 45 (by decide), q 13 (by decide), p451, p452, p453, p454, p455, p456, p134, p135]
      have := h.2.2
      omega
    · unfold acI; rw [q 47 (by decide), p472, e473]; omega
    · rw [q 47 (by decide), p472]
      exact trivial
    · rw [g2, q 1 (by decide), f13]
    · rw [g3, q 13 (by decide), p134]
    · rw [g5, q 13 (by decide), p135]
    · rw [g8, q 18 (by decide), p184]
    · rw [g10, q 0 (by decide), p09]
    · rw [g11, q 0 (by decide), p010]
    · rw [g12, q 0 (by decide), p011]
    · rw [g29, q 47 (by decide), p472]
    · rw [g34, f62]; exact h.2.1.1.2.2.2.2.2.2.2.2
    · rw [g39, q 45 (by decide), p451]
    · rw [g40, q 45 (by decide), p452]
    · rw [g41, q 45 (by decide), p453]
    · rw [g42, q 45 (by decide), p456]
    · rw [g43, q 45 (by decide), p454]
    · rw [g44, q 45 (by decide), p455]
    · intro i i0 i1
      rw [g0 63 (by omega), f1 63 (by omega), q 2 (by decide), f2]
      exact htp i i0 i1
    · rw [q 13 (by decide), p134, q 14 (by decide)]
      intro i i0 i1
      rw [gc i i0 i1, pc i i0 (by omega)]
    · rw [q 13 (by decide), p135, q 15 (by decide), q 16 (by decide)]
      intro k k0 k1
      have x1 := gh k k0 k1
      have x2 := ph k k0 (by omega)
      rw [x1.1, x1.2, x2.1, x2.2]
      exact ⟨rfl, rfl⟩
    · rw [q 18 (by decide), p184, q 19 (by decide), q 20 (by decide), q 21 (by decide), q 22 (by decide)]
      intro z z0 z1
      have x1 := gq z z0 z1
      have x2 := pq z z0 z1
      unfold mk mf ml mt
      rw [x1.1, x1.2.1, x1.2.2.1, x1.2.2.2, x2.1, x2.2.1, x2.2.2.1, x2.2.2.2]
      exact ⟨rfl, rfl, rfl, rfl⟩
    · rw [q 47 (by decide), p472]
      intro j hj
      omega
