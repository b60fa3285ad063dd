/-! ties: home, walk, back -/
/-- a plan has no more places than there are questions -/
theorem cnt_le {P : Int → Int} : ∀ (n : Nat) (m : Nat), (∀ i : Nat, i < n → 0 ≤ P i ∧ P i < m) → (∀ i j : Nat, i < j → j < n → P i ≠ P j) → n ≤ m
  | 0, _, _, _ => Nat.zero_le _
  | n + 1, m, h, hd => by
    match m with
    | 0 => have := h 0 (by omega); omega
    | m + 1 =>
      -- put the last value's place aside
      have hn := h n (by omega)
      let Q : Int → Int := fun i => if P i < P n then P i else P i - 1
      have hQ : ∀ i : Nat, i < n → 0 ≤ Q i ∧ Q i < m := by
        intro i hi
        have h1 := h i (by omega)
        have h2 := hd i n hi (by omega)
        show 0 ≤ (if P i < P n then P i else P i - 1) ∧ (if P i < P n then P i else P i - 1) < m
        split <;> omega
      have hQd : ∀ i j : Nat, i < j → j < n → Q i ≠ Q j := by
        intro i j hij hj
        have h1 := hd i j hij (by omega)
        have h2 := hd i n (by omega) (by omega)
        have h3 := hd j n hj (by omega)
        show (if P i < P n then P i else P i - 1) ≠ (if P j < P n then P j else P j - 1)
        split <;> split <;> omega
      have := cnt_le n m hQ hQd
      omega
theorem isOrd_size {M : mmM} {wo ord b n : Int} {P : Int → Int} (hP : isOrd (sPl M 18 wo) (kyf M 18 ord b) P n) (h0 : 0 ≤ M 18 4) (h : M 18 4 ≤ 24) : n ≤ 24 := by
  have := cnt_le (P := P) n.toNat (M 18 4).toNat (fun i hi => by
    have := hP.2.1 i (by omega) (by omega)
    exact ⟨this.1, by have := this.2.1; omega⟩) (fun i j hij hj e => by
    have := hP.2.2.1 i j (by omega) (by omega) (by omega)
    rw [e] at this
    omega)
  omega
theorem tie_win {c : Int} {M M2 : mmM} (h : tieR c M) (f : ∀ o, o < 62 → o ≠ 17 → (o < 24 ∨ 44 < o) → o ≠ 45 → o ≠ 46 → M2 o = M o) (g : ∀ o, o = 63 ∨ o = 64 ∨ o = 65 ∨ o = 66 ∨ o = 67 ∨ o = 72 → M2 o = M o) (gj : ∀ j, (j = 2 ∨ j = 3 ∨ j = 5 ∨ j = 8 ∨ j = 10 ∨ j = 11 ∨ j = 12 ∨ j = 29 ∨ j = 34) → M2 62 j = M 62 j) (hw : wnB (c + 1) M2) (hW : M2 62 39 = M2 45 1 ∧ M2 62 40 = M2 45 2 ∧ M2 62 41 = M2 45 3 ∧ M2 62 42 = M2 45 6 ∧ M2 62 43 = M2 45 4 ∧ M2 62 44 = M2 45 5) : tieR (c + 1) M2 := by
  obtain ⟨⟨hr, hq, hs, -, ha, t0, t1, hok⟩, ⟨⟨e2, e3, e5, e8, e10, e11, e12, e29, e34⟩, -, htp, ec, eh, eq, eA⟩, c0⟩ := h
  have ff : ∀ o, o < 24 ∨ 46 < o ∧ o < 62 → o ≠ 17 → M2 o = M o := fun o x y => f o (by omega) y (by omega) (by omega) (by omega)
  have f0 := ff 0 (by omega) (by decide)
  have f1 := ff 1 (by omega) (by decide)
  have f2 := ff 2 (by omega) (by decide)
  have f13 := ff 13 (by omega) (by decide)
  have f14 := ff 14 (by omega) (by decide)
  have f15 := ff 15 (by omega) (by decide)
  have f16 := ff 16 (by omega) (by decide)
  have f18 := ff 18 (by omega) (by decide)
  have f19 := ff 19 (by omega) (by decide)
  have f20 := ff 20 (by omega) (by decide)
  have f21 := ff 21 (by omega) (by decide)
  have f22 := ff 22 (by omega) (by decide)
  have f47 := ff 47 (by omega) (by decide)
  have hA := aF_c (A := M) (B := M2) (fun o x y => ff o (by omega) (by omega))
  have hG := aG_c (A := M) (B := M2) (gj 29 (by omega)) (g 72 (by omega))
  refine ⟨⟨?_, ?_, ?_, hw, ?_, by rw [f1]; exact t0, by rw [f1]; exact t1, ?_⟩, ⟨⟨?_, ?_, ?_, ?_, ?_, ?_, ?_, ?_, ?_⟩, hW, ?_, ?_, ?_, ?_, ?_⟩, by omega⟩
  · unfold rwI; rw [f13, f14, f15, f16]; exact hr
  · unfold quI; rw [f13, f18, f19, f20, f21, f22]; exact hq
  · unfold seI; rw [f0]; exact hs
  · unfold acI; rw [f47]; exact ha
  · rw [f13, f47, f18, f22]
    exact okA_c _ _ 0 0 _ _ _ _ (Nat.le_refl _) (fun i _ => by rw [Nat.zero_add]; exact hA i) (fun _ _ _ => rfl) hok
  · rw [gj 2 (by omega), f1, e2]
  · rw [gj 3 (by omega), f13, e3]
  · rw [gj 5 (by omega), f13, e5]
  · rw [gj 8 (by omega), f18, e8]
  · rw [gj 10 (by omega), f0, e10]
  · rw [gj 11 (by omega), f0, e11]
  · rw [gj 12 (by omega), f0, e12]
  · rw [gj 29 (by omega), f47, e29]
  · rw [gj 34 (by omega), e34]
  · intro i i0 i1
    rw [g 63 (by omega), f2]
    exact htp i i0 i1
  · rw [f13, f14, g 64 (by omega)]; exact ec
  · rw [f13, f15, f16, g 65 (by omega), g 66 (by omega)]; exact eh
  · unfold mk mf ml mt
    rw [f18, f19, f20, f21, f22, g 67 (by omega)]; exact eq
  · rw [f47]
    intro j hj
    rw [hA, hG, eA j hj]
theorem tie_home {c : Int} {M : mmM} (h : tieR c M) (hc : c ≤ 2000) : tieZ t_P_home t_M_home [vr 0] [vr 62] c M := by
  have hw := tie_w h hc
  have hr := h.1.1
  have hwb := h.1.2.2.2.1
  have hr2 := hr.2.1
  have hr5 := hr.2.2.2.2.1
  obtain ⟨a39, a40, a41, a42, a43, a44⟩ := h.2.1.2.1
  have hw2 := hw
  unfold wnI at hw2
  unfold wnB at hwb
  refine ⟨rfl, hw, hr2, hr5, fun M1 f1 w1 w2 w3 w4 w5 w6 => ?_⟩
  have f62 : M1 62 = M 62 := f1 62 (by decide)
  refine ⟨_, rfl, rfl, by rw [f62]; omega, fun M2 g1 g2 v1 v2 v3 v4 v5 v6 => ⟨vi_c ?_, ?_⟩⟩
  · rw [f62]; omega
  · rw [f62] at v5 v6
    have e45 : M2 45 = M1 45 := g1 45 (by decide)
    have e13 : M2 13 = M 13 := by rw [g1 13 (by decide), f1 13 (by decide)]
    refine tie_win h (fun o a b d e k => by rw [g1 o (by omega), f1 o e]) (fun o a => by rw [g1 o (by omega), f1 o (by omega)]) (fun j a => by rw [g2 j (by omega) (by omega) (by omega) (by omega) (by omega) (by omega) (by omega), f62]) ?_ ?_
    · unfold wnB
      rw [e45, e13, w1, w2, w3, w4, w5, w6]
      omega
    · rw [e45, v1, v2, v3, v4, v5, v6, w1, w2, w3, w4, w5, w6]
      omega
theorem tie_walk {c : Int} {M : mmM} (h : tieR c M) (hc : c ≤ 2000) (n : Int) : tieZ t_P_walk t_M_walk [vr 0, vi n] [vr 62, vi n] c M := by
  have hw := tie_w h hc
  have hmw := tie_mW h hc
  have hs := tie_se h
  have hr := h.1.1
  have hq := h.1.2.1
  have hwb := h.1.2.2.2.1
  have hr2 := hr.2.1
  have hr5 := hr.2.2.2.2.1
  obtain ⟨e2, e3, e5, e8, e10, e11, e12, e29, e34⟩ := h.2.1.1
  obtain ⟨a39, a40, a41, a42, a43, a44⟩ := h.2.1.2.1
  refine ⟨rfl, hr, hq, h.1.2.2.1, hw, fun hn => ⟨_, rfl, rfl, tie_mB h, hmw, by omega, by omega, hs.2.2.1, hs.2.2.2.1, hs.2.2.2.2.1, hs.2.2.2.2.2, fun _ => ⟨rfl, tz_tie h⟩, fun w => absurd w hn⟩, fun hy M1 P sz k l r t rem e u f1 hP hk w1 w2 w3 w4 w5 w6 => ?_⟩
  have f62 : M1 62 = M 62 := f1 62 (by omega)
  have fo : ∀ o, 61 < o → M1 o = M o := fun o x => f1 o (by omega)
  have hEN := qE_fr (tie_qE h) (N := M1) fo
  have e67 := fo 67 (by omega)
  have mB : mqB M1 := by
    have := tie_mB h
    unfold mqB mf ml mt at *
    rw [f62, e67]; exact this
  have mW1 : mW M1 := by unfold mW; rw [f62]; exact hmw
  have hwb2 := hwb
  unfold wnB at hwb2
  have n0 := hP.1
  have hPq : ∀ i, 0 ≤ i → i < sz → 0 ≤ M 20 (P i) ∧ M 20 (P i) ≤ M 21 (P i) ∧ M 21 (P i) < M 13 4 ∧ 0 ≤ M 22 (P i) ∧ M 22 (P i) ≤ M 13 5 := by
    intro i i0 i1
    have hs := hP.2.1 i i0 i1
    have := hq.2.2 (P i) hs.1 hs.2.1
    exact ⟨this.2.2.1, this.2.2.2.1, this.2.2.2.2.1, this.2.2.2.2.2.1, this.2.2.2.2.2.2⟩
  have hok := wlk_ok (F := fun i => M 20 (P i)) (L := fun i => M 21 (P i)) (T := fun i => M 22 (P i)) (nc := M 13 4) (ch := M 13 5) (sz - min (M 45 6) sz).toNat n.toNat (min (M 45 6) sz) (M 45 1) (M 45 2) (M 45 3) (M 45 4) (M 45 5) (fun i a b => hPq i (by omega) (by omega)) ⟨hwb2.1, hwb2.2.1, hwb2.2.2.1, hwb2.2.2.2.1, hwb2.2.2.2.2.1⟩
  rw [show ((n.toNat : Nat) : Int) = n by omega, ← hk] at hok
  obtain ⟨k', l', r', t', m', e', u', g0, g1, g2, g3, g4, g5, g6, g7, g8, g9⟩ := hok
  injection g0 with z1 g0
  injection g0 with z2 g0
  injection g0 with z3 g0
  injection g0 with z4 g0
  injection g0 with z5 g0
  injection g0 with z6 z7
  subst z1 z2 z3 z4 z5 z6 z7
  have hszq : sz ≤ 24 := by
    have h24 := hq.2.1
    have hcnt := isOrd_size hP hq.1 h24
    exact hcnt
  refine ⟨_, rfl, rfl, mB, mW1, by rw [f62]; omega, by rw [f62]; omega, by rw [f62]; exact hs.2.2.1, by rw [f62]; exact hs.2.2.2.1, by rw [f62]; exact hs.2.2.2.2.1, by rw [f62]; exact hs.2.2.2.2.2, fun w => absurd hy w, fun _ M2 P' sz' k' l' r' t' rem' e' u' y1 y2 hP' hk' v1 v2 v3 v4 v5 v6 => ?_⟩
  rw [f62, e34, e11, e12] at hP'
  obtain ⟨p1, p2⟩ := ord_pl hEN hP hP'
  have hsam := qE_sam hEN hP p2
  have hwl : wlkF (fun i => mf M1 (P' i)) (fun i => ml M1 (P' i)) (fun i => mt M1 (P' i)) (sz' - min (M1 62 42) sz').toNat (min (M1 62 42) sz') (M1 62 39) (M1 62 40) (M1 62 41) n (M1 62 43) (M1 62 44) = wlkF (fun i => M 20 (P i)) (fun i => M 21 (P i)) (fun i => M 22 (P i)) (sz - min (M 45 6) sz).toNat (min (M 45 6) sz) (M 45 1) (M 45 2) (M 45 3) n (M 45 4) (M 45 5) := by
    rw [f62, a39, a40, a41, a42, a43, a44, ← p1]
    refine (wlk_c _ _ _ _ _ _ _ _ (fun i a b => ?_)).symm
    have := hsam i (by omega) (by omega)
    exact ⟨this.2.1, this.2.2.1, this.2.2.2⟩
  rw [hwl, ← hk] at hk'
  injection hk' with z1 hk'
  injection hk' with z2 hk'
  injection hk' with z3 hk'
  injection hk' with z4 hk'
  injection hk' with z5 hk'
  injection hk' with z6 z7
  subst z1 z2 z3 z4 z5 z6 z7
  refine ⟨rfl, ?_⟩
  have e45 : M2 45 = M1 45 := y1 45 (by decide) (by decide)
  have e13 : M2 13 = M 13 := by rw [y1 13 (by decide) (by decide), f1 13 (by omega)]
  refine tie_win h (fun o a b d x y => by rw [y1 o (by omega) (by omega), f1 o (by omega)]) (fun o a => by rw [y1 o (by omega) (by omega), fo o (by omega)]) (fun j a => by rw [y2 j (by omega) (by omega) (by omega), f62]) ?_ ?_
  · unfold wnB
    unfold wOk at g3
    rw [e45, e13, w1, w2, w3, w4, w5, w6]
    omega
  · rw [e45, v1, v2, v3, v4, v5, v6, w1, w2, w3, w4, w5, w6]
    exact ⟨rfl, rfl, rfl, rfl, rfl, rfl⟩
