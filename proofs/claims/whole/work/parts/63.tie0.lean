/-! planner and reference hold the same: one relation of their cells -/
/-- the act that would be taken back j acts from the last -/
def aF (M : mmM) (j : Nat) : Int × Int × Int × Int × Int := (M 48 ((M 47 3 + 11 - j) % 12), M (50 + ((M 47 3 + 11 - j) % 12).toNat) 0, M (50 + ((M 47 3 + 11 - j) % 12).toNat) 1, M (50 + ((M 47 3 + 11 - j) % 12).toNat) 2, M (50 + ((M 47 3 + 11 - j) % 12).toNat) 3)
/-- the same act at the reference -/
def aG (M : mmM) (j : Nat) : Int × Int × Int × Int × Int := (M 72 (5 * (M 62 29 - 1 - j)), M 72 (5 * (M 62 29 - 1 - j) + 1), M 72 (5 * (M 62 29 - 1 - j) + 2), M 72 (5 * (M 62 29 - 1 - j) + 3), M 72 (5 * (M 62 29 - 1 - j) + 4))
/-- n acts from the j-th on can be taken back, one behind another -/
def okA (a : Nat → Int × Int × Int × Int × Int) (nc : Int) : Nat → Nat → Int → Int → (Int → Int) → Prop
  | 0, _, _, _, _ => True
  | n + 1, j, ch, q, t => (0 ≤ (a j).1 ∧ (a j).1 ≤ 5) ∧ ((a j).1 = 0 → 0 < ch ∧ (∀ i, 0 ≤ i → i < q → t i ≤ ch - 1) ∧ okA a nc n (j + 1) (ch - 1) q t) ∧ ((a j).1 = 1 → 0 < q ∧ okA a nc n (j + 1) ch (q - 1) t) ∧ ((a j).1 = 2 → q ≤ 23 ∧ (0 ≤ (a j).2.1 ∧ (a j).2.1 ≤ 7) ∧ (0 ≤ (a j).2.2.1 ∧ (a j).2.2.1 ≤ (a j).2.2.2.1 ∧ (a j).2.2.2.1 < nc) ∧ (0 ≤ (a j).2.2.2.2 ∧ (a j).2.2.2.2 ≤ ch) ∧ okA a nc n (j + 1) ch (q + 1) (fun i => if i = q then (a j).2.2.2.2 else t i)) ∧ ((a j).1 = 3 → (0 ≤ (a j).2.1 ∧ (a j).2.1 ≤ 9) ∧ okA a nc n (j + 1) ch q t) ∧ ((a j).1 = 4 → (0 ≤ (a j).2.1 ∧ (a j).2.1 ≤ 2 ∧ 1 ≤ (a j).2.2.1 ∧ (a j).2.2.1 ≤ 60) ∧ okA a nc n (j + 1) ch q t) ∧ ((a j).1 = 5 → (0 ≤ (a j).2.1 ∧ (a j).2.1 < nc ∧ 0 ≤ (a j).2.2.1 ∧ (a j).2.2.1 < 64) ∧ okA a nc n (j + 1) ch q t)
theorem okA_c {a a' : Nat → Int × Int × Int × Int × Int} {nc : Int} : ∀ (n m j j' : Nat) (ch q : Int) (t t' : Int → Int), m ≤ n → (∀ i, i < m → a' (j' + i) = a (j + i)) → (∀ i, 0 ≤ i → i < q → t' i = t i) → okA a nc n j ch q t → okA a' nc m j' ch q t'
  | _, 0, _, _, _, _, _, _, _, _, _, _ => trivial
  | 0, m + 1, _, _, _, _, _, _, hm, _, _, _ => by omega
  | n + 1, m + 1, j, j', ch, q, t, t', hm, ha, ht, h => by
    have e : a' j' = a j := ha 0 (by omega)
    have ha' : ∀ i, i < m → a' (j' + 1 + i) = a (j + 1 + i) := fun i hi => by
      have := ha (i + 1) (by omega)
      rw [show j' + 1 + i = j' + (i + 1) by omega, show j + 1 + i = j + (i + 1) by omega]
      exact this
    obtain ⟨hk, h0, h1, h2, h3, h4, h5⟩ := h
    simp only [okA]
    rw [e]
    refine ⟨hk, fun c => ?_, fun c => ?_, fun c => ?_, fun c => ?_, fun c => ?_, fun c => ?_⟩
    · obtain ⟨x1, x2, x3⟩ := h0 c
      exact ⟨x1, fun i i0 i1 => by rw [ht i i0 i1]; exact x2 i i0 i1, okA_c n m (j + 1) (j' + 1) (ch - 1) q t t' (by omega) ha' ht x3⟩
    · obtain ⟨x1, x2⟩ := h1 c
      exact ⟨x1, okA_c n m (j + 1) (j' + 1) ch (q - 1) t t' (by omega) ha' (fun i i0 i1 => ht i i0 (by omega)) x2⟩
    · obtain ⟨x1, x2, x3, x4, x5⟩ := h2 c
      refine ⟨x1, x2, x3, x4, okA_c n m (j + 1) (j' + 1) ch (q + 1) _ _ (by omega) ha' (fun i i0 i1 => ?_) x5⟩
      by_cases c : i = q
      · simp only [if_pos c]
      · simp only [if_neg c]; exact ht i i0 (by omega)
    · obtain ⟨x1, x2⟩ := h3 c
      exact ⟨x1, okA_c n m (j + 1) (j' + 1) ch q t t' (by omega) ha' ht x2⟩
    · obtain ⟨x1, x2⟩ := h4 c
      exact ⟨x1, okA_c n m (j + 1) (j' + 1) ch q t t' (by omega) ha' ht x2⟩
    · obtain ⟨x1, x2⟩ := h5 c
      exact ⟨x1, okA_c n m (j + 1) (j' + 1) ch q t t' (by omega) ha' ht x2⟩
def wnB (c : Int) (M : mmM) : Prop := 0 ≤ M 45 1 ∧ M 45 1 ≤ M 45 2 + 1 ∧ M 45 2 < M 13 4 ∧ 0 ≤ M 45 3 ∧ M 45 3 ≤ M 13 5 ∧ 0 ≤ M 45 4 ∧ M 45 4 ≤ 1000 * c ∧ 0 ≤ M 45 5 ∧ M 45 5 ≤ 1000 * c ∧ 0 ≤ M 45 6 ∧ M 45 6 ≤ 24
/-- the planner is in order -/
def tieI (c : Int) (M : mmM) : Prop := rwI M ∧ quI M 24 ∧ seI M ∧ wnB c M ∧ acI M ∧ 0 ≤ M 1 3 ∧ M 1 3 ≤ 600 ∧ okA (aF M) (M 13 4) (M 47 2).toNat 0 (M 13 5) (M 18 4) (M 22)
/-- the reference holds the same -/
def tieE (M : mmM) : Prop := (M 62 2 = M 1 3 ∧ M 62 3 = M 13 4 ∧ M 62 5 = M 13 5 ∧ M 62 8 = M 18 4 ∧ M 62 10 = M 0 9 ∧ M 62 11 = M 0 10 ∧ M 62 12 = M 0 11 ∧ M 62 29 = M 47 2 ∧ M 62 34 = -1) ∧ (M 62 39 = M 45 1 ∧ M 62 40 = M 45 2 ∧ M 62 41 = M 45 3 ∧ M 62 42 = M 45 6 ∧ M 62 43 = M 45 4 ∧ M 62 44 = M 45 5) ∧ tpE M M ∧ (∀ i, 0 ≤ i → i < M 13 4 → M 64 i = M 14 i) ∧ (∀ k, 0 ≤ k → k < M 13 5 → M 65 k = M 15 k ∧ M 66 k = M 16 k) ∧ (∀ q, 0 ≤ q → q < M 18 4 → mk M q = M 19 q ∧ mf M q = M 20 q ∧ ml M q = M 21 q ∧ mt M q = M 22 q) ∧ ∀ j : Nat, (j : Int) < M 47 2 → aF M j = aG M j
def tieR (c : Int) (M : mmM) : Prop := tieI c M ∧ tieE M ∧ 0 ≤ c
theorem tie_w {c : Int} {M : mmM} (h : tieR c M) (hc : c ≤ 2000) : wnI M := by
  obtain ⟨⟨-, -, -, hw, -⟩, -, -⟩ := h
  unfold wnB at hw
  unfold wnI
  omega
theorem tie_q25 {c : Int} {M : mmM} (h : tieR c M) : quI M 25 := ⟨h.1.2.1.1, by have := h.1.2.1.2.1; omega, h.1.2.1.2.2⟩
theorem tie_qB {c : Int} {M : mmM} (h : tieR c M) : qB M 18 := quB h.1.1 (tie_q25 h)
theorem tie_mR {c : Int} {M : mmM} (h : tieR c M) : mR M := by
  obtain ⟨⟨hr, -⟩, ⟨⟨-, e3, e5, -⟩, -, -, ec, eh, -⟩, -⟩ := h
  obtain ⟨r1, r2, r3, r4, r5, r6⟩ := hr
  unfold mR
  rw [e3, e5]
  refine ⟨r1, r2, fun i i0 i1 => by rw [ec i i0 i1]; exact r3 i i0 i1, r4, r5, fun k k0 k1 => ?_⟩
  rw [(eh k k0 k1).1, (eh k k0 k1).2]
  exact r6 k k0 k1
theorem tie_mQ {c : Int} {M : mmM} (h : tieR c M) : mQ M 24 := by
  obtain ⟨⟨-, hq, -⟩, ⟨⟨-, e3, e5, e8, -⟩, -, -, -, -, eq, -⟩, -⟩ := h
  obtain ⟨q1, q2, q3⟩ := hq
  unfold mQ
  rw [e3, e5, e8]
  refine ⟨q1, q2, fun q q0 q9 => ?_⟩
  have h1 := eq q q0 q9
  have h2 := q3 q q0 q9
  unfold mk mf ml mt at h1
  rw [h1.1, h1.2.1, h1.2.2.1, h1.2.2.2]
  exact h2
theorem tie_mB {c : Int} {M : mmM} (h : tieR c M) : mqB M := by
  have hB := tie_qB h
  obtain ⟨-, ⟨⟨-, e3, e5, e8, -⟩, -, -, -, -, eq, -⟩, -⟩ := h
  unfold mqB
  rw [e8]
  refine ⟨hB.1, hB.2.1, fun q q0 q1 => ?_⟩
  have h1 := eq q q0 q1
  rw [h1.2.1, h1.2.2.1, h1.2.2.2]
  exact hB.2.2 q q0 q1
theorem tie_mW {c : Int} {M : mmM} (h : tieR c M) (hc : c ≤ 2000) : mW M := by
  obtain ⟨⟨-, -, -, hw, -⟩, ⟨⟨-, e3, e5, -⟩, ⟨a1, a2, a3, a4, a5, a6⟩, -⟩, -⟩ := h
  unfold wnB at hw
  unfold mW
  omega
/-- what is seen of the planner is as it was -/
def obP (M M' : mmM) : Prop := (M' 0 9 = M 0 9 ∧ M' 0 10 = M 0 10 ∧ M' 0 11 = M 0 11 ∧ M' 1 3 = M 1 3 ∧ M' 2 = M 2 ∧ M' 13 4 = M 13 4 ∧ M' 13 5 = M 13 5 ∧ M' 14 = M 14 ∧ M' 15 = M 15 ∧ M' 16 = M 16 ∧ M' 18 4 = M 18 4) ∧ (∀ q, q ≠ M 18 4 → M' 19 q = M 19 q ∧ M' 20 q = M 20 q ∧ M' 21 q = M 21 q ∧ M' 22 q = M 22 q) ∧ (M' 45 1 = M 45 1 ∧ M' 45 2 = M 45 2 ∧ M' 45 3 = M 45 3 ∧ M' 45 4 = M 45 4 ∧ M' 45 5 = M 45 5 ∧ M' 45 6 = M 45 6) ∧ M' 47 2 = M 47 2 ∧ M' 47 3 = M 47 3 ∧ M' 48 = M 48 ∧ ∀ o, 50 ≤ o → o ≤ 61 → M' o = M o
/-- what is seen of the reference is as it was -/
def obM (M M' : mmM) : Prop := (M' 62 2 = M 62 2 ∧ M' 62 3 = M 62 3 ∧ M' 62 5 = M 62 5 ∧ M' 62 8 = M 62 8 ∧ M' 62 10 = M 62 10 ∧ M' 62 11 = M 62 11 ∧ M' 62 12 = M 62 12 ∧ M' 62 29 = M 62 29 ∧ M' 62 34 = M 62 34) ∧ (M' 62 39 = M 62 39 ∧ M' 62 40 = M 62 40 ∧ M' 62 41 = M 62 41 ∧ M' 62 42 = M 62 42 ∧ M' 62 43 = M 62 43 ∧ M' 62 44 = M 62 44) ∧ M' 63 = M 63 ∧ M' 64 = M 64 ∧ M' 65 = M 65 ∧ M' 66 = M 66 ∧ (∀ q, q ≠ M 62 8 → mk M' q = mk M q ∧ mf M' q = mf M q ∧ ml M' q = ml M q ∧ mt M' q = mt M q) ∧ M' 72 = M 72
theorem obP_rf (M : mmM) : obP M M := ⟨⟨rfl, rfl, rfl, rfl, rfl, rfl, rfl, rfl, rfl, rfl, rfl⟩, fun _ _ => ⟨rfl, rfl, rfl, rfl⟩, ⟨rfl, rfl, rfl, rfl, rfl, rfl⟩, rfl, rfl, rfl, fun _ _ _ => rfl⟩
theorem obM_rf (M : mmM) : obM M M := ⟨⟨rfl, rfl, rfl, rfl, rfl, rfl, rfl, rfl, rfl⟩, ⟨rfl, rfl, rfl, rfl, rfl, rfl⟩, rfl, rfl, rfl, rfl, fun _ _ => ⟨rfl, rfl, rfl, rfl⟩, rfl⟩
theorem obP_fr {M M' : mmM} (h : ∀ o', o' < 62 → o' ≠ 17 → (o' < 24 ∨ 44 < o') → o' ≠ 46 → M' o' = M o') : obP M M' := by
  refine ⟨⟨?_, ?_, ?_, ?_, ?_, ?_, ?_, ?_, ?_, ?_, ?_⟩, fun q _ => ⟨?_, ?_, ?_, ?_⟩, ⟨?_, ?_, ?_, ?_, ?_, ?_⟩, ?_, ?_, ?_, fun o a b => h o (by omega) (by omega) (by omega) (by omega)⟩
  all_goals rw [h _ (by omega) (by omega) (by omega) (by omega)]
theorem obM_fr {M M' : mmM} (h : ∀ o', 61 < o' → M' o' = M o') : obM M M' := by
  have e67 := h 67 (by decide)
  refine ⟨⟨?_, ?_, ?_, ?_, ?_, ?_, ?_, ?_, ?_⟩, ⟨?_, ?_, ?_, ?_, ?_, ?_⟩, h 63 (by decide), h 64 (by decide), h 65 (by decide), h 66 (by decide), fun q _ => ?_, h 72 (by decide)⟩
  all_goals first | rw [h 62 (by decide)] | (unfold mk mf ml mt; rw [e67]; exact ⟨rfl, rfl, rfl, rfl⟩)
theorem obP_lt {M M' : mmM} (h : ∀ o', o' < 62 → M' o' = M o') : obP M M' := obP_fr (fun o a _ _ _ => h o a)
theorem obM_of {M M' : mmM} (h : ∀ o', o' = 63 ∨ o' = 64 ∨ o' = 65 ∨ o' = 66 ∨ o' = 67 ∨ o' = 72 → M' o' = M o') (hj : ∀ j, (j = 2 ∨ j = 3 ∨ j = 5 ∨ j = 8 ∨ j = 10 ∨ j = 11 ∨ j = 12 ∨ j = 29 ∨ j = 34 ∨ (39 ≤ j ∧ j ≤ 44)) → M' 62 j = M 62 j) : obM M M' := by
  have e67 := h 67 (by omega)
  refine ⟨⟨hj 2 (by omega), hj 3 (by omega), hj 5 (by omega), hj 8 (by omega), hj 10 (by omega), hj 11 (by omega), hj 12 (by omega), hj 29 (by omega), hj 34 (by omega)⟩, ⟨hj 39 (by omega), hj 40 (by omega), hj 41 (by omega), hj 42 (by omega), hj 43 (by omega), hj 44 (by omega)⟩, h 63 (by omega), h 64 (by omega), h 65 (by omega), h 66 (by omega), fun q _ => ?_, h 72 (by omega)⟩
  unfold mk mf ml mt
  rw [e67]
  exact ⟨rfl, rfl, rfl, rfl⟩
theorem obM_G {M M' : mmM} (h : plG M M') : obM M M' := obM_of (fun o' c => h.1 o' (by omega) (by omega)) (fun j c => h.2 j (by omega) (by omega) (by omega) (by omega) (by omega))
theorem obP_G {M M' : mmM} (h : plG M M') : obP M M' := obP_lt (fun o' c => h.1 o' (by omega) (by omega))
theorem obM_tz (M : mmM) : obM M (tz M) := obM_G (plG_tz M)
theorem obP_tz (M : mmM) : obP M (tz M) := obP_G (plG_tz M)
theorem tie_ob {c c' : Int} {M M' : mmM} (h : tieR c M) (hp : obP M M') (hm : obM M M') (hc : c ≤ c') : tieR c' M' := by
  obtain ⟨⟨hr, hq, hs, hw, ha, t0, t1, hok⟩, ⟨⟨e2, e3, e5, e8, e10, e11, e12, e29, e34⟩, ⟨w1, w2, w3, w4, w5, w6⟩, htp, ec, eh, eq, eA⟩, c0⟩ := h
  obtain ⟨⟨p1, p2, p3, p4, p5, p6, p7, p8, p9, p10, p11⟩, pq, ⟨x1, x2, x3, x4, x5, x6⟩, y1, y2, y3, y4⟩ := hp
  obtain ⟨⟨m2, m3, m5, m8, m10, m11, m12, m29, m34⟩, ⟨m39, m40, m41, m42, m43, m44⟩, m63, m64, m65, m66, mq, m72⟩ := hm
  have hA : ∀ j, aF M' j = aF M j := by
    intro j
    unfold aF
    have hb : ((M 47 3 + 11 - (j : Int)) % 12).toNat ≤ 11 := by omega
    rw [y2, y3, y4 _ (by omega) (by omega)]
  have hq18 : ∀ q, 0 ≤ q → q < M 18 4 → M' 19 q = M 19 q ∧ M' 20 q = M 20 q ∧ M' 21 q = M 21 q ∧ M' 22 q = M 22 q := fun q q0 q1 => pq q (by omega)
  have hqm : ∀ q, 0 ≤ q → q < M 18 4 → mk M' q = mk M q ∧ mf M' q = mf M q ∧ ml M' q = ml M q ∧ mt M' q = mt M q := fun q q0 q1 => mq q (by omega)
  refine ⟨⟨?_, ?_, ?_, ?_, ?_, ?_, ?_, ?_⟩, ⟨⟨?_, ?_, ?_, ?_, ?_, ?_, ?_, ?_, ?_⟩, ⟨?_, ?_, ?_, ?_, ?_, ?_⟩, ?_, ?_, ?_, ?_, ?_⟩, by omega⟩
  · unfold rwI; rw [p6, p7, p8, p9, p10]; exact hr
  · unfold quI; rw [p6, p7, p11]
    refine ⟨hq.1, hq.2.1, fun q q0 q1 => ?_⟩
    obtain ⟨z1, z2, z3, z4⟩ := hq18 q q0 q1
    rw [z1, z2, z3, z4]
    exact hq.2.2 q q0 q1
  · unfold seI; rw [p1, p2, p3]; exact hs
  · unfold wnB at *; rw [x1, x2, x3, x4, x5, x6, p6, p7]; omega
  · unfold acI; rw [y1, y2]; exact ha
  · rw [p4]; exact t0
  · rw [p4]; exact t1
  · rw [p6, y1, p7, p11]
    exact okA_c _ _ 0 0 _ _ _ _ (Nat.le_refl _) (fun i hi => by rw [Nat.zero_add]; exact hA i) (fun i i0 i1 => (hq18 i i0 i1).2.2.2) hok
  · rw [m2, p4, e2]
  · rw [m3, p6, e3]
  · rw [m5, p7, e5]
  · rw [m8, p11, e8]
  · rw [m10, p1, e10]
  · rw [m11, p2, e11]
  · rw [m12, p3, e12]
  · rw [m29, y1, e29]
  · rw [m34, e34]
  · rw [m39, x1, w1]
  · rw [m40, x2, w2]
  · rw [m41, x3, w3]
  · rw [m42, x6, w4]
  · rw [m43, x4, w5]
  · rw [m44, x5, w6]
  · intro i i0 i1
    rw [m63, p5]
    exact htp i i0 i1
  · rw [p6, p8, m64]; exact ec
  · rw [p7, p9, p10, m65, m66]; exact eh
  · rw [p11]
    intro q q0 q1
    obtain ⟨z1, z2, z3, z4⟩ := hq18 q q0 q1
    obtain ⟨v1, v2, v3, v4⟩ := hqm q q0 q1
    rw [z1, z2, z3, z4, v1, v2, v3, v4]
    exact eq q q0 q1
  · rw [y1]
    intro j hj
    rw [hA j, eA j hj]
    unfold aG
    rw [m72, m29]
