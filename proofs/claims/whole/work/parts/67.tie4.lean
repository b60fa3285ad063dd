/-! ties: acts -/
theorem aF_c {A B : mmM} (h : ∀ o, 47 ≤ o → o ≤ 61 → B o = A o) (j : Nat) : aF B j = aF A j := by
  unfold aF
  have hb : ((A 47 3 + 11 - (j : Int)) % 12).toNat ≤ 11 := by omega
  rw [h 47 (by decide) (by decide), h 48 (by decide) (by decide), h _ (by omega) (by omega)]
theorem aG_c {A B : mmM} (h1 : B 62 29 = A 62 29) (h2 : B 72 = A 72) (j : Nat) : aG B j = aG A j := by
  unfold aG
  rw [h1, h2]
theorem an_47 {A : mmM} {k a b c d : Int} (h : acI A) : aNote A k a b c d 47 3 = (A 47 3 + 1) % 12 ∧ aNote A k a b c d 47 2 = min (A 47 2 + 1) 12 := by
  unfold aNote
  refine ⟨by rw [mm_up_i _ (by decide), mm_up_s], by rw [mm_up_s]⟩
theorem an_48 {A : mmM} {k a b c d i : Int} (h : acI A) : aNote A k a b c d 48 i = if i = A 47 3 then k else A 48 i := by
  unfold acI at h
  unfold aNote
  rw [mm_up_o _ _ (by decide), mm_up_o _ _ (by decide), mm_up_o _ _ (by omega), mm_up_o _ _ (by omega), mm_up_o _ _ (by omega), mm_up_o _ _ (by omega), mm_up_if]
theorem an_50 {A : mmM} {k a b c d : Int} {p : Nat} (h : acI A) (hp : p < 12) : (p = (A 47 3).toNat → aNote A k a b c d (50 + p) 0 = a ∧ aNote A k a b c d (50 + p) 1 = b ∧ aNote A k a b c d (50 + p) 2 = c ∧ aNote A k a b c d (50 + p) 3 = d) ∧ (p ≠ (A 47 3).toNat → aNote A k a b c d (50 + p) = A (50 + p)) := by
  constructor
  · intro e
    unfold aNote
    rw [← e]
    refine ⟨?_, ?_, ?_, ?_⟩ <;> rw [mm_up_o _ _ (by omega), mm_up_o _ _ (by omega)]
    · rw [mm_up_i _ (by decide), mm_up_i _ (by decide), mm_up_i _ (by decide), mm_up_s]
    · rw [mm_up_i _ (by decide), mm_up_i _ (by decide), mm_up_s]
    · rw [mm_up_i _ (by decide), mm_up_s]
    · rw [mm_up_s]
  · intro e
    unfold aNote
    rw [mm_up_o _ _ (by omega), mm_up_o _ _ (by omega), mm_up_o _ _ (by omega), mm_up_o _ _ (by omega), mm_up_o _ _ (by omega), mm_up_o _ _ (by omega), mm_up_o _ _ (by omega)]
theorem an_F0 {A : mmM} {k a b c d : Int} (h : acI A) : aF (aNote A k a b c d) 0 = (k, a, b, c, d) := by
  have e := (an_47 (k := k) (a := a) (b := b) (c := c) (d := d) h).1
  have h2 := h
  unfold acI at h2
  unfold aF
  rw [e, show ((A 47 3 + 1) % 12 + 11 - ((0 : Nat) : Int)) % 12 = A 47 3 by omega]
  have h5 := (an_50 (k := k) (a := a) (b := b) (c := c) (d := d) (p := (A 47 3).toNat) h (by omega)).1 rfl
  rw [an_48 h, if_pos rfl, h5.1, h5.2.1, h5.2.2.1, h5.2.2.2]
theorem an_F {A : mmM} {k a b c d : Int} (h : acI A) (j : Nat) (hj : j < 11) : aF (aNote A k a b c d) (j + 1) = aF A j := by
  have e := (an_47 (k := k) (a := a) (b := b) (c := c) (d := d) h).1
  have h2 := h
  unfold acI at h2
  unfold aF
  rw [e, show ((A 47 3 + 1) % 12 + 11 - ((j + 1 : Nat) : Int)) % 12 = (A 47 3 + 11 - (j : Int)) % 12 by omega]
  have h5 := (an_50 (k := k) (a := a) (b := b) (c := c) (d := d) (p := ((A 47 3 + 11 - (j : Int)) % 12).toNat) h (by omega)).2 (by omega)
  rw [an_48 h, if_neg (by omega), h5]
theorem kp_G0 {B B' : mmM} {k a b c d : Int} (h : kpI B B' k a b c d) : aG B' 0 = (k, a, b, c, d) := by
  obtain ⟨-, -, h3, -, h5, h6, h7, h8, h9⟩ := h
  unfold aG
  rw [h3, show (5 : Int) * (min (B 62 29) 11 + 1 - 1 - ((0 : Nat) : Int)) = 5 * min (B 62 29) 11 by omega, h5, h6, h7, h8, h9]
theorem kp_G {B B' : mmM} {k a b c d : Int} (h : kpI B B' k a b c d) (h0 : 0 ≤ B 62 29) (h12 : B 62 29 ≤ 12) (j : Nat) (hj : (j : Int) + 1 < B' 62 29) : aG B' (j + 1) = aG B j := by
  obtain ⟨-, -, h3, h4, -⟩ := h
  have key : ∀ r : Int, 0 ≤ r → r ≤ 4 → B' 72 (5 * (B' 62 29 - 1 - ((j + 1 : Nat) : Int)) + r) = B 72 (5 * (B 62 29 - 1 - (j : Int)) + r) := by
    intro r r0 r1
    rw [h4 _ (by omega) (by omega)]
    congr 1
    split <;> omega
  have k0 := key 0 (by omega) (by omega)
  rw [Int.add_zero, Int.add_zero] at k0
  unfold aG
  rw [k0, key 1 (by omega) (by omega), key 2 (by omega) (by omega), key 3 (by omega) (by omega), key 4 (by omega) (by omega)]
/-- an act was noted at both: what is left to show -/
theorem tie_put {c : Int} {M M2 : mmM} {x : Int × Int × Int × Int × Int} (h : tieR c M) (hr : rwI M2) (hq : quI M2 24) (hs : seI M2) (hw : wnB (c + 1) M2)
    (a3 : M2 47 3 = (M 47 3 + 1) % 12) (a2 : M2 47 2 = min (M 47 2 + 1) 12) (hF0 : aF M2 0 = x) (hF : ∀ j, j < 11 → aF M2 (j + 1) = aF M j) (hG0 : aG M2 0 = x) (hG : ∀ j : Nat, (j : Int) + 1 < M2 62 29 → aG M2 (j + 1) = aG M j)
    (hk : ∀ m, okA (aF M2) (M 13 4) m 1 (M 13 5) (M 18 4) (M 22) → okA (aF M2) (M2 13 4) (m + 1) 0 (M2 13 5) (M2 18 4) (M2 22))
    (e13 : M2 1 3 = M 1 3) (e2 : M2 62 2 = M 62 2) (t2 : M2 2 = M 2) (t63 : M2 63 = M 63)
    (hE : M2 62 3 = M2 13 4 ∧ M2 62 5 = M2 13 5 ∧ M2 62 8 = M2 18 4 ∧ M2 62 10 = M2 0 9 ∧ M2 62 11 = M2 0 10 ∧ M2 62 12 = M2 0 11 ∧ M2 62 29 = M2 47 2 ∧ M2 62 34 = -1) (hW : M2 62 39 = M2 45 1 ∧ M2 62 40 = M2 45 2 ∧ M2 62 41 = M2 45 3 ∧ M2 62 42 = M2 45 6 ∧ M2 62 43 = M2 45 4 ∧ M2 62 44 = M2 45 5)
    (ec : ∀ i, 0 ≤ i → i < M2 13 4 → M2 64 i = M2 14 i) (eh : ∀ k, 0 ≤ k → k < M2 13 5 → M2 65 k = M2 15 k ∧ M2 66 k = M2 16 k) (eq : ∀ q, 0 ≤ q → q < M2 18 4 → mk M2 q = M2 19 q ∧ mf M2 q = M2 20 q ∧ ml M2 q = M2 21 q ∧ mt M2 q = M2 22 q) : tieR (c + 1) M2 := by
  obtain ⟨⟨-, -, -, -, ha, u0, u1, hok⟩, ⟨⟨f2, -⟩, -, htp, -, -, -, eA⟩, c0⟩ := h
  have ha2 := ha
  unfold acI at ha2
  refine ⟨⟨hr, hq, hs, hw, ?_, by rw [e13]; exact u0, by rw [e13]; exact u1, ?_⟩, ⟨⟨by rw [e2, e13, f2], hE⟩, hW, ?_, ec, eh, eq, ?_⟩, by omega⟩
  · unfold acI; rw [a2, a3]; omega
  · rw [a2, show (min (M 47 2 + 1) 12).toNat = min (M 47 2).toNat 11 + 1 by omega]
    refine hk _ (okA_c _ _ 0 1 _ _ _ _ (Nat.min_le_left _ _) (fun i hi => ?_) (fun _ _ _ => rfl) hok)
    rw [Nat.zero_add, Nat.add_comm 1 i]
    exact hF i (by omega)
  · intro i i0 i1
    rw [t63, t2]
    exact htp i i0 i1
  · intro j hj
    cases j with
    | zero => rw [hF0, hG0]
    | succ j =>
      rw [hF j (by omega), hG j (by rw [hE.2.2.2.2.2.2.1]; omega), eA j (by omega)]
