/-! walking: how far a number of moves comes -/
/-- the moves of a step that lie ahead of the end of each kind: to (f, la, ti) from (l, r, t) -/
def wA0 (l f : Int) : Int := max 0 (l - f)
def wA1 (l r f la : Int) : Int := wA0 l f + max 0 (la - r)
def wA2 (l r f la : Int) : Int := wA1 l r f la + max 0 (f - l)
def wA3 (l r f la : Int) : Int := wA2 l r f la + max 0 (r - la)
def wA4 (l r t f la ti : Int) : Int := wA3 l r f la + max 0 (ti - t)
def wA5 (l r t f la ti : Int) : Int := wA4 l r t f la ti + max 0 (t - ti)
def wkL (l r f la m : Int) : Int := l - min m (wA0 l f) + (min m (wA2 l r f la) - min m (wA1 l r f la))
def wkR (l r f la m : Int) : Int := r + (min m (wA1 l r f la) - min m (wA0 l f)) - (min m (wA3 l r f la) - min m (wA2 l r f la))
def wkT (l r t f la ti m : Int) : Int := t + (min m (wA4 l r t f la ti) - min m (wA3 l r f la)) - (min m (wA5 l r t f la ti) - min m (wA4 l r t f la ti))
def wkE (l r f la m : Int) : Int := min m (wA3 l r f la)
def wkU (l r t f la ti m : Int) : Int := min m (wA5 l r t f la ti) - min m (wA3 l r f la)
theorem wParts_c {a0 a1 a2 a3 a4 a5 lim p0 p1 p2 p3 p4 p5 : Int} (h : wParts a0 a1 a2 a3 a4 a5 lim p0 p1 p2 p3 p4 p5) (hl : 0 ≤ lim) (h0 : 0 ≤ a0) (h1 : 0 ≤ a1) (h2 : 0 ≤ a2) (h3 : 0 ≤ a3) (h4 : 0 ≤ a4) (h5 : 0 ≤ a5) : (p0 = min lim a0 ∧ p0 + p1 = min lim (a0 + a1) ∧ p0 + p1 + p2 = min lim (a0 + a1 + a2) ∧ p0 + p1 + p2 + p3 = min lim (a0 + a1 + a2 + a3) ∧ p0 + p1 + p2 + p3 + p4 = min lim (a0 + a1 + a2 + a3 + a4) ∧ p0 + p1 + p2 + p3 + p4 + p5 = min lim (a0 + a1 + a2 + a3 + a4 + a5)) ∧ (0 ≤ p0 ∧ p0 ≤ a0 ∧ 0 ≤ p1 ∧ p1 ≤ a1 ∧ 0 ≤ p2 ∧ p2 ≤ a2 ∧ 0 ≤ p3 ∧ p3 ≤ a3 ∧ 0 ≤ p4 ∧ p4 ≤ a4 ∧ 0 ≤ p5 ∧ p5 ≤ a5) := by
  obtain ⟨g0, g1, g2, g3, g4, g5⟩ := h
  have s0 : p0 = min lim a0 := by clear g1 g2 g3 g4 g5; omega
  have u0 : 0 ≤ p0 ∧ p0 ≤ a0 ∧ p0 ≤ lim := by clear g1 g2 g3 g4 g5 g0; omega
  have s1 : p0 + p1 = min lim (a0 + a1) := by clear g2 g3 g4 g5 g0; omega
  have u1 : 0 ≤ p1 ∧ p1 ≤ a1 ∧ p0 + p1 ≤ lim := by clear g2 g3 g4 g5 g0 s1 s0; omega
  have s2 : p0 + p1 + p2 = min lim (a0 + a1 + a2) := by clear g1 g3 g4 g5 g0 s0; omega
  have u2 : 0 ≤ p2 ∧ p2 ≤ a2 ∧ p0 + p1 + p2 ≤ lim := by clear g1 g3 g4 g5 g0 s0 s1 s2; omega
  have s3 : p0 + p1 + p2 + p3 = min lim (a0 + a1 + a2 + a3) := by clear g1 g2 g4 g5 g0 s0 s1; omega
  have u3 : 0 ≤ p3 ∧ p3 ≤ a3 ∧ p0 + p1 + p2 + p3 ≤ lim := by clear g1 g2 g4 g5 g0 s0 s1 s2 s3; omega
  have s4 : p0 + p1 + p2 + p3 + p4 = min lim (a0 + a1 + a2 + a3 + a4) := by clear g1 g2 g3 g5 g0 s0 s1 s2; omega
  have u4 : 0 ≤ p4 ∧ p4 ≤ a4 ∧ p0 + p1 + p2 + p3 + p4 ≤ lim := by clear g1 g2 g3 g5 g0 s0 s1 s2 s3 s4; omega
  have s5 : p0 + p1 + p2 + p3 + p4 + p5 = min lim (a0 + a1 + a2 + a3 + a4 + a5) := by clear g1 g2 g3 g4 g0 s0 s1 s2 s3; omega
  have u5 : 0 ≤ p5 ∧ p5 ≤ a5 := by clear g1 g2 g3 g4 g0 s0 s1 s2 s3 s4 s5; omega
  exact ⟨⟨s0, s1, s2, s3, s4, s5⟩, u0.1, u0.2.1, u1.1, u1.2.1, u2.1, u2.2.1, u3.1, u3.2.1, u4.1, u4.2.1, u5.1, u5.2⟩
/-- aim and make(lim) at window w, from M to M': what comes of it -/
def wGo (w : Nat) (M M' : mmM) (f la ti lim : Int) : Prop := (∀ o', o' ≠ w → o' ≠ w + 1 → M' o' = M o') ∧ M' w 1 = wkL (M w 1) (M w 2) f la lim ∧ M' w 2 = wkR (M w 1) (M w 2) f la lim ∧ M' w 3 = wkT (M w 1) (M w 2) (M w 3) f la ti lim ∧ M' w 4 = M w 4 + wkE (M w 1) (M w 2) f la lim ∧ M' w 5 = M w 5 + wkU (M w 1) (M w 2) (M w 3) f la ti lim ∧ M' w 6 = M w 6 ∧ (M' (w + 1) 0 = wA0 (M w 1) f - min lim (wA0 (M w 1) f) ∧ M' (w + 1) 0 + M' (w + 1) 1 = wA1 (M w 1) (M w 2) f la - min lim (wA1 (M w 1) (M w 2) f la) ∧ M' (w + 1) 0 + M' (w + 1) 1 + M' (w + 1) 2 = wA2 (M w 1) (M w 2) f la - min lim (wA2 (M w 1) (M w 2) f la) ∧ M' (w + 1) 0 + M' (w + 1) 1 + M' (w + 1) 2 + M' (w + 1) 3 = wA3 (M w 1) (M w 2) f la - min lim (wA3 (M w 1) (M w 2) f la) ∧ M' (w + 1) 0 + M' (w + 1) 1 + M' (w + 1) 2 + M' (w + 1) 3 + M' (w + 1) 4 = wA4 (M w 1) (M w 2) (M w 3) f la ti - min lim (wA4 (M w 1) (M w 2) (M w 3) f la ti) ∧ M' (w + 1) 0 + M' (w + 1) 1 + M' (w + 1) 2 + M' (w + 1) 3 + M' (w + 1) 4 + M' (w + 1) 5 = wA5 (M w 1) (M w 2) (M w 3) f la ti - min lim (wA5 (M w 1) (M w 2) (M w 3) f la ti)) ∧ (0 ≤ M' (w + 1) 0 ∧ M' (w + 1) 0 ≤ 61 ∧ 0 ≤ M' (w + 1) 1 ∧ M' (w + 1) 1 ≤ 61 ∧ 0 ≤ M' (w + 1) 2 ∧ M' (w + 1) 2 ≤ 61 ∧ 0 ≤ M' (w + 1) 3 ∧ M' (w + 1) 3 ≤ 61 ∧ 0 ≤ M' (w + 1) 4 ∧ M' (w + 1) 4 ≤ 61 ∧ 0 ≤ M' (w + 1) 5 ∧ M' (w + 1) 5 ≤ 61)
theorem wGo_of {w : Nat} {M M1 M2 : mmM} {f la ti lim p0 p1 p2 p3 p4 p5 : Int} (hw : wB M w) (hb : 0 ≤ f ∧ f ≤ 60 ∧ 0 ≤ la ∧ la ≤ 60 ∧ 0 ≤ ti ∧ ti ≤ 32) (hl : 0 ≤ lim) (f1 : ∀ o', o' ≠ w + 1 → M1 o' = M o') (a0 : M1 (w + 1) 0 = max 0 (M w 1 - f)) (a1 : M1 (w + 1) 1 = max 0 (la - M w 2)) (a2 : M1 (w + 1) 2 = max 0 (f - M w 1)) (a3 : M1 (w + 1) 3 = max 0 (M w 2 - la)) (a4 : M1 (w + 1) 4 = max 0 (ti - M w 3)) (a5 : M1 (w + 1) 5 = max 0 (M w 3 - ti)) (hp : wParts (M1 (w + 1) 0) (M1 (w + 1) 1) (M1 (w + 1) 2) (M1 (w + 1) 3) (M1 (w + 1) 4) (M1 (w + 1) 5) lim p0 p1 p2 p3 p4 p5) (hm : wMade w M1 M2 p0 p1 p2 p3 p4 p5) : wGo w M M2 f la ti lim ∧ p0 + p1 + p2 + p3 + p4 + p5 = min lim (wA5 (M w 1) (M w 2) (M w 3) f la ti) := by
  have ew : M1 w = M w := f1 w (by omega)
  obtain ⟨b1, b2, b3, b4, b5, b6⟩ := hw
  have t0 : 0 ≤ M1 (w + 1) 0 ∧ M1 (w + 1) 0 ≤ 61 := by omega
  have t1 : 0 ≤ M1 (w + 1) 1 ∧ M1 (w + 1) 1 ≤ 61 := by omega
  have t2 : 0 ≤ M1 (w + 1) 2 ∧ M1 (w + 1) 2 ≤ 61 := by omega
  have t3 : 0 ≤ M1 (w + 1) 3 ∧ M1 (w + 1) 3 ≤ 61 := by omega
  have t4 : 0 ≤ M1 (w + 1) 4 ∧ M1 (w + 1) 4 ≤ 61 := by omega
  have t5 : 0 ≤ M1 (w + 1) 5 ∧ M1 (w + 1) 5 ≤ 61 := by omega
  obtain ⟨⟨g0, g1, g2, g3, g4, g5⟩, u0, u1, u2, u3, u4, u5, u6, u7, u8, u9, u10, u11⟩ := wParts_c hp hl t0.1 t1.1 t2.1 t3.1 t4.1 t5.1
  obtain ⟨h0, h1, h2, h3, h4, h5, h6, k0, k1, k2, k3, k4, k5⟩ := hm
  rw [ew] at h1 h2 h3 h4 h5 h6
  have e0 : M1 (w + 1) 0 = wA0 (M w 1) f := a0
  have e1 : M1 (w + 1) 0 + M1 (w + 1) 1 = wA1 (M w 1) (M w 2) f la := by rw [e0, a1]; rfl
  have e2 : M1 (w + 1) 0 + M1 (w + 1) 1 + M1 (w + 1) 2 = wA2 (M w 1) (M w 2) f la := by rw [e1, a2]; rfl
  have e3 : M1 (w + 1) 0 + M1 (w + 1) 1 + M1 (w + 1) 2 + M1 (w + 1) 3 = wA3 (M w 1) (M w 2) f la := by rw [e2, a3]; rfl
  have e4 : M1 (w + 1) 0 + M1 (w + 1) 1 + M1 (w + 1) 2 + M1 (w + 1) 3 + M1 (w + 1) 4 = wA4 (M w 1) (M w 2) (M w 3) f la ti := by rw [e3, a4]; rfl
  have e5 : M1 (w + 1) 0 + M1 (w + 1) 1 + M1 (w + 1) 2 + M1 (w + 1) 3 + M1 (w + 1) 4 + M1 (w + 1) 5 = wA5 (M w 1) (M w 2) (M w 3) f la ti := by rw [e4, a5]; rfl
  clear a0 a1 a2 a3 a4 a5 hp
  rw [e0] at g0
  rw [e1] at g1
  rw [e2] at g2
  rw [e3] at g3
  rw [e4] at g4
  rw [e5] at g5
  unfold wGo wkL wkR wkT wkE wkU
  rw [← g0, ← g1, ← g2, ← g3, ← g4, ← g5, ← e0, ← e1, ← e2, ← e3, ← e4, ← e5]
  clear e0 e1 e2 e3 e4 e5 g0 g1 g2 g3 g4 g5
  refine ⟨⟨fun o' c1 c2 => by rw [h0 o' c1 c2, f1 o' c2], by omega, by omega, by omega, by omega, by omega, h6, ⟨by omega, by omega, by omega, by omega, by omega, by omega⟩, by omega⟩, rfl⟩
