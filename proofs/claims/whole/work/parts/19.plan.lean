/-! the order of questions: keys, and a row of questions in their order -/
def tb (outer inner : Int) : Int := if outer % 2 = 0 then inner else 63 - inner
/-- the curve's number, n more halvings from s on -/
def cvF : Nat → Int → Int → Int → Int → Int
  | 0, _, _, _, d => d
  | n + 1, s, x, y, d => if x / s % 2 = 0 then (if y / s % 2 = 0 then cvF n (s / 2) y x (d + s * s * 0) else cvF n (s / 2) x y (d + s * s * 1)) else (if y / s % 2 = 0 then cvF n (s / 2) (63 - y) (63 - x) (d + s * s * 3) else cvF n (s / 2) x y (d + s * s * 2))
def cv (x y : Int) : Int := cvF 6 32 x y 0
theorem cvF_b1 (x y d : Int) : d ≤ cvF 1 1 x y d ∧ cvF 1 1 x y d ≤ d + 3 := by
  unfold cvF
  simp only [cvF]
  split <;> split <;> omega
theorem cvF_b2 (x y d : Int) : d ≤ cvF 2 2 x y d ∧ cvF 2 2 x y d ≤ d + 15 := by
  unfold cvF
  rw [show (2 : Int) / 2 = 1 by decide]
  split <;> split
  · have := cvF_b1 y x (d + 2 * 2 * 0); omega
  · have := cvF_b1 x y (d + 2 * 2 * 1); omega
  · have := cvF_b1 (63 - y) (63 - x) (d + 2 * 2 * 3); omega
  · have := cvF_b1 x y (d + 2 * 2 * 2); omega
theorem cvF_b3 (x y d : Int) : d ≤ cvF 3 4 x y d ∧ cvF 3 4 x y d ≤ d + 63 := by
  unfold cvF
  rw [show (4 : Int) / 2 = 2 by decide]
  split <;> split
  · have := cvF_b2 y x (d + 4 * 4 * 0); omega
  · have := cvF_b2 x y (d + 4 * 4 * 1); omega
  · have := cvF_b2 (63 - y) (63 - x) (d + 4 * 4 * 3); omega
  · have := cvF_b2 x y (d + 4 * 4 * 2); omega
theorem cvF_b4 (x y d : Int) : d ≤ cvF 4 8 x y d ∧ cvF 4 8 x y d ≤ d + 255 := by
  unfold cvF
  rw [show (8 : Int) / 2 = 4 by decide]
  split <;> split
  · have := cvF_b3 y x (d + 8 * 8 * 0); omega
  · have := cvF_b3 x y (d + 8 * 8 * 1); omega
  · have := cvF_b3 (63 - y) (63 - x) (d + 8 * 8 * 3); omega
  · have := cvF_b3 x y (d + 8 * 8 * 2); omega
theorem cvF_b5 (x y d : Int) : d ≤ cvF 5 16 x y d ∧ cvF 5 16 x y d ≤ d + 1023 := by
  unfold cvF
  rw [show (16 : Int) / 2 = 8 by decide]
  split <;> split
  · have := cvF_b4 y x (d + 16 * 16 * 0); omega
  · have := cvF_b4 x y (d + 16 * 16 * 1); omega
  · have := cvF_b4 (63 - y) (63 - x) (d + 16 * 16 * 3); omega
  · have := cvF_b4 x y (d + 16 * 16 * 2); omega
theorem cvF_b6 (x y d : Int) : d ≤ cvF 6 32 x y d ∧ cvF 6 32 x y d ≤ d + 4095 := by
  unfold cvF
  rw [show (32 : Int) / 2 = 16 by decide]
  split <;> split
  · have := cvF_b5 y x (d + 32 * 32 * 0); omega
  · have := cvF_b5 x y (d + 32 * 32 * 1); omega
  · have := cvF_b5 (63 - y) (63 - x) (d + 32 * 32 * 3); omega
  · have := cvF_b5 x y (d + 32 * 32 * 2); omega
theorem cv_b (x y : Int) : 0 ≤ cv x y ∧ cv x y < 4096 := by
  have := cvF_b6 x y 0
  unfold cv
  omega
theorem dB {f b : Int} (h0 : 0 ≤ f) (h1 : f < 64) (hb : 1 ≤ b) : 0 ≤ f / b ∧ f / b < 64 ∧ f / b ≤ f ∧ f.tdiv b = f / b := by
  have a := Int.ediv_nonneg h0 (show 0 ≤ b by omega)
  have c := Int.ediv_le_self b h0
  exact ⟨a, by omega, c, Int.tdiv_eq_ediv_of_nonneg h0⟩
theorem tb_b {o i : Int} (h0 : 0 ≤ i) (h1 : i < 64) : 0 ≤ tb o i ∧ tb o i < 64 := by
  unfold tb
  split <;> omega
/-- what a question is laid by, but for its number -/
def pA (ord b f l t : Int) : Int := if ord = 0 then ((f / b) * 64 + l / b) * 64 + t else if ord = 2 then cv (f / b) (l / b) * 64 + t else ((f / b) * 64 + tb (f / b) (l / b)) * 64 + tb (l / b) t
/-- the row P of n questions holds just those of S, in the order of w -/
def isOrd (S : Int → Prop) (w P : Int → Int) (n : Int) : Prop := 0 ≤ n ∧ (∀ i, 0 ≤ i → i < n → S (P i)) ∧ (∀ i j, 0 ≤ i → i < j → j < n → w (P i) < w (P j)) ∧ ∀ q, S q → ∃ i, 0 ≤ i ∧ i < n ∧ P i = q
theorem isOrd_len {S : Int → Prop} {w w' P P' : Int → Int} {n n' : Int} (h : isOrd S w P n) (h' : isOrd S w' P' n') (hw : ∀ q r, S q → S r → (w q < w r ↔ w' q < w' r)) : ∀ k : Nat, (k : Int) ≤ n → (∀ i : Int, 0 ≤ i → i < k → i < n' ∧ P i = P' i) := by
  obtain ⟨a0, a1, a2, a3⟩ := h
  obtain ⟨b0, b1, b2, b3⟩ := h'
  intro k
  induction k with
  | zero => intro _ i i0 i1; omega
  | succ k ih =>
    intro hk i i0 i1
    have ih := ih (by omega)
    by_cases hi : i < k
    · exact ih i i0 hi
    · have hik : i = (k : Int) := by omega
      subst hik
      have hn : (k : Int) < n := by omega
      have s0 := a1 k i0 hn
      obtain ⟨j, j0, j1, j2⟩ := b3 _ s0
      rcases Int.lt_trichotomy j k with c | c | c
      · have e := (ih j j0 c).2
        have := a2 j k j0 c hn
        rw [e, j2] at this
        omega
      · subst c
        exact ⟨j1, j2.symm⟩
      · exfalso
        have hkn' : (k : Int) < n' := by omega
        have s1 := b1 k i0 hkn'
        obtain ⟨m, m0, m1, m2⟩ := a3 _ s1
        have w1 := b2 k j i0 c j1
        rw [j2] at w1
        have w2 := (hw _ _ s1 s0).mpr w1
        rw [← m2] at w2
        rcases Int.lt_trichotomy m k with d | d | d
        · have e := (ih m m0 d).2
          rw [m2] at e
          have w3 := b2 m k m0 d hkn'
          rw [← e] at w3
          omega
        · rw [d] at w2; omega
        · have := a2 k m i0 d m1
          omega
theorem isOrd_uniq {S : Int → Prop} {w w' P P' : Int → Int} {n n' : Int} (h : isOrd S w P n) (h' : isOrd S w' P' n') (hw : ∀ q r, S q → S r → (w q < w r ↔ w' q < w' r)) : n = n' ∧ ∀ i, 0 ≤ i → i < n → P i = P' i := by
  have e1 := isOrd_len h h' hw n.toNat (by have := h.1; omega)
  have e2 := isOrd_len h' h (fun q r a b => (hw q r a b).symm) n'.toNat (by have := h'.1; omega)
  have f1 : n ≤ n' := by
    rcases Int.lt_or_le 0 n with c | c
    · have := (e1 (n - 1) (by omega) (by omega)).1
      omega
    · have := h'.1; omega
  have f2 : n' ≤ n := by
    rcases Int.lt_or_le 0 n' with c | c
    · have := (e2 (n' - 1) (by omega) (by omega)).1
      omega
    · have := h.1; omega
  exact ⟨by omega, fun i i0 i1 => (e1 i i0 (by omega)).2⟩
theorem isOrd_cong {S S' : Int → Prop} {w w' P P' : Int → Int} {n : Int} (h : isOrd S w P n) (hS : ∀ q, S q ↔ S' q) (hw : ∀ q, S q → w q = w' q) (hP : ∀ i, 0 ≤ i → i < n → P i = P' i) : isOrd S' w' P' n := by
  obtain ⟨a0, a1, a2, a3⟩ := h
  refine ⟨a0, fun i i0 i1 => ?_, fun i j i0 ij j1 => ?_, fun q hq => ?_⟩
  · rw [← hP i i0 i1]; exact (hS _).mp (a1 i i0 i1)
  · rw [← hP i i0 (by omega), ← hP j (by omega) j1, ← hw _ (a1 i i0 (by omega)), ← hw _ (a1 j (by omega) j1)]
    exact a2 i j i0 ij j1
  · obtain ⟨i, i0, i1, i2⟩ := a3 q ((hS q).mpr hq)
    exact ⟨i, i0, i1, by rw [← hP i i0 i1]; exact i2⟩
/-- keys that hold their question's number, sorted -/
def isKey (S : Int → Prop) (key K : Int → Int) (n : Int) : Prop := isOrd S key (fun i => (K i).tmod 32) n ∧ ∀ i, 0 ≤ i → i < n → K i = key ((K i).tmod 32)
theorem isKey_0 {S : Int → Prop} {key K : Int → Int} (h : ∀ q, ¬ S q) : isKey S key K 0 := ⟨⟨by omega, fun i i0 i1 => by omega, fun i j i0 ij j1 => by omega, fun q hq => absurd hq (h q)⟩, fun i i0 i1 => by omega⟩
theorem isKey_ins {S : Int → Prop} {key K K' : Int → Int} {n q p : Int} (h : isKey S key K n) (hq : ¬ S q) (hk : (key q).tmod 32 = q) (hi : sIns K K' n (key q) p) : isKey (fun z => S z ∨ z = q) key K' (n + 1) := by
  obtain ⟨⟨a0, a1, a2, a3⟩, a4⟩ := h
  obtain ⟨p0, p1, p2, p3, p4, p5, p6⟩ := hi
  have lo : ∀ i, 0 ≤ i → i < p → K i < key q := by
    intro i i0 i1
    have h1 := p2 (by omega)
    have h2 : K (p - 1) ≠ key q := by
      intro e
      have := a1 (p - 1) (by omega) (by omega)
      simp only [e, hk] at this
      exact hq this
    by_cases hip : i = p - 1
    · rw [hip]; omega
    · have := a2 i (p - 1) i0 (by omega) (by omega)
      simp only at this
      rw [← a4 i i0 (by omega), ← a4 (p - 1) (by omega) (by omega)] at this
      omega
  have val : ∀ i, 0 ≤ i → i < n + 1 → (i < p ∧ K' i = K i) ∨ (i = p ∧ K' i = key q) ∨ (p < i ∧ K' i = K (i - 1)) := by
    intro i i0 i1
    rcases Int.lt_trichotomy i p with c | c | c
    · exact Or.inl ⟨c, p4 i i0 c⟩
    · exact Or.inr (Or.inl ⟨c, by rw [c]; exact p5⟩)
    · exact Or.inr (Or.inr ⟨c, p6 i c (by omega)⟩)
  have keyv : ∀ i, 0 ≤ i → i < n + 1 → K' i = key ((K' i).tmod 32) := by
    intro i i0 i1
    rcases val i i0 i1 with ⟨c, e⟩ | ⟨c, e⟩ | ⟨c, e⟩
    · rw [e]; exact a4 i i0 (by omega)
    · rw [e, hk]
    · rw [e]; exact a4 (i - 1) (by omega) (by omega)
  refine ⟨⟨by omega, fun i i0 i1 => ?_, fun i j i0 ij j1 => ?_, fun z hz => ?_⟩, keyv⟩
  · rcases val i i0 i1 with ⟨c, e⟩ | ⟨c, e⟩ | ⟨c, e⟩
    · simp only [e]; exact Or.inl (a1 i i0 (by omega))
    · simp only [e, hk]; exact Or.inr trivial
    · simp only [e]; exact Or.inl (a1 (i - 1) (by omega) (by omega))
  · simp only
    rw [← keyv i i0 (by omega), ← keyv j (by omega) j1]
    have srt : ∀ x y, 0 ≤ x → x < y → y < n → K x < K y := by
      intro x y x0 xy y1
      have := a2 x y x0 xy y1
      simp only at this
      rwa [← a4 x x0 (by omega), ← a4 y (by omega) y1] at this
    rcases val i i0 (by omega) with ⟨c, e⟩ | ⟨c, e⟩ | ⟨c, e⟩ <;> rcases val j (by omega) j1 with ⟨c', e'⟩ | ⟨c', e'⟩ | ⟨c', e'⟩ <;> rw [e, e']
    · exact srt i j i0 ij (by omega)
    · exact lo i i0 c
    · exact srt i (j - 1) i0 (by omega) (by omega)
    · omega
    · omega
    · exact p3 (j - 1) (by omega) (by omega)
    · omega
    · omega
    · exact srt (i - 1) (j - 1) (by omega) (by omega) (by omega)
  · rcases hz with hz | hz
    · obtain ⟨i, i0, i1, i2⟩ := a3 z hz
      by_cases c : i < p
      · exact ⟨i, i0, by omega, by simp only; rw [p4 i i0 c]; exact i2⟩
      · refine ⟨i + 1, by omega, by omega, ?_⟩
        simp only
        rw [p6 (i + 1) (by omega) (by omega), show i + 1 - 1 = i by omega]
        exact i2
    · exact ⟨p, p0, by omega, by simp only; rw [p5, hk, hz]⟩
