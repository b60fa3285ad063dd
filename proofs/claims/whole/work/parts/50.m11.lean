/-! the reference: single moves, the walk -/
def s1L (l r f la : Int) : Int := if f < l then l - 1 else if r < la then l else if l < f then l + 1 else l
def s1R (l r f la : Int) : Int := if f < l then r else if r < la then r + 1 else if l < f then r else if la < r then r - 1 else r
def s1T (l r t f la ti : Int) : Int := if f < l then t else if r < la then t else if l < f then t else if la < r then t else if t < ti then t + 1 else if ti < t then t - 1 else t
def s1K (l r t f la ti : Int) : Int := if f < l then 0 else if r < la then 1 else if l < f then 2 else if la < r then 3 else if t < ti then 4 else 5
def s1C (l r t f la ti : Int) : Int := if f < l then l - 1 else if r < la then r + 1 else if l < f then l else if la < r then r else if t < ti then t else t - 1
theorem s1_cases {l r t f la ti : Int} (h : ¬ (l = f ∧ r = la ∧ t = ti)) :
    (f < l ∧ s1K l r t f la ti = 0 ∧ s1L l r f la = l - 1 ∧ s1R l r f la = r ∧ s1T l r t f la ti = t ∧ s1C l r t f la ti = l - 1) ∨
    (¬ f < l ∧ r < la ∧ s1K l r t f la ti = 1 ∧ s1L l r f la = l ∧ s1R l r f la = r + 1 ∧ s1T l r t f la ti = t ∧ s1C l r t f la ti = r + 1) ∨
    (¬ f < l ∧ ¬ r < la ∧ l < f ∧ s1K l r t f la ti = 2 ∧ s1L l r f la = l + 1 ∧ s1R l r f la = r ∧ s1T l r t f la ti = t ∧ s1C l r t f la ti = l) ∨
    (l = f ∧ ¬ r < la ∧ la < r ∧ s1K l r t f la ti = 3 ∧ s1L l r f la = l ∧ s1R l r f la = r - 1 ∧ s1T l r t f la ti = t ∧ s1C l r t f la ti = r) ∨
    (l = f ∧ r = la ∧ t < ti ∧ s1K l r t f la ti = 4 ∧ s1L l r f la = l ∧ s1R l r f la = r ∧ s1T l r t f la ti = t + 1 ∧ s1C l r t f la ti = t) ∨
    (l = f ∧ r = la ∧ ti < t ∧ s1K l r t f la ti = 5 ∧ s1L l r f la = l ∧ s1R l r f la = r ∧ s1T l r t f la ti = t - 1 ∧ s1C l r t f la ti = t - 1) := by
  unfold s1K s1L s1R s1T s1C
  by_cases c0 : f < l
  · left
    simp only [if_pos c0]
    exact ⟨c0, (by trivial), (by trivial), (by trivial), (by trivial), (by trivial)⟩
  · right
    simp only [if_neg c0]
    by_cases c1 : r < la
    · left
      simp only [if_pos c1]
      exact ⟨c0, c1, (by trivial), (by trivial), (by trivial), (by trivial), (by trivial)⟩
    · right
      simp only [if_neg c1]
      by_cases c2 : l < f
      · left
        simp only [if_pos c2]
        exact ⟨c0, c1, c2, (by trivial), (by trivial), (by trivial), (by trivial), (by trivial)⟩
      · right
        simp only [if_neg c2]
        by_cases c3 : la < r
        · left
          simp only [if_pos c3]
          exact ⟨by omega, c1, c3, (by trivial), (by trivial), (by trivial), (by trivial), (by trivial)⟩
        · right
          simp only [if_neg c3]
          by_cases c4 : t < ti
          · left
            simp only [if_pos c4]
            exact ⟨by omega, by omega, c4, (by trivial), (by trivial), (by trivial), (by trivial), (by trivial)⟩
          · right
            have c5 : ti < t := by omega
            simp only [if_neg c4, if_pos c5]
            exact ⟨by omega, by omega, c5, (by trivial), (by trivial), (by trivial), (by trivial), (by trivial)⟩
/-- b of x's moves made: those ahead are the fewer -/
def s1D (K j A A' : Int) : Prop := (K ≤ j → A = A' + 1) ∧ (j < K → A = 0 ∧ A' = 0)
theorem s1_A {l r t f la ti : Int} (h : ¬ (l = f ∧ r = la ∧ t = ti)) :
    s1D (s1K l r t f la ti) 0 (wA0 l f) (wA0 (s1L l r f la) f) ∧
    s1D (s1K l r t f la ti) 1 (wA1 l r f la) (wA1 (s1L l r f la) (s1R l r f la) f la) ∧
    s1D (s1K l r t f la ti) 2 (wA2 l r f la) (wA2 (s1L l r f la) (s1R l r f la) f la) ∧
    s1D (s1K l r t f la ti) 3 (wA3 l r f la) (wA3 (s1L l r f la) (s1R l r f la) f la) ∧
    s1D (s1K l r t f la ti) 4 (wA4 l r t f la ti) (wA4 (s1L l r f la) (s1R l r f la) (s1T l r t f la ti) f la ti) ∧
    s1D (s1K l r t f la ti) 5 (wA5 l r t f la ti) (wA5 (s1L l r f la) (s1R l r f la) (s1T l r t f la ti) f la ti) := by
  rcases s1_cases h with ⟨c0, k, e1, e2, e3, -⟩ | ⟨c0, c1, k, e1, e2, e3, -⟩ | ⟨c0, c1, c2, k, e1, e2, e3, -⟩ | ⟨c0, c1, c2, k, e1, e2, e3, -⟩ | ⟨c0, c1, c2, k, e1, e2, e3, -⟩ | ⟨c0, c1, c2, k, e1, e2, e3, -⟩
  all_goals
    rw [k, e1, e2, e3]
    unfold s1D wA5 wA4 wA3 wA2 wA1 wA0
    refine ⟨⟨fun _ => ?_, fun _ => ?_⟩, ⟨fun _ => ?_, fun _ => ?_⟩, ⟨fun _ => ?_, fun _ => ?_⟩, ⟨fun _ => ?_, fun _ => ?_⟩, ⟨fun _ => ?_, fun _ => ?_⟩, fun _ => ?_, fun _ => ?_⟩ <;> omega
theorem s1_min {K j A A' m : Int} (h : s1D K j A A') (hA : 0 ≤ A') (hm : 1 ≤ m) : min m A = min (m - 1) A' + (if K ≤ j then 1 else 0) := by
  by_cases c : K ≤ j
  · rw [if_pos c, h.1 c]; omega
  · obtain ⟨e1, e2⟩ := h.2 (by omega)
    rw [if_neg c, e1, e2]; omega
theorem s1_go {l r t f la ti m : Int} (h : ¬ (l = f ∧ r = la ∧ t = ti)) (hm : 1 ≤ m) :
    wkL l r f la m = wkL (s1L l r f la) (s1R l r f la) f la (m - 1) ∧ wkR l r f la m = wkR (s1L l r f la) (s1R l r f la) f la (m - 1) ∧ wkT l r t f la ti m = wkT (s1L l r f la) (s1R l r f la) (s1T l r t f la ti) f la ti (m - 1) ∧ wkE l r f la m = wkE (s1L l r f la) (s1R l r f la) f la (m - 1) + (if s1K l r t f la ti ≤ 3 then 1 else 0) ∧ wkU l r t f la ti m = wkU (s1L l r f la) (s1R l r f la) (s1T l r t f la ti) f la ti (m - 1) + (if s1K l r t f la ti ≤ 3 then 0 else 1) := by
  obtain ⟨d0, d1, d2, d3, d4, d5⟩ := s1_A h
  obtain ⟨p0, p1, p2, p3, p4, p5⟩ := wA_le (s1L l r f la) (s1R l r f la) (s1T l r t f la ti) f la ti
  have m0 := s1_min d0 (by omega) hm
  have m1 := s1_min d1 (by omega) hm
  have m2 := s1_min d2 (by omega) hm
  have m3 := s1_min d3 (by omega) hm
  have m4 := s1_min d4 (by omega) hm
  have m5 := s1_min d5 (by omega) hm
  clear d0 d1 d2 d3 d4 d5 p0 p1 p2 p3 p4 p5
  have hc := s1_cases h
  unfold wkL wkR wkT wkE wkU
  rw [m0, m1, m2, m3, m4, m5]
  clear m0 m1 m2 m3 m4 m5
  generalize min (m - 1) (wA0 (s1L l r f la) f) = x0
  generalize min (m - 1) (wA1 (s1L l r f la) (s1R l r f la) f la) = x1
  generalize min (m - 1) (wA2 (s1L l r f la) (s1R l r f la) f la) = x2
  generalize min (m - 1) (wA3 (s1L l r f la) (s1R l r f la) f la) = x3
  generalize min (m - 1) (wA4 (s1L l r f la) (s1R l r f la) (s1T l r t f la ti) f la ti) = x4
  generalize min (m - 1) (wA5 (s1L l r f la) (s1R l r f la) (s1T l r t f la ti) f la ti) = x5
  rcases hc with ⟨c0, k, e1, e2, e3, -⟩ | ⟨c0, c1, k, e1, e2, e3, -⟩ | ⟨c0, c1, c2, k, e1, e2, e3, -⟩ | ⟨c0, c1, c2, k, e1, e2, e3, -⟩ | ⟨c0, c1, c2, k, e1, e2, e3, -⟩ | ⟨c0, c1, c2, k, e1, e2, e3, -⟩
  all_goals
    rw [k, e1, e2, e3]
    simp only [Int.reduceLE, ↓reduceIte]
    refine ⟨?_, ?_, ?_, ?_, ?_⟩ <;> first | omega | exact trivial
theorem s1_lt {K j A A' m : Int} (h : s1D K j A A') (hA : 0 ≤ A') (hm : 1 ≤ m) : m < A ↔ m - 1 < A' := by
  by_cases c : K ≤ j
  · rw [h.1 c]; omega
  · obtain ⟨e1, e2⟩ := h.2 (by omega)
    rw [e1, e2]; omega
theorem s1_K {l r t f la ti m : Int} (h : ¬ (l = f ∧ r = la ∧ t = ti)) (hm : 1 ≤ m) : mvK l r t f la ti m = mvK (s1L l r f la) (s1R l r f la) (s1T l r t f la ti) f la ti (m - 1) ∧ mvC l r t f la ti m = mvC (s1L l r f la) (s1R l r f la) (s1T l r t f la ti) f la ti (m - 1) := by
  obtain ⟨d0, d1, d2, d3, d4, d5⟩ := s1_A h
  obtain ⟨p0, p1, p2, p3, p4, p5⟩ := wA_le (s1L l r f la) (s1R l r f la) (s1T l r t f la ti) f la ti
  have m0 := s1_lt d0 (by omega) hm
  have m1 := s1_lt d1 (by omega) hm
  have m2 := s1_lt d2 (by omega) hm
  have m3 := s1_lt d3 (by omega) hm
  have m4 := s1_lt d4 (by omega) hm
  obtain ⟨g1, g2, g3, -, -⟩ := s1_go h hm
  unfold mvK mvC
  rw [g1, g2, g3]
  simp only [m0, m1, m2, m3, m4]
  exact ⟨trivial, trivial⟩
theorem s1_0 {l r t f la ti : Int} (h : ¬ (l = f ∧ r = la ∧ t = ti)) : mvK l r t f la ti 0 = s1K l r t f la ti ∧ mvC l r t f la ti 0 = s1C l r t f la ti ∧ 0 < wA5 l r t f la ti := by
  obtain ⟨d0, d1, d2, d3, d4, d5⟩ := s1_A h
  obtain ⟨p0, p1, p2, p3, p4, p5⟩ := wA_le (s1L l r f la) (s1R l r f la) (s1T l r t f la ti) f la ti
  obtain ⟨q0, q1, q2, q3, q4, q5⟩ := wA_le l r t f la ti
  have z0 : min 0 (wA0 l f) = 0 := by omega
  have z1 : min 0 (wA1 l r f la) = 0 := by omega
  have z2 : min 0 (wA2 l r f la) = 0 := by omega
  have z3 : min 0 (wA3 l r f la) = 0 := by omega
  have z4 : min 0 (wA4 l r t f la ti) = 0 := by omega
  have z5 : min 0 (wA5 l r t f la ti) = 0 := by omega
  unfold mvK mvC wkL wkR wkT
  rw [z0, z1, z2, z3, z4, z5]
  unfold s1D at d0 d1 d2 d3 d4 d5
  have hc := s1_cases h
  rcases hc with ⟨c0, k, e1, e2, e3, e4⟩ | ⟨c0, c1, k, e1, e2, e3, e4⟩ | ⟨c0, c1, c2, k, e1, e2, e3, e4⟩ | ⟨c0, c1, c2, k, e1, e2, e3, e4⟩ | ⟨c0, c1, c2, k, e1, e2, e3, e4⟩ | ⟨c0, c1, c2, k, e1, e2, e3, e4⟩
  · rw [k] at d0 d1 d2 d3 d4 d5 ⊢
    rw [e4, if_pos (by omega), if_pos (by omega)]
    exact ⟨rfl, by omega, by omega⟩
  · rw [k] at d0 d1 d2 d3 d4 d5 ⊢
    rw [e4, if_neg (by omega), if_pos (by omega), if_neg (by omega), if_pos (by omega)]
    exact ⟨rfl, by omega, by omega⟩
  · rw [k] at d0 d1 d2 d3 d4 d5 ⊢
    rw [e4, if_neg (by omega), if_neg (by omega), if_pos (by omega), if_neg (by omega), if_neg (by omega), if_pos (by omega)]
    exact ⟨rfl, by omega, by omega⟩
  · rw [k] at d0 d1 d2 d3 d4 d5 ⊢
    rw [e4, if_neg (by omega), if_neg (by omega), if_neg (by omega), if_pos (by omega), if_neg (by omega), if_neg (by omega), if_neg (by omega), if_pos (by omega)]
    exact ⟨rfl, by omega, by omega⟩
  · rw [k] at d0 d1 d2 d3 d4 d5 ⊢
    rw [e4, if_neg (by omega), if_neg (by omega), if_neg (by omega), if_neg (by omega), if_pos (by omega), if_neg (by omega), if_neg (by omega), if_neg (by omega), if_neg (by omega), if_pos (by omega)]
    exact ⟨rfl, by omega, by omega⟩
  · rw [k] at d0 d1 d2 d3 d4 d5 ⊢
    rw [e4, if_neg (by omega), if_neg (by omega), if_neg (by omega), if_neg (by omega), if_neg (by omega), if_neg (by omega), if_neg (by omega), if_neg (by omega), if_neg (by omega), if_neg (by omega)]
    exact ⟨rfl, by omega, by omega⟩
theorem s1_there (f la ti : Int) : wA5 f la ti f la ti = 0 ∧ wA3 f la f la = 0 := by
  unfold wA5 wA4 wA3 wA2 wA1 wA0
  omega
/-- what move answers, where goAhead comes to -/
def mvV (F L T P : Int → Int) (w : Int) (x : Option (Int × Int × Int × Int × Int)) : Int := match x with
  | none => -1
  | some (i, l, r, t, m) => if w = 2 then P i else if w = 0 then mvK l r t (F i) (L i) (T i) m else mvC l r t (F i) (L i) (T i) m
theorem ga_step {F L T P : Int → Int} {w i l r t m : Int} {d : Nat} (h : ¬ (l = F i ∧ r = L i ∧ t = T i)) (hm : 1 ≤ m) : mvV F L T P w (gaF F L T (d + 1) i l r t m) = mvV F L T P w (gaF F L T (d + 1) i (s1L l r (F i) (L i)) (s1R l r (F i) (L i)) (s1T l r t (F i) (L i) (T i)) (m - 1)) := by
  obtain ⟨-, -, -, -, -, d5⟩ := s1_A h
  have e5 : wA5 l r t (F i) (L i) (T i) = wA5 (s1L l r (F i) (L i)) (s1R l r (F i) (L i)) (s1T l r t (F i) (L i) (T i)) (F i) (L i) (T i) + 1 := d5.1 (by unfold s1K; repeat' split <;> omega)
  simp only [gaF]
  rw [e5]
  generalize hx : wA5 (s1L l r (F i) (L i)) (s1R l r (F i) (L i)) (s1T l r t (F i) (L i) (T i)) (F i) (L i) (T i) = x at *
  by_cases c : x + 1 ≤ m
  · rw [if_pos c, if_pos (show x ≤ m - 1 by omega), show m - (x + 1) = m - 1 - x by omega]
  · rw [if_neg c, if_neg (show ¬ x ≤ m - 1 by omega)]
    obtain ⟨k1, k2⟩ := s1_K h hm
    simp only [mvV]
    rw [k1, k2]
theorem ga_there {F L T : Int → Int} {i m : Int} {d : Nat} (hm : 0 ≤ m) : gaF F L T (d + 1) i (F i) (L i) (T i) m = gaF F L T d (i + 1) (F i) (L i) (T i) m := by
  obtain ⟨e1, e2⟩ := s1_there (F i) (L i) (T i)
  simp only [gaF]
  rw [e1, if_pos hm, Int.sub_zero]
theorem ga_0 {F L T P : Int → Int} {w i l r t : Int} {d : Nat} (h : ¬ (l = F i ∧ r = L i ∧ t = T i)) : mvV F L T P w (gaF F L T (d + 1) i l r t 0) = if w = 2 then P i else if w = 0 then s1K l r t (F i) (L i) (T i) else s1C l r t (F i) (L i) (T i) := by
  obtain ⟨e1, e2, e3⟩ := s1_0 h
  simp only [gaF]
  rw [if_neg (by omega)]
  simp only [mvV]
  rw [e1, e2]
theorem wl_step {F L T : Int → Int} {i l r t m e u : Int} {d : Nat} (h : ¬ (l = F i ∧ r = L i ∧ t = T i)) (hm : 1 ≤ m) : wlkF F L T (d + 1) i l r t m e u = wlkF F L T (d + 1) i (s1L l r (F i) (L i)) (s1R l r (F i) (L i)) (s1T l r t (F i) (L i) (T i)) (m - 1) (e + (if s1K l r t (F i) (L i) (T i) ≤ 3 then 1 else 0)) (u + (if s1K l r t (F i) (L i) (T i) ≤ 3 then 0 else 1)) := by
  obtain ⟨-, -, -, d3, -, d5⟩ := s1_A h
  have e5 : wA5 l r t (F i) (L i) (T i) = wA5 (s1L l r (F i) (L i)) (s1R l r (F i) (L i)) (s1T l r t (F i) (L i) (T i)) (F i) (L i) (T i) + 1 := d5.1 (by unfold s1K; repeat' split <;> omega)
  have e3 : wA3 l r (F i) (L i) = wA3 (s1L l r (F i) (L i)) (s1R l r (F i) (L i)) (F i) (L i) + (if s1K l r t (F i) (L i) (T i) ≤ 3 then 1 else 0) := by
    split
    · rename_i c; exact d3.1 c
    · rename_i c; obtain ⟨a, b⟩ := d3.2 (by omega); rw [a, b]; rfl
  obtain ⟨g1, g2, g3, g4, g5⟩ := s1_go h hm
  simp only [wlkF]
  rw [e5, e3]
  by_cases c : wA5 (s1L l r (F i) (L i)) (s1R l r (F i) (L i)) (s1T l r t (F i) (L i) (T i)) (F i) (L i) (T i) + 1 ≤ m
  · rw [if_pos c, if_pos (show wA5 (s1L l r (F i) (L i)) (s1R l r (F i) (L i)) (s1T l r t (F i) (L i) (T i)) (F i) (L i) (T i) ≤ m - 1 by omega)]
    congr 1
    · omega
    · omega
    · split <;> omega
  · rw [if_neg c, if_neg (show ¬ wA5 (s1L l r (F i) (L i)) (s1R l r (F i) (L i)) (s1T l r t (F i) (L i) (T i)) (F i) (L i) (T i) ≤ m - 1 by omega), g1, g2, g3, g4, g5]
    congr 6
    · omega
    · omega
theorem wl_there {F L T : Int → Int} {i m e u : Int} {d : Nat} (hm : 0 ≤ m) : wlkF F L T (d + 1) i (F i) (L i) (T i) m e u = wlkF F L T d (i + 1) (F i) (L i) (T i) m e u := by
  obtain ⟨e1, e2⟩ := s1_there (F i) (L i) (T i)
  simp only [wlkF]
  rw [e1, e2, if_pos hm, Int.sub_zero, Int.add_zero, Int.sub_self, Int.add_zero]
theorem wl_0 {F L T : Int → Int} {i l r t e u : Int} {d : Nat} (h : ¬ (l = F i ∧ r = L i ∧ t = T i)) : wlkF F L T (d + 1) i l r t 0 e u = (i, l, r, t, 0, e, u) := by
  obtain ⟨e1, e2, e3⟩ := s1_0 h
  obtain ⟨q0, q1, q2, q3, q4, q5⟩ := wA_le l r t (F i) (L i) (T i)
  simp only [wlkF]
  rw [if_neg (by omega)]
  unfold wkL wkR wkT wkE wkU
  rw [Int.min_eq_left (show 0 ≤ wA0 l (F i) by omega), Int.min_eq_left (show 0 ≤ wA1 l r (F i) (L i) by omega), Int.min_eq_left (show 0 ≤ wA2 l r (F i) (L i) by omega), Int.min_eq_left (show 0 ≤ wA3 l r (F i) (L i) by omega), Int.min_eq_left (show 0 ≤ wA4 l r t (F i) (L i) (T i) by omega), Int.min_eq_left (show 0 ≤ wA5 l r t (F i) (L i) (T i) by omega)]
  simp
