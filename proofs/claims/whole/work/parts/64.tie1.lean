/-! ties: the same plan, the same costs -/
def tieZ (tP tM : mmT) (A B : List mmV) (c : Int) (M : mmM) : Prop := tP A M (fun r M1 => ∃ z, r = some (vi z) ∧ tM B M1 (fun r' M2 => r' = some (vi z) ∧ tieR (c + 1) M2))
def tieL (tP tM : mmT) (A B : List mmV) (c : Int) (M : mmM) : Prop := tP A M (fun r M1 => ∃ z, r = some (vl z) ∧ tM B M1 (fun r' M2 => r' = some (vl z) ∧ tieR (c + 1) M2))
/-- M's planner and N's reference have the same questions -/
def qE (M N : mmM) : Prop := N 62 8 = M 18 4 ∧ M 18 4 ≤ 25 ∧ ∀ q, 0 ≤ q → q < M 18 4 → mk N q = M 19 q ∧ mf N q = M 20 q ∧ ml N q = M 21 q ∧ mt N q = M 22 q
theorem tie_qE {c : Int} {M : mmM} (h : tieR c M) : qE M M := ⟨h.2.1.1.2.2.2.1, by have := h.1.2.1.2.1; omega, h.2.1.2.2.2.2.2.1⟩
theorem qE_S {M N : mmM} (h : qE M N) (wo q : Int) : sPl M 18 wo q ↔ mS N wo q := by
  unfold sPl mS
  rw [h.1]
  constructor
  · rintro ⟨a, b, c, d⟩
    refine ⟨a, b, c, ?_⟩
    rw [(h.2.2 q a b).1]
    exact d
  · rintro ⟨a, b, c, d⟩
    refine ⟨a, b, c, ?_⟩
    rw [(h.2.2 q a b).1] at d
    exact d
theorem qE_U {M N : mmM} (h : qE M N) (q : Int) : sUn M 18 q ↔ mU N q := by
  unfold sUn mU
  rw [h.1]
  constructor
  · rintro ⟨a, b, d⟩
    refine ⟨a, b, ?_⟩
    rw [(h.2.2 q a b).1]
    exact d
  · rintro ⟨a, b, d⟩
    refine ⟨a, b, ?_⟩
    rw [(h.2.2 q a b).1] at d
    exact d
theorem qE_w {M N : mmM} (h : qE M N) {wo ord b q r : Int} (hq : sPl M 18 wo q) (hr : sPl M 18 wo r) : kyf M 18 ord b q < kyf M 18 ord b r ↔ mwt N ord b q < mwt N ord b r := by
  have h1 := h.2.2 q hq.1 hq.2.1
  have h2 := h.2.2 r hr.1 hr.2.1
  have n := h.2.1
  have q0 := hq.1
  have q1 := hq.2.1
  have r0 := hr.1
  have r1 := hr.2.1
  unfold kyf mwt
  rw [h1.2.1, h1.2.2.1, h1.2.2.2, h2.2.1, h2.2.2.1, h2.2.2.2]
  show pA ord b (M 20 q) (M 21 q) (M 22 q) * 32 + q < pA ord b (M 20 r) (M 21 r) (M 22 r) * 32 + r ↔ _
  generalize pA ord b (M 20 q) (M 21 q) (M 22 q) = A
  generalize pA ord b (M 20 r) (M 21 r) (M 22 r) = B
  omega
theorem qE_v {M N : mmM} (h : qE M N) {b q r : Int} (hq : sUn M 18 q) (hr : sUn M 18 r) : kuf M 18 b q < kuf M 18 b r ↔ uwt N b q < uwt N b r := by
  have h1 := h.2.2 q hq.1 hq.2.1
  have h2 := h.2.2 r hr.1 hr.2.1
  have n := h.2.1
  have q0 := hq.1
  have q1 := hq.2.1
  have r0 := hr.1
  have r1 := hr.2.1
  unfold kuf uwt
  rw [h1.2.1, h1.2.2.1, h1.2.2.2, h2.2.1, h2.2.2.1, h2.2.2.2]
  show ((M 22 q * 64 + M 20 q / b) * 64 + M 21 q) * 32 + q < ((M 22 r * 64 + M 20 r / b) * 64 + M 21 r) * 32 + r ↔ _
  generalize (M 22 q * 64 + M 20 q / b) * 64 + M 21 q = A
  generalize (M 22 r * 64 + M 20 r / b) * 64 + M 21 r = B
  omega
theorem ord_pl {M N : mmM} (h : qE M N) {wo ord b n n' : Int} {P P' : Int → Int} (hP : isOrd (sPl M 18 wo) (kyf M 18 ord b) P n) (hP' : isOrd (mS N wo) (mwt N ord b) P' n') : n = n' ∧ ∀ i, 0 ≤ i → i < n → P i = P' i :=
  isOrd_uniq hP (isOrd_cong hP' (fun q => (qE_S h wo q).symm) (fun _ _ => rfl) (fun _ _ _ => rfl)) (fun _ _ a b => qE_w h a b)
theorem ord_un {M N : mmM} (h : qE M N) {b n n' : Int} {P P' : Int → Int} (hP : isOrd (sUn M 18) (kuf M 18 b) P n) (hP' : isOrd (mU N) (uwt N b) P' n') : n = n' ∧ ∀ i, 0 ≤ i → i < n → P i = P' i :=
  isOrd_uniq hP (isOrd_cong hP' (fun q => (qE_U h q).symm) (fun _ _ => rfl) (fun _ _ _ => rfl)) (fun _ _ a b => qE_v h a b)
theorem stE_2 {f l P f' l' P' : Int → Int} : ∀ k : Nat, (∀ i : Nat, i ≤ k → f (P i) = f' (P' i) ∧ l (P i) = l' (P' i)) → stE f l P k = stE f' l' P' k
  | 0, h => by
    have := h 0 (Nat.le_refl _)
    unfold stE
    show dA 0 _ + dA (-1) _ = dA 0 _ + dA (-1) _
    rw [this.1, this.2]
  | k + 1, h => by
    have h1 := h k (by omega)
    have h2 := h (k + 1) (by omega)
    unfold stE
    rw [pv_s, pv_s, pv_s, pv_s, h1.1, h1.2, h2.1, h2.2]
theorem stU_2 {t P t' P' : Int → Int} : ∀ k : Nat, (∀ i : Nat, i ≤ k → t (P i) = t' (P' i)) → stU t P k = stU t' P' k
  | 0, h => by
    have := h 0 (Nat.le_refl _)
    unfold stU
    show dA 0 _ = dA 0 _
    rw [this]
  | k + 1, h => by
    have h1 := h k (by omega)
    have h2 := h (k + 1) (by omega)
    unfold stU
    rw [pv_s, pv_s, h1, h2]
theorem mxN_cong {g g' : Int → Int} : ∀ n : Nat, (∀ k : Nat, k < n → g k = g' k) → mxN g n = mxN g' n
  | 0, _ => rfl
  | n + 1, h => by
    simp only [mxN]
    rw [mxN_cong n (fun k hk => h k (by omega)), h n (by omega)]
/-- the two plans' questions, place by place -/
def sam (f l t P f' l' t' P' : Int → Int) (n : Int) : Prop := ∀ i, 0 ≤ i → i < n → P i = P' i ∧ f (P i) = f' (P' i) ∧ l (P i) = l' (P' i) ∧ t (P i) = t' (P' i)
theorem sam_E {f l t P f' l' t' P' : Int → Int} {n : Int} (h : sam f l t P f' l' t' P' n) {m : Int} (hm : m ≤ n) : sN (stE f l P) m.toNat = sN (stE f' l' P') m.toNat ∧ sN (stU t P) m.toNat = sN (stU t' P') m.toNat ∧ mxN (fun i => stE f l P i + stU t P i) m.toNat = mxN (fun i => stE f' l' P' i + stU t' P' i) m.toNat := by
  have hE : ∀ k : Nat, k < m.toNat → stE f l P k = stE f' l' P' k := fun k hk => stE_2 k (fun i hi => by have := h i (by omega) (by omega); exact ⟨this.2.1, this.2.2.1⟩)
  have hU : ∀ k : Nat, k < m.toNat → stU t P k = stU t' P' k := fun k hk => stU_2 k (fun i hi => by have := h i (by omega) (by omega); exact this.2.2.2)
  exact ⟨sN_cong _ hE, sN_cong _ hU, mxN_cong _ (fun k hk => by rw [hE k hk, hU k hk])⟩
theorem sam_co {f l t P f' l' t' P' : Int → Int} {n : Int} (h : sam f l t P f' l' t' P' n) {m w : Int} (hm : m ≤ n) : coF f l t P m w = coF f' l' t' P' m w := by
  obtain ⟨a, b, -⟩ := sam_E h hm
  unfold coF
  rw [a, b]
theorem sam_cr {f l t P f' l' t' P' : Int → Int} {n w : Int} (h : sam f l t P f' l' t' P' n) : crF f l t P n w = crF f' l' t' P' n w := by
  unfold crF
  refine crW_cong (fun i i0 i1 => ?_)
  have hi := h i i0 i1
  refine ⟨?_, sam_co h (by omega)⟩
  unfold anW
  rw [hi.2.1, hi.2.2.1, hi.2.2.2]
theorem qE_sam {M N : mmM} (h : qE M N) {wo ord b n : Int} {P P' : Int → Int} (hP : isOrd (sPl M 18 wo) (kyf M 18 ord b) P n) (he : ∀ i, 0 ≤ i → i < n → P i = P' i) : sam (M 20) (M 21) (M 22) P (mf N) (ml N) (mt N) P' n := by
  intro i i0 i1
  have hs := hP.2.1 i i0 i1
  have hq := h.2.2 (P i) hs.1 hs.2.1
  rw [← he i i0 i1, hq.2.1, hq.2.2.1, hq.2.2.2]
  exact ⟨rfl, rfl, rfl, rfl⟩
theorem qE_samU {M N : mmM} (h : qE M N) {b n : Int} {P P' : Int → Int} (hP : isOrd (sUn M 18) (kuf M 18 b) P n) (he : ∀ i, 0 ≤ i → i < n → P i = P' i) : sam (M 20) (M 21) (M 22) P (mf N) (ml N) (mt N) P' n := by
  intro i i0 i1
  have hs := hP.2.1 i i0 i1
  have hq := h.2.2 (P i) hs.1 hs.2.1
  rw [← he i i0 i1, hq.2.1, hq.2.2.1, hq.2.2.2]
  exact ⟨rfl, rfl, rfl, rfl⟩
theorem cst_eq {M N : mmM} (h : qE M N) (hw : N 62 10 = M 0 9) (ord b wo : Int) : cstM M ord b wo = cstR N ord b wo := by
  unfold cstM cstR
  by_cases hx : ∃ q : (Int → Int) × Int, isOrd (sPl M 18 wo) (kyf M 18 ord b) q.1 q.2
  · obtain ⟨⟨P, n⟩, hP⟩ := hx
    have hP : isOrd (sPl M 18 wo) (kyf M 18 ord b) P n := hP
    have hP2 : isOrd (mS N wo) (mwt N ord b) P n := by
      have h1 : isOrd (mS N wo) (kyf M 18 ord b) P n := isOrd_cong hP (fun q => qE_S h wo q) (fun _ _ => rfl) (fun _ _ _ => rfl)
      obtain ⟨a0, a1, a2, a3⟩ := h1
      refine ⟨a0, a1, fun i j i0 ij j1 => ?_, a3⟩
      exact (qE_w h ((qE_S h wo _).mpr (a1 i i0 (by omega))) ((qE_S h wo _).mpr (a1 j (by omega) j1))).mp (a2 i j i0 ij j1)
    rw [← coV_self hP, ← coV_self hP2, hw]
    exact sam_co (qE_sam h hP (fun _ _ _ => rfl)) (Int.le_refl _)
  · have hx2 : ¬ ∃ q : (Int → Int) × Int, isOrd (mS N wo) (mwt N ord b) q.1 q.2 := by
      rintro ⟨⟨P, n⟩, hP⟩
      have hP : isOrd (mS N wo) (mwt N ord b) P n := hP
      apply hx
      refine ⟨(P, n), ?_⟩
      have h1 : isOrd (sPl M 18 wo) (mwt N ord b) P n := isOrd_cong hP (fun q => (qE_S h wo q).symm) (fun _ _ => rfl) (fun _ _ _ => rfl)
      obtain ⟨a0, a1, a2, a3⟩ := h1
      refine ⟨a0, a1, fun i j i0 ij j1 => ?_, a3⟩
      exact (qE_w h (a1 i i0 (by omega)) (a1 j (by omega) j1)).mpr (a2 i j i0 ij j1)
    unfold coV
    rw [dif_neg hx, dif_neg hx2]
theorem unF_c {F L A F' L' A' : Int → Int} {b c : Int} : ∀ n : Nat, (∀ k : Nat, k < n → F k = F' k ∧ L k = L' k ∧ A k = A' k) → unF F L A b c n = unF F' L' A' b c n
  | 0, _ => rfl
  | n + 1, h => by
    have ih := unF_c (b := b) (c := c) n (fun k hk => h k (by omega))
    have h1 := h n (by omega)
    simp only [unF]
    rw [ih, h1.1, h1.2.1, h1.2.2]
    by_cases c0 : 0 < (n : Int)
    · have h2 := h (n - 1) (by omega)
      rw [show ((n - 1 : Nat) : Int) = (n : Int) - 1 by omega] at h2
      rw [h2.2.2]
    · have k1 : ¬ (0 < (n : Int) ∧ A' n = A ((n : Int) - 1)) := fun w => c0 w.1
      have k2 : ¬ (0 < (n : Int) ∧ A' n = A' ((n : Int) - 1)) := fun w => c0 w.1
      rw [if_neg k1, if_neg k2]
theorem mvV_c {F L T P F' L' T' P' : Int → Int} {w : Int} : ∀ (d : Nat) (j l r t m : Int), (∀ i, j ≤ i → i < j + d → P i = P' i ∧ F i = F' i ∧ L i = L' i ∧ T i = T' i) → mvV F L T P w (gaF F L T d j l r t m) = mvV F' L' T' P' w (gaF F' L' T' d j l r t m)
  | 0, _, _, _, _, _, _ => rfl
  | d + 1, j, l, r, t, m, h => by
    obtain ⟨e0, e1, e2, e3⟩ := h j (by omega) (by omega)
    simp only [gaF]
    rw [e1, e2, e3]
    by_cases c : wA5 l r t (F' j) (L' j) (T' j) ≤ m
    · rw [if_pos c, if_pos c]
      exact mvV_c d (j + 1) _ _ _ _ (fun i a b => h i (by omega) (by omega))
    · rw [if_neg c, if_neg c]
      simp only [mvV]
      rw [e0, e1, e2, e3]
theorem wlk_c {F L T F' L' T' : Int → Int} : ∀ (d : Nat) (j l r t m e u : Int), (∀ i, j ≤ i → i < j + d → F i = F' i ∧ L i = L' i ∧ T i = T' i) → wlkF F L T d j l r t m e u = wlkF F' L' T' d j l r t m e u
  | 0, _, _, _, _, _, _, _, _ => rfl
  | d + 1, j, l, r, t, m, e, u, h => by
    obtain ⟨e1, e2, e3⟩ := h j (by omega) (by omega)
    simp only [wlkF]
    rw [e1, e2, e3]
    by_cases c : wA5 l r t (F' j) (L' j) (T' j) ≤ m
    · rw [if_pos c, if_pos c]
      exact wlk_c d (j + 1) _ _ _ _ _ _ (fun i a b => h i (by omega) (by omega))
    · rw [if_neg c, if_neg c]
/-! the window stays in order along a walk -/
def wOk (nc ch l r t : Int) : Prop := 0 ≤ l ∧ l ≤ r + 1 ∧ r < nc ∧ 0 ≤ t ∧ t ≤ ch
theorem s1_ok {nc ch l r t f la ti : Int} (h : ¬ (l = f ∧ r = la ∧ t = ti)) (hw : wOk nc ch l r t) (hf : 0 ≤ f ∧ f ≤ la ∧ la < nc ∧ 0 ≤ ti ∧ ti ≤ ch) : wOk nc ch (s1L l r f la) (s1R l r f la) (s1T l r t f la ti) := by
  unfold wOk at *
  rcases s1_cases h with ⟨c0, k, e1, e2, e3, e4⟩ | ⟨c0, c1, k, e1, e2, e3, e4⟩ | ⟨c0, c1, c2, k, e1, e2, e3, e4⟩ | ⟨c0, c1, c2, k, e1, e2, e3, e4⟩ | ⟨c0, c1, c2, k, e1, e2, e3, e4⟩ | ⟨c0, c1, c2, k, e1, e2, e3, e4⟩ <;> rw [e1, e2, e3] <;> omega
theorem wlk_ok {F L T : Int → Int} {nc ch : Int} : ∀ (d m : Nat) (j l r t e u : Int), (∀ i, j ≤ i → i < j + d → 0 ≤ F i ∧ F i ≤ L i ∧ L i < nc ∧ 0 ≤ T i ∧ T i ≤ ch) → wOk nc ch l r t → ∃ k' l' r' t' m' e' u', wlkF F L T d j l r t m e u = (k', l', r', t', m', e', u') ∧ j ≤ k' ∧ k' ≤ j + d ∧ wOk nc ch l' r' t' ∧ 0 ≤ m' ∧ m' ≤ m ∧ e ≤ e' ∧ e' ≤ e + m ∧ u ≤ u' ∧ u' ≤ u + m
  | 0, m, j, l, r, t, e, u, _, hw => ⟨j, l, r, t, m, e, u, rfl, by omega, by omega, hw, by omega, by omega, by omega, by omega, by omega, by omega⟩
  | d + 1, m, j, l, r, t, e, u, h, hw => by
    have hj := h j (by omega) (by omega)
    by_cases c : l = F j ∧ r = L j ∧ t = T j
    · obtain ⟨c1, c2, c3⟩ := c
      rw [c1, c2, c3, wl_there (by omega)]
      obtain ⟨k', l', r', t', m', e', u', g0, g1, g2, g3⟩ := wlk_ok d m (j + 1) (F j) (L j) (T j) e u (fun i a b => h i (by omega) (by omega)) (by rw [← c1, ← c2, ← c3]; exact hw)
      exact ⟨k', l', r', t', m', e', u', g0, by omega, by omega, g3⟩
    · match m with
      | 0 => exact ⟨j, l, r, t, 0, e, u, wl_0 c, by omega, by omega, hw, by omega, by omega, by omega, by omega, by omega, by omega⟩
      | m + 1 =>
        have hs := wl_step (F := F) (L := L) (T := T) (d := d) (e := e) (u := u) (m := ((m + 1 : Nat) : Int)) c (by omega)
        rw [hs, show ((m + 1 : Nat) : Int) - 1 = m by omega]
        obtain ⟨k', l', r', t', m', e', u', g0, g1, g2, g3, g4, g5, g6, g7, g8, g9⟩ := wlk_ok (d + 1) m j _ _ _ (e + (if s1K l r t (F j) (L j) (T j) ≤ 3 then 1 else 0)) (u + (if s1K l r t (F j) (L j) (T j) ≤ 3 then 0 else 1)) h (s1_ok c hw hj)
        refine ⟨k', l', r', t', m', e', u', g0, g1, g2, g3, g4, by omega, ?_, ?_, ?_, ?_⟩
        · split at g6 <;> omega
        · split at g7 <;> omega
        · split at g8 <;> omega
        · split at g9 <;> omega
