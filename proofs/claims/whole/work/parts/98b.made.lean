/-! what the two constructors made, as the first world -/
def iw_L (h0 : Nat) (u : List Nat) (h1 : Nat) (v : List Nat) : List Nat := [h0, (u.getD 0 0), (u.getD 1 0), (u.getD 2 0), (u.getD 3 0), (u.getD 4 0), (u.getD 5 0), (u.getD 6 0), (u.getD 7 0), (u.getD 8 0), (u.getD 9 0), (u.getD 10 0), (u.getD 11 0), (u.getD 12 0), (u.getD 13 0), (u.getD 14 0), (u.getD 15 0), (u.getD 16 0), (u.getD 17 0), (u.getD 18 0), (u.getD 19 0), (u.getD 20 0), (u.getD 21 0), (u.getD 22 0), (u.getD 23 0), (u.getD 24 0), (u.getD 25 0), (u.getD 26 0), (u.getD 27 0), (u.getD 28 0), (u.getD 29 0), (u.getD 30 0), (u.getD 31 0), (u.getD 32 0), (u.getD 33 0), ((u.getD 33 0) + 1 + 0), ((u.getD 33 0) + 1 + 1), ((u.getD 33 0) + 1 + 2), ((u.getD 33 0) + 1 + 3), ((u.getD 33 0) + 1 + 4), (u.getD 39 0), (u.getD 40 0), (u.getD 41 0), (u.getD 42 0), (u.getD 43 0), (u.getD 44 0), (u.getD 45 0), (u.getD 46 0), (u.getD 47 0), (u.getD 48 0), ((u.getD 48 0) + 1 + 0), ((u.getD 48 0) + 1 + 1), ((u.getD 48 0) + 1 + 2), ((u.getD 48 0) + 1 + 3), ((u.getD 48 0) + 1 + 4), ((u.getD 48 0) + 1 + 5), ((u.getD 48 0) + 1 + 6), ((u.getD 48 0) + 1 + 7), ((u.getD 48 0) + 1 + 8), ((u.getD 48 0) + 1 + 9), ((u.getD 48 0) + 1 + 10), ((u.getD 48 0) + 1 + 11), h1, (v.getD 0 0), (v.getD 1 0), (v.getD 2 0), (v.getD 3 0), (v.getD 4 0), (v.getD 5 0), (v.getD 6 0), (v.getD 7 0), (v.getD 8 0), (v.getD 9 0), (v.getD 10 0), (v.getD 11 0), (v.getD 12 0), (v.getD 13 0)]
def iw_ad (h0 : Nat) (u : List Nat) (h1 : Nat) (v : List Nat) (ks : Nat → Nat) : Nat → Nat := fun o => if o < 1000 then (iw_L h0 u h1 v).getD o 0 else ks (o - 1000)
theorem vp_ref {cA : ClassId} {N : Nat} {f g : Nat → Option Nat} (h : ∀ j, j < N → f j = g j) : vp_cell cA (N, .inr (.inr (.inr (.inr f)))) = vp_cell cA (N, .inr (.inr (.inr (.inr g)))) := by
  show arrV cA N (fun j => va_rf (f j)) = arrV cA N (fun j => va_rf (g j))
  unfold arrV
  congr 1
  apply Array.ext_getElem?
  intro j
  by_cases hj : j < N
  · rw [Array.getElem?_ofFn, Array.getElem?_ofFn]
    simp [hj, h j hj]
  · rw [Array.getElem?_eq_none (by simp; omega), Array.getElem?_eq_none (by simp; omega)]
set_option maxRecDepth 100000 in
theorem iw_map (G : ClassId × ClassId × ClassId) (h0 : Nat) (u : List Nat) (h1 : Nat) (v : List Nat) : (cw_10 G h0 u ++ cw_11 G h1 v).map (fun q => q.1) = iw_L h0 u h1 v := rfl
set_option maxRecDepth 100000 in
set_option maxHeartbeats 4000000 in
theorem iw_P {D : va_G} {G : ClassId × ClassId × ClassId} {h0 h1 : Nat} {u v : List Nat} {ks : Nat → Nat} {H : Heap} (P : va_P D vwCl (cw_10 G h0 u ++ cw_11 G h1 v) H) : va_P D vwCl (mm_ws (iw_ad h0 u h1 v ks) G M0) H := by
  intro k q hk
  obtain ⟨hk77, rfl⟩ := mm_ws_inv hk
  match k, hk77 with
  | 0, _ => exact P 0 _ rfl
  | 1, _ => exact P 1 _ rfl
  | 2, _ => exact P 2 _ rfl
  | 3, _ => exact P 3 _ rfl
  | 4, _ => exact P 4 _ rfl
  | 5, _ => exact P 5 _ rfl
  | 6, _ => exact P 6 _ rfl
  | 7, _ => exact P 7 _ rfl
  | 8, _ => exact P 8 _ rfl
  | 9, _ => exact P 9 _ rfl
  | 10, _ => exact P 10 _ rfl
  | 11, _ => exact P 11 _ rfl
  | 12, _ => exact P 12 _ rfl
  | 13, _ => exact P 13 _ rfl
  | 14, _ => exact P 14 _ rfl
  | 15, _ => exact P 15 _ rfl
  | 16, _ => exact P 16 _ rfl
  | 17, _ => exact P 17 _ rfl
  | 18, _ => exact P 18 _ rfl
  | 19, _ => exact P 19 _ rfl
  | 20, _ => exact P 20 _ rfl
  | 21, _ => exact P 21 _ rfl
  | 22, _ => exact P 22 _ rfl
  | 23, _ => exact P 23 _ rfl
  | 24, _ => exact P 24 _ rfl
  | 25, _ => exact P 25 _ rfl
  | 26, _ => exact P 26 _ rfl
  | 27, _ => exact P 27 _ rfl
  | 28, _ => exact P 28 _ rfl
  | 29, _ => exact P 29 _ rfl
  | 30, _ => exact P 30 _ rfl
  | 31, _ => exact P 31 _ rfl
  | 32, _ => exact P 32 _ rfl
  | 33, _ => exact P 33 _ rfl
  | 34, _ =>
    have h9 := P 34 _ rfl
    refine Eq.trans (show H[(u.getD 33 0)]? = _ from h9) (congrArg some (vp_ref (fun j hj => ?_)))
    rcases (show j = 0 ∨ j = 1 ∨ j = 2 ∨ j = 3 ∨ j = 4 by omega) with rfl | rfl | rfl | rfl | rfl <;> rfl
  | 35, _ => exact P 35 _ rfl
  | 36, _ => exact P 36 _ rfl
  | 37, _ => exact P 37 _ rfl
  | 38, _ => exact P 38 _ rfl
  | 39, _ => exact P 39 _ rfl
  | 40, _ => exact P 40 _ rfl
  | 41, _ => exact P 41 _ rfl
  | 42, _ => exact P 42 _ rfl
  | 43, _ => exact P 43 _ rfl
  | 44, _ => exact P 44 _ rfl
  | 45, _ => exact P 45 _ rfl
  | 46, _ => exact P 46 _ rfl
  | 47, _ => exact P 47 _ rfl
  | 48, _ => exact P 48 _ rfl
  | 49, _ =>
    have h9 := P 49 _ rfl
    refine Eq.trans (show H[(u.getD 48 0)]? = _ from h9) (congrArg some (vp_ref (fun j hj => ?_)))
    rcases (show j = 0 ∨ j = 1 ∨ j = 2 ∨ j = 3 ∨ j = 4 ∨ j = 5 ∨ j = 6 ∨ j = 7 ∨ j = 8 ∨ j = 9 ∨ j = 10 ∨ j = 11 by omega) with rfl | rfl | rfl | rfl | rfl | rfl | rfl | rfl | rfl | rfl | rfl | rfl <;> rfl
  | 50, _ => exact P 50 _ rfl
  | 51, _ => exact P 51 _ rfl
  | 52, _ => exact P 52 _ rfl
  | 53, _ => exact P 53 _ rfl
  | 54, _ => exact P 54 _ rfl
  | 55, _ => exact P 55 _ rfl
  | 56, _ => exact P 56 _ rfl
  | 57, _ => exact P 57 _ rfl
  | 58, _ => exact P 58 _ rfl
  | 59, _ => exact P 59 _ rfl
  | 60, _ => exact P 60 _ rfl
  | 61, _ => exact P 61 _ rfl
  | 62, _ => exact P 62 _ rfl
  | 63, _ => exact P 63 _ rfl
  | 64, _ => exact P 64 _ rfl
  | 65, _ => exact P 65 _ rfl
  | 66, _ => exact P 66 _ rfl
  | 67, _ => exact P 67 _ rfl
  | 68, _ => exact P 68 _ rfl
  | 69, _ => exact P 69 _ rfl
  | 70, _ => exact P 70 _ rfl
  | 71, _ => exact P 71 _ rfl
  | 72, _ => exact P 72 _ rfl
  | 73, _ => exact P 73 _ rfl
  | 74, _ => exact P 74 _ rfl
  | 75, _ => exact P 75 _ rfl
  | 76, _ => exact P 76 _ rfl
  | k + 77, h => exact absurd h (by omega)
theorem iw_inj {A : Nat → Prop} {G : ClassId × ClassId × ClassId} {h0 h1 : Nat} {u v : List Nat} (ks : Nat → Nat) (hD : va_D A (cw_10 G h0 u ++ cw_11 G h1 v)) : (∀ i j, i < 77 → j < 77 → iw_ad h0 u h1 v ks i = iw_ad h0 u h1 v ks j → i = j) ∧ ∀ o, o < 77 → A (iw_ad h0 u h1 v ks o) := by
  have hget : ∀ i, i < 77 → ∃ q, (cw_10 G h0 u ++ cw_11 G h1 v)[i]? = some q ∧ q.1 = iw_ad h0 u h1 v ks i := by
    intro i hi
    have hm := congrArg (fun l => l[i]?) (iw_map G h0 u h1 v)
    simp only [List.getElem?_map] at hm
    have hlen : (iw_L h0 u h1 v).length = 77 := rfl
    have hx : (iw_L h0 u h1 v)[i]? = some (iw_ad h0 u h1 v ks i) := by
      unfold iw_ad
      rw [if_pos (by omega), List.getD_eq_getElem?_getD, List.getElem?_eq_getElem (by omega)]
      rfl
    rw [hx] at hm
    cases hc : (cw_10 G h0 u ++ cw_11 G h1 v)[i]? with
    | none => rw [hc] at hm; cases hm
    | some q => rw [hc] at hm; exact ⟨q, rfl, Option.some.inj hm⟩
  refine ⟨fun i j hi hj hij => ?_, fun o ho => ?_⟩
  · obtain ⟨p, hp, hp1⟩ := hget i hi
    obtain ⟨q, hq, hq1⟩ := hget j hj
    exact hD.1 i j p q hp hq (by rw [hp1, hq1]; exact hij)
  · obtain ⟨p, hp, hp1⟩ := hget o ho
    rw [← hp1]
    exact hD.2 o p hp
